theorem yk_X4_takenAhead : vx_yV yX4_takenAhead cX4_takenAhead 4 (some .int) 2 := ⟨(tm_21 (List.mem_of_getElem? (i := 15) rfl)), (tm_1 (List.mem_of_getElem? (i := 2) rfl)), by decide +kernel, (tm_21 (List.mem_of_getElem? (i := 13) rfl)), (tm_21 (List.mem_of_getElem? (i := 14) rfl))⟩
set_option maxHeartbeats 4000000 in
set_option maxRecDepth 100000 in
theorem kk_X4_takenAhead (l : Launch) (g : vx_G) (S : vx_St) (hgx brx : Int32) (n : Nat) (hn : S.1 3 0 = nI n) (hn8 : n ≤ 8) (hb6 : vx_b01 (S.1 11 6) = S.1 11 6) (hb7 : vx_b01 (S.1 11 7) = S.1 11 7) (hh : Nat) (hhr : S.1 11 2 = nI hh) (hh9 : hh ≤ 9) : vx_M l g yX4_takenAhead cX4_takenAhead 4 (some .int) (vx_R 4 94) [.ref (g.2.2.1 0), .int hgx, .int brx] S (vx_pi (fun r S' => r = pu_TA (pu_hs S) (S.1 10) (S.1 11 6) n hh hgx (S.1 11 4) (S.1 11 7) (S.1 11 8) brx ∧ pu_chg S S' [20, 21, 22, 23])) := by
  refine vx_M.intro (by decide) (Nat.le_of_ble_eq_true rfl) ?_
  intro p e s m args below meth c C
  have lp35 : ∀ (fu : Nat) (i : Nat) (S1 : vx_St), (9 - i < fu ∧ i ≤ 9 ∧ pu_chg S S1 [20, 21, 22, 23] ∧ S1.1 20 2 = nI i ∧ S1.1 20 5 = brx ∧ S1.1 20 6 = S.1 11 6 ∧ pu_ah (pu_hs S) (S.1 10) (S.1 11 6) brx n (9 - i) (S1.1 20 1) (nI i) (S1.1 20 4) (S1.1 20 7) (S1.1 20 8) = pu_ah (pu_hs S) (S.1 10) (S.1 11 6) brx n (9 - hh) hgx (nI hh) (S.1 11 4) (S.1 11 7) (S.1 11 8)) → vx_V p l e (vx_R 4 94) s m args below meth c (MQ below (vx_Q g (vx_pi (fun r S' => r = pu_TA (pu_hs S) (S.1 10) (S.1 11 6) n hh hgx (S.1 11 4) (S.1 11 7) (S.1 11 8) brx ∧ pu_chg S S' [20, 21, 22, 23]))) args s 0 0 (vx_A g)) g 4 35 [(0, .ref (g.2.2.1 0)), (3, .int (nI i))] [] (S1) := by
    intro fu
    induction fu with
    | zero =>
      intro i S1 hfu
      exact absurd hfu.1 (by omega)
    | succ fu ih =>
      intro i S1 hfu
      obtain ⟨hf1, hf2, hc, r2, r5, r6, hst⟩ := hfu
      have hn1 : S1.1 3 0 = nI n := by rw [hc.2 3 (by decide)]; exact hn
      have hs1 : pu_hs S1 = pu_hs S := (pu_hs_c (fun c h1 h2 => hc.2 c (by simp only [List.mem_cons, List.not_mem_nil, or_false, not_or]; omega)))
      have wy1 : S1.1 10 = S.1 10 := hc.2 10 (by decide)
      have tb1 : S1.1 11 8 = S.1 11 8 := by rw [hc.2 11 (by decide)]
      refine vv_iload_n C dX4_takenAhead_35 rfl 1 rfl ?_
      refine vv_bipush (v := (nI 9)) C dX4_takenAhead_36 (by decide) ?_
      refine vv_icmp_ge (tgt := 79) C dX4_takenAhead_38 (by decide) (fun h38 => ?_) (fun h38 => ?_)
      · have g38 := pu_le h38
        have hge := pu_geT rfl (by omega) (by omega) h38
        refine vv_aload_n C dX4_takenAhead_79 rfl 0 rfl ?_
        refine vv_gR C (a := 0) (k := 4) (b := 20) inlX4 rfl rfl rfl rfl (by decide) rfl (tm_2 (List.mem_of_getElem? (i := 5) rfl)) dX4_takenAhead_80 ?_
        refine vv_getIN C (a := 20) (k := 8) (o := 0) inlX0 rfl rfl rfl (by decide) rfl (List.mem_of_getElem? (i := 25) rfl) dX4_takenAhead_83 ?_
        refine vv_aload_n C dX4_takenAhead_86 rfl 0 rfl ?_
        refine vv_gR C (a := 0) (k := 2) (b := 11) inlX4 rfl rfl rfl rfl (by decide) rfl (tm_2 (List.mem_of_getElem? (i := 0) rfl)) dX4_takenAhead_87 ?_
        refine vv_getIN C (a := 11) (k := 8) (o := 0) inlX0 rfl rfl rfl (by decide) rfl (List.mem_of_getElem? (i := 25) rfl) dX4_takenAhead_90 ?_
        refine vv_isub C dX4_takenAhead_93 ?_
        refine vv_jret C dX4_takenAhead_94 ?_
        have hfin : S1.1 20 8 = pu_ah (pu_hs S) (S.1 10) (S.1 11 6) brx n (9 - hh) hgx (nI hh) (S.1 11 4) (S.1 11 7) (S.1 11 8) := by
          rw [← hst, show 9 - i = 0 by omega, pu_ah]
        exact ⟨by rw [hfin, tb1]; rfl, hc⟩
      · have g38 := pu_nle h38
        have hlt := pu_geF rfl (by omega) (by omega) h38
        refine vv_aload_n C dX4_takenAhead_41 rfl 0 rfl ?_
        refine vv_gR C (a := 0) (k := 4) (b := 20) inlX4 rfl rfl rfl rfl (by decide) rfl (tm_2 (List.mem_of_getElem? (i := 5) rfl)) dX4_takenAhead_42 ?_
        refine vv_getZN C (a := 20) (k := 7) (o := 0) inlX0 rfl rfl rfl (by decide) rfl (List.mem_of_getElem? (i := 24) rfl) dX4_takenAhead_45 ?_
        refine vv_ifz_ne (tgt := 79) C dX4_takenAhead_48 (by decide) (fun h48 => ?_) (fun h48 => ?_)
        · refine vv_aload_n C dX4_takenAhead_79 rfl 0 rfl ?_
          refine vv_gR C (a := 0) (k := 4) (b := 20) inlX4 rfl rfl rfl rfl (by decide) rfl (tm_2 (List.mem_of_getElem? (i := 5) rfl)) dX4_takenAhead_80 ?_
          refine vv_getIN C (a := 20) (k := 8) (o := 0) inlX0 rfl rfl rfl (by decide) rfl (List.mem_of_getElem? (i := 25) rfl) dX4_takenAhead_83 ?_
          refine vv_aload_n C dX4_takenAhead_86 rfl 0 rfl ?_
          refine vv_gR C (a := 0) (k := 2) (b := 11) inlX4 rfl rfl rfl rfl (by decide) rfl (tm_2 (List.mem_of_getElem? (i := 0) rfl)) dX4_takenAhead_87 ?_
          refine vv_getIN C (a := 11) (k := 8) (o := 0) inlX0 rfl rfl rfl (by decide) rfl (List.mem_of_getElem? (i := 25) rfl) dX4_takenAhead_90 ?_
          refine vv_isub C dX4_takenAhead_93 ?_
          refine vv_jret C dX4_takenAhead_94 ?_
          have hfin : S1.1 20 8 = pu_ah (pu_hs S) (S.1 10) (S.1 11 6) brx n (9 - hh) hgx (nI hh) (S.1 11 4) (S.1 11 7) (S.1 11 8) := by
            rw [← hst, show 9 - i = (9 - (i + 1)) + 1 by omega, pu_ah, if_neg (fun q => h48 q.1)]
          exact ⟨by rw [hfin, tb1]; rfl, hc⟩
        · refine vv_aload_n C dX4_takenAhead_51 rfl 0 rfl ?_
          refine vv_gR C (a := 0) (k := 4) (b := 20) inlX4 rfl rfl rfl rfl (by decide) rfl (tm_2 (List.mem_of_getElem? (i := 5) rfl)) dX4_takenAhead_52 ?_
          refine vv_getIN C (a := 20) (k := 1) (o := 0) inlX0 rfl rfl rfl (by decide) rfl (List.mem_of_getElem? (i := 18) rfl) dX4_takenAhead_55 ?_
          refine vv_if_le (tgt := 79) C dX4_takenAhead_58 (by decide) (fun h58 => ?_) (fun h58 => ?_)
          · have g58 := pu_le h58
            refine vv_aload_n C dX4_takenAhead_79 rfl 0 rfl ?_
            refine vv_gR C (a := 0) (k := 4) (b := 20) inlX4 rfl rfl rfl rfl (by decide) rfl (tm_2 (List.mem_of_getElem? (i := 5) rfl)) dX4_takenAhead_80 ?_
            refine vv_getIN C (a := 20) (k := 8) (o := 0) inlX0 rfl rfl rfl (by decide) rfl (List.mem_of_getElem? (i := 25) rfl) dX4_takenAhead_83 ?_
            refine vv_aload_n C dX4_takenAhead_86 rfl 0 rfl ?_
            refine vv_gR C (a := 0) (k := 2) (b := 11) inlX4 rfl rfl rfl rfl (by decide) rfl (tm_2 (List.mem_of_getElem? (i := 0) rfl)) dX4_takenAhead_87 ?_
            refine vv_getIN C (a := 11) (k := 8) (o := 0) inlX0 rfl rfl rfl (by decide) rfl (List.mem_of_getElem? (i := 25) rfl) dX4_takenAhead_90 ?_
            refine vv_isub C dX4_takenAhead_93 ?_
            refine vv_jret C dX4_takenAhead_94 ?_
            have hfin : S1.1 20 8 = pu_ah (pu_hs S) (S.1 10) (S.1 11 6) brx n (9 - hh) hgx (nI hh) (S.1 11 4) (S.1 11 7) (S.1 11 8) := by
              rw [← hst, show 9 - i = (9 - (i + 1)) + 1 by omega, pu_ah, if_neg (fun q => g58 q.2)]
            exact ⟨by rw [hfin, tb1]; rfl, hc⟩
          · have g58 := pu_nle h58
            refine vv_aload_n C dX4_takenAhead_61 rfl 0 rfl ?_
            refine vv_gR C (a := 0) (k := 4) (b := 20) inlX4 rfl rfl rfl rfl (by decide) rfl (tm_2 (List.mem_of_getElem? (i := 5) rfl)) dX4_takenAhead_62 ?_
            refine vv_aload_n C dX4_takenAhead_65 rfl 0 rfl ?_
            refine vv_gR C (a := 0) (k := 1) (b := 3) inlX4 rfl rfl rfl rfl (by decide) rfl (tm_1 (List.mem_of_getElem? (i := 20) rfl)) dX4_takenAhead_66 ?_
            refine vv_cVN_i C (a := 20) (kk_X0_passHour l g _ 20 (show (20 : Nat) = 11 ∨ (20 : Nat) = 20 ∨ (20 : Nat) = 26 from Or.inr (Or.inl rfl)) n hn1 hn8) yk_X0_passHour (List.mem_of_getElem? (i := 52) rfl) rfl rfl rfl (by decide) rfl (Nat.le_of_ble_eq_true rfl) rfl dX4_takenAhead_69 (fun r69 S69 h69 => ?_)
            obtain ⟨_, c69, d69, _⟩ := h69
            refine vv_pop C dX4_takenAhead_72 rfl ?_
            refine vv_iincN (L' := [_, _]) (j := 1) C dX4_takenAhead_73 rfl (by decide) rfl ?_
            refine vv_goto (tgt := 35) C dX4_takenAhead_76 (by decide) ?_
            refine vv_sub (L' := [_, _]) [1, 0] rfl ?_
            rw [hs1, wy1] at d69
            refine ih (i + 1) S69 ⟨by omega, by omega, pu_chg_tr hc c69 (by simp), ?_, ?_, ?_, ?_⟩
            · rw [d69, pu_nx_2, r2, nI_1]
            · rw [d69, pu_nx_5]; exact r5
            · rw [d69, pu_nx_6]; exact r6
            · rw [← hst, show 9 - i = (9 - (i + 1)) + 1 by omega, pu_ah, if_pos ⟨h48, g58⟩, d69, pu_nx_1, pu_nx_4, pu_nx_7, pu_nx_8, r2, r5, r6, nI_1]
  refine vv_aload_n C dX4_takenAhead_0 rfl 0 rfl ?_
  refine vv_gR C (a := 0) (k := 4) (b := 20) inlX4 rfl rfl rfl rfl (by decide) rfl (tm_2 (List.mem_of_getElem? (i := 5) rfl)) dX4_takenAhead_1 ?_
  refine vv_aload_n C dX4_takenAhead_4 rfl 0 rfl ?_
  refine vv_gR C (a := 0) (k := 2) (b := 11) inlX4 rfl rfl rfl rfl (by decide) rfl (tm_2 (List.mem_of_getElem? (i := 0) rfl)) dX4_takenAhead_5 ?_
  refine vv_cVN_v C (a := 20) (kk_X0_copyFrom l g _ 20 (show (20 : Nat) = 11 ∨ (20 : Nat) = 20 ∨ (20 : Nat) = 26 from Or.inr (Or.inl rfl)) 11 (show (11 : Nat) = 11 ∨ (11 : Nat) = 20 ∨ (11 : Nat) = 26 from Or.inl rfl) (by decide) hb6 hb7) yk_X0_copyFrom (List.mem_of_getElem? (i := 57) rfl) rfl rfl rfl (by decide) rfl (Nat.le_of_ble_eq_true rfl) rfl dX4_takenAhead_8 (fun S8 h8 => ?_)
  obtain ⟨hc8, r0, _, _⟩ := h8
  refine vv_aload_n C dX4_takenAhead_11 rfl 0 rfl ?_
  refine vv_gR C (a := 0) (k := 4) (b := 20) inlX4 rfl rfl rfl rfl (by decide) rfl (tm_2 (List.mem_of_getElem? (i := 5) rfl)) dX4_takenAhead_12 ?_
  refine vv_iload_n C dX4_takenAhead_15 rfl 1 rfl ?_
  refine vv_putIN C (a := 20) (k := 1) inlX0 tyX0 tyX0_ok nmX0 rfl rfl rfl (by decide) rfl rfl rfl (List.mem_of_getElem? (i := 18) rfl) dX4_takenAhead_16 ?_
  refine vv_aload_n C dX4_takenAhead_19 rfl 0 rfl ?_
  refine vv_gR C (a := 0) (k := 4) (b := 20) inlX4 rfl rfl rfl rfl (by decide) rfl (tm_2 (List.mem_of_getElem? (i := 5) rfl)) dX4_takenAhead_20 ?_
  refine vv_iload_n C dX4_takenAhead_23 rfl 2 rfl ?_
  refine vv_putIN C (a := 20) (k := 5) inlX0 tyX0 tyX0_ok nmX0 rfl rfl rfl (by decide) rfl rfl rfl (List.mem_of_getElem? (i := 22) rfl) dX4_takenAhead_24 ?_
  refine vv_aload_n C dX4_takenAhead_27 rfl 0 rfl ?_
  refine vv_gR C (a := 0) (k := 2) (b := 11) inlX4 rfl rfl rfl rfl (by decide) rfl (tm_2 (List.mem_of_getElem? (i := 0) rfl)) dX4_takenAhead_28 ?_
  refine vv_getIN C (a := 11) (k := 2) (o := 0) inlX0 rfl rfl rfl (by decide) rfl (List.mem_of_getElem? (i := 19) rfl) dX4_takenAhead_31 ?_
  rw [show (vx_u (vx_u S8 20 1 hgx) 20 5 brx).1 11 2 = nI hh from by rw [vx_u_ne _ _ _ (by decide), vx_u_ne _ _ _ (by decide), hc8.2 11 (by decide)]; exact hhr]
  refine vv_istore_n (i := 3) (L' := [_, _, _, _]) C dX4_takenAhead_34 rfl (by decide) rfl ?_
  refine vv_sub (L' := [_, _]) [1, 0] rfl ?_
  refine lp35 10 hh _ ⟨by omega, hh9, pu_chg_u (pu_chg_u (pu_chg_tr (pu_chg_rf S _) hc8 (by simp)) _ _ (by simp)) _ _ (by simp), ?_, ?_, ?_, ?_⟩
  · simp [vx_u_if, upd, r0 2 (by decide), hhr]
  · simp [vx_u_if, upd]
  · simp [vx_u_if, upd, r0 6 (by decide)]
  · simp [vx_u_if, upd, r0 4 (by decide), r0 7 (by decide), r0 8 (by decide)]
theorem pu_TAc {S S1 : vx_St} {n : Nat} (hc : pu_chg S S1 [20, 21, 22, 23]) (hh : Nat) (hg br : Int32) : pu_TA (pu_hs S1) (S1.1 10) (S1.1 11 6) n hh hg (S1.1 11 4) (S1.1 11 7) (S1.1 11 8) br = pu_TA (pu_hs S) (S.1 10) (S.1 11 6) n hh hg (S.1 11 4) (S.1 11 7) (S.1 11 8) br := by
  rw [pu_hs_c (fun c h1 h2 => hc.2 c (by simp only [List.mem_cons, List.not_mem_nil, or_false, not_or]; omega)), hc.2 10 (by decide), hc.2 11 (by decide)]
theorem yk_X4_bestBrakes : vx_yV yX4_bestBrakes cX4_bestBrakes 6 (some .int) 0 := ⟨(tm_21 (List.mem_of_getElem? (i := 11) rfl)), (tm_1 (List.mem_of_getElem? (i := 2) rfl)), by decide +kernel, (tm_21 (List.mem_of_getElem? (i := 9) rfl)), (tm_21 (List.mem_of_getElem? (i := 10) rfl))⟩
set_option maxHeartbeats 4000000 in
set_option maxRecDepth 100000 in
theorem kk_X4_bestBrakes (l : Launch) (g : vx_G) (S : vx_St) (n : Nat) (hn : S.1 3 0 = nI n) (hn8 : n ≤ 8) (hb6 : vx_b01 (S.1 11 6) = S.1 11 6) (hb7 : vx_b01 (S.1 11 7) = S.1 11 7) (hh : Nat) (hhr : S.1 11 2 = nI hh) (hh9 : hh ≤ 9) : vx_M l g yX4_bestBrakes cX4_bestBrakes 6 (some .int) (vx_R 5 117) [.ref (g.2.2.1 0)] S (vx_pi (fun r S' => r = (pu_best (fun t => pu_TA (pu_hs S) (S.1 10) (S.1 11 6) n hh (S.1 11 1) (S.1 11 4) (S.1 11 7) (S.1 11 8) t) (2 ^ n - 1)).1 ∧ pu_chg S S' [20, 21, 22, 23])) := by
  refine vx_M.intro (by decide) (Nat.le_of_ble_eq_true rfl) ?_
  intro p e s m args below meth c C
  have lp17 : ∀ (fu : Nat) (i : Nat) (S1 : vx_St), (2 ^ n - 1 - i < fu ∧ i ≤ 2 ^ n - 1 ∧ pu_chg S S1 [20, 21, 22, 23]) → vx_V p l e (vx_R 5 117) s m args below meth c (MQ below (vx_Q g (vx_pi (fun r S' => r = (pu_best (fun t => pu_TA (pu_hs S) (S.1 10) (S.1 11 6) n hh (S.1 11 1) (S.1 11 4) (S.1 11 7) (S.1 11 8) t) (2 ^ n - 1)).1 ∧ pu_chg S S' [20, 21, 22, 23]))) args s 0 0 (vx_A g)) g 6 17 [(0, .ref (g.2.2.1 0)), (1, .int (pu_best (fun t => pu_TA (pu_hs S) (S.1 10) (S.1 11 6) n hh (S.1 11 1) (S.1 11 4) (S.1 11 7) (S.1 11 8) t) i).1), (2, .int (pu_best (fun t => pu_TA (pu_hs S) (S.1 10) (S.1 11 6) n hh (S.1 11 1) (S.1 11 4) (S.1 11 7) (S.1 11 8) t) i).2), (3, .int (nI (i + 1)))] [] (S1) := by
    intro fu
    induction fu with
    | zero =>
      intro i S1 hfu
      exact absurd hfu.1 (by omega)
    | succ fu ih =>
      intro i S1 hfu
      obtain ⟨hf1, hf2, hc⟩ := hfu
      have h2n := pu_2n n hn8
      refine vv_iload_n C dX4_bestBrakes_17 rfl 3 rfl ?_
      refine vv_aload_n C dX4_bestBrakes_18 rfl 0 rfl ?_
      refine vv_gR C (a := 0) (k := 1) (b := 3) inlX4 rfl rfl rfl rfl (by decide) rfl (tm_1 (List.mem_of_getElem? (i := 20) rfl)) dX4_bestBrakes_19 ?_
      refine vv_cVN_F C (a := 3) (kk_X1_all l g _) yk_X1_all (List.mem_of_getElem? (i := 58) rfl) rfl rfl rfl (by decide) rfl (Nat.le_of_ble_eq_true rfl) rfl dX4_bestBrakes_22 ?_
      rw [hc.2 3 (by decide), hn, pu_all_nI n hn8]
      refine vv_icmp_gt (tgt := 88) C dX4_bestBrakes_25 (by decide) (fun h25 => ?_) (fun h25 => ?_)
      · have g25 := pu_lt h25
        have hgt := pu_gtT rfl (by omega) (by omega) h25
        refine vv_iload_n C dX4_bestBrakes_88 rfl 1 rfl ?_
        refine vv_jret C dX4_bestBrakes_89 ?_
        rw [show 2 ^ n - 1 = i by omega]
        exact ⟨rfl, hc⟩
      · have g25 := pu_nlt h25
        have hle := pu_gtF rfl (by omega) (by omega) h25
        refine vv_aload_n C dX4_bestBrakes_28 rfl 0 rfl ?_
        refine vv_aload_n C dX4_bestBrakes_29 rfl 0 rfl ?_
        refine vv_gR C (a := 0) (k := 2) (b := 11) inlX4 rfl rfl rfl rfl (by decide) rfl (tm_2 (List.mem_of_getElem? (i := 0) rfl)) dX4_bestBrakes_30 ?_
        refine vv_getIN C (a := 11) (k := 1) (o := 0) inlX0 rfl rfl rfl (by decide) rfl (List.mem_of_getElem? (i := 18) rfl) dX4_bestBrakes_33 ?_
        refine vv_iload_n C dX4_bestBrakes_36 rfl 3 rfl ?_
        refine vv_cV_i C (a := 0) (kk_X4_takenAhead l g _ _ _ n (by rw [hc.2 3 (by decide)]; exact hn) hn8 (by rw [hc.2 11 (by decide)]; exact hb6) (by rw [hc.2 11 (by decide)]; exact hb7) hh (by rw [hc.2 11 (by decide)]; exact hhr) hh9) yk_X4_takenAhead (tm_21 (List.mem_of_getElem? (i := 12) rfl)) rfl rfl rfl (by decide) rfl (Nat.le_of_ble_eq_true rfl) rfl dX4_bestBrakes_37 (fun r37 S37 h37 => ?_)
        obtain ⟨e37, c37⟩ := h37
        rw [pu_TAc hc, hc.2 11 (by decide)] at e37
        subst e37
        have hc2 := pu_chg_tr hc c37 (by simp)
        refine vv_istore (L' := [_, _, _, _, _]) C dX4_bestBrakes_40 (by decide) rfl ?_
        refine vv_iload_n C dX4_bestBrakes_42 rfl 4 rfl ?_
        refine vv_cS_F C (kk_J6_bitCount_0f7a4 l g _ _) yk_J6_bitCount_0f7a4 (tm_21 (List.mem_of_getElem? (i := 23) rfl)) (by decide) rfl (Nat.le_of_ble_eq_true rfl) rfl dX4_bestBrakes_43 ?_
        refine vv_iload_n C dX4_bestBrakes_46 rfl 2 rfl ?_
        refine vv_cS_F C (kk_J6_bitCount_0f7a4 l g _ _) yk_J6_bitCount_0f7a4 (tm_21 (List.mem_of_getElem? (i := 23) rfl)) (by decide) rfl (Nat.le_of_ble_eq_true rfl) rfl dX4_bestBrakes_47 ?_
        refine vv_icmp_ge (tgt := 57) C dX4_bestBrakes_50 (by decide) (fun h50 => ?_) (fun h50 => ?_)
        · have g50 := pu_le h50
          refine vv_iconst (v := (0)) C dX4_bestBrakes_57 (by decide) ?_
          refine vv_istore (L' := [_, _, _, _, _, _]) C dX4_bestBrakes_58 (by decide) rfl ?_
          refine vv_iload C dX4_bestBrakes_60 1 rfl ?_
          refine vv_iload_n C dX4_bestBrakes_62 rfl 4 rfl ?_
          refine vv_icmp_gt (tgt := 77) C dX4_bestBrakes_63 (by decide) (fun h63 => ?_) (fun h63 => ?_)
          · have g63 := pu_lt h63
            refine vv_iload C dX4_bestBrakes_77 1 rfl ?_
            refine vv_istore_n (i := 2) (L' := [_, _, _, _, _, _]) C dX4_bestBrakes_79 rfl (by decide) rfl ?_
            refine vv_iload_n C dX4_bestBrakes_80 rfl 5 rfl ?_
            refine vv_istore_n (i := 1) (L' := [_, _, _, _, _, _]) C dX4_bestBrakes_81 rfl (by decide) rfl ?_
            refine vv_iincN (L' := [_, _, _, _, _, _]) (j := 5) C dX4_bestBrakes_82 rfl (by decide) rfl ?_
            refine vv_goto (tgt := 17) C dX4_bestBrakes_85 (by decide) ?_
            refine vv_sub (L' := [_, _, _, _]) [5, 1, 2, 0] rfl ?_
            have hb9 : pu_btr (fun t => pu_TA (pu_hs S) (S.1 10) (S.1 11 6) n hh (S.1 11 1) (S.1 11 4) (S.1 11 7) (S.1 11 8) t) (pu_best (fun t => pu_TA (pu_hs S) (S.1 10) (S.1 11 6) n hh (S.1 11 1) (S.1 11 4) (S.1 11 7) (S.1 11 8) t) i).1 (pu_best (fun t => pu_TA (pu_hs S) (S.1 10) (S.1 11 6) n hh (S.1 11 1) (S.1 11 4) (S.1 11 7) (S.1 11 8) t) i).2 (i + 1) = true := by simp only [pu_btr]; simp [h25, g25, h50, g50, h63, g63]
            have q := ih (i + 1) S37 ⟨by omega, by omega, hc2⟩
            rw [pu_best, if_pos hb9] at q
            exact q
          · have g63 := pu_nlt h63
            refine vv_iload C dX4_bestBrakes_66 1 rfl ?_
            refine vv_iload_n C dX4_bestBrakes_68 rfl 4 rfl ?_
            refine vv_icmp_ne (tgt := 82) C dX4_bestBrakes_69 (by decide) (fun h69 => ?_) (fun h69 => ?_)
            · refine vv_iincN (L' := [_, _, _, _, _, _]) (j := 5) C dX4_bestBrakes_82 rfl (by decide) rfl ?_
              refine vv_goto (tgt := 17) C dX4_bestBrakes_85 (by decide) ?_
              refine vv_sub (L' := [_, _, _, _]) [3, 4, 5, 0] rfl ?_
              have hb9 : pu_btr (fun t => pu_TA (pu_hs S) (S.1 10) (S.1 11 6) n hh (S.1 11 1) (S.1 11 4) (S.1 11 7) (S.1 11 8) t) (pu_best (fun t => pu_TA (pu_hs S) (S.1 10) (S.1 11 6) n hh (S.1 11 1) (S.1 11 4) (S.1 11 7) (S.1 11 8) t) i).1 (pu_best (fun t => pu_TA (pu_hs S) (S.1 10) (S.1 11 6) n hh (S.1 11 1) (S.1 11 4) (S.1 11 7) (S.1 11 8) t) i).2 (i + 1) = false := by simp only [pu_btr]; simp [h25, g25, h50, g50, h63, g63, h69]
              have q := ih (i + 1) S37 ⟨by omega, by omega, hc2⟩
              rw [pu_best, if_neg (by rw [hb9]; decide)] at q
              exact q
            · refine vv_iload C dX4_bestBrakes_72 0 rfl ?_
              refine vv_if_eq (tgt := 82) C dX4_bestBrakes_74 (by decide) (fun h74 => ?_) (fun h74 => ?_)
              · refine vv_iincN (L' := [_, _, _, _, _, _]) (j := 5) C dX4_bestBrakes_82 rfl (by decide) rfl ?_
                refine vv_goto (tgt := 17) C dX4_bestBrakes_85 (by decide) ?_
                refine vv_sub (L' := [_, _, _, _]) [3, 4, 5, 0] rfl ?_
                have hb9 : pu_btr (fun t => pu_TA (pu_hs S) (S.1 10) (S.1 11 6) n hh (S.1 11 1) (S.1 11 4) (S.1 11 7) (S.1 11 8) t) (pu_best (fun t => pu_TA (pu_hs S) (S.1 10) (S.1 11 6) n hh (S.1 11 1) (S.1 11 4) (S.1 11 7) (S.1 11 8) t) i).1 (pu_best (fun t => pu_TA (pu_hs S) (S.1 10) (S.1 11 6) n hh (S.1 11 1) (S.1 11 4) (S.1 11 7) (S.1 11 8) t) i).2 (i + 1) = false := by simp only [pu_btr]; simp [h25, g25, h50, g50, h63, g63, h69, h74]
                have q := ih (i + 1) S37 ⟨by omega, by omega, hc2⟩
                rw [pu_best, if_neg (by rw [hb9]; decide)] at q
                exact q
              · exact absurd rfl h74
        · have g50 := pu_nle h50
          refine vv_iconst (v := (1)) C dX4_bestBrakes_53 (by decide) ?_
          refine vv_goto (tgt := 58) C dX4_bestBrakes_54 (by decide) ?_
          refine vv_istore (L' := [_, _, _, _, _, _]) C dX4_bestBrakes_58 (by decide) rfl ?_
          refine vv_iload C dX4_bestBrakes_60 1 rfl ?_
          refine vv_iload_n C dX4_bestBrakes_62 rfl 4 rfl ?_
          refine vv_icmp_gt (tgt := 77) C dX4_bestBrakes_63 (by decide) (fun h63 => ?_) (fun h63 => ?_)
          · have g63 := pu_lt h63
            refine vv_iload C dX4_bestBrakes_77 1 rfl ?_
            refine vv_istore_n (i := 2) (L' := [_, _, _, _, _, _]) C dX4_bestBrakes_79 rfl (by decide) rfl ?_
            refine vv_iload_n C dX4_bestBrakes_80 rfl 5 rfl ?_
            refine vv_istore_n (i := 1) (L' := [_, _, _, _, _, _]) C dX4_bestBrakes_81 rfl (by decide) rfl ?_
            refine vv_iincN (L' := [_, _, _, _, _, _]) (j := 5) C dX4_bestBrakes_82 rfl (by decide) rfl ?_
            refine vv_goto (tgt := 17) C dX4_bestBrakes_85 (by decide) ?_
            refine vv_sub (L' := [_, _, _, _]) [5, 1, 2, 0] rfl ?_
            have hb9 : pu_btr (fun t => pu_TA (pu_hs S) (S.1 10) (S.1 11 6) n hh (S.1 11 1) (S.1 11 4) (S.1 11 7) (S.1 11 8) t) (pu_best (fun t => pu_TA (pu_hs S) (S.1 10) (S.1 11 6) n hh (S.1 11 1) (S.1 11 4) (S.1 11 7) (S.1 11 8) t) i).1 (pu_best (fun t => pu_TA (pu_hs S) (S.1 10) (S.1 11 6) n hh (S.1 11 1) (S.1 11 4) (S.1 11 7) (S.1 11 8) t) i).2 (i + 1) = true := by simp only [pu_btr]; simp [h25, g25, h50, g50, h63, g63]
            have q := ih (i + 1) S37 ⟨by omega, by omega, hc2⟩
            rw [pu_best, if_pos hb9] at q
            exact q
          · have g63 := pu_nlt h63
            refine vv_iload C dX4_bestBrakes_66 1 rfl ?_
            refine vv_iload_n C dX4_bestBrakes_68 rfl 4 rfl ?_
            refine vv_icmp_ne (tgt := 82) C dX4_bestBrakes_69 (by decide) (fun h69 => ?_) (fun h69 => ?_)
            · refine vv_iincN (L' := [_, _, _, _, _, _]) (j := 5) C dX4_bestBrakes_82 rfl (by decide) rfl ?_
              refine vv_goto (tgt := 17) C dX4_bestBrakes_85 (by decide) ?_
              refine vv_sub (L' := [_, _, _, _]) [3, 4, 5, 0] rfl ?_
              have hb9 : pu_btr (fun t => pu_TA (pu_hs S) (S.1 10) (S.1 11 6) n hh (S.1 11 1) (S.1 11 4) (S.1 11 7) (S.1 11 8) t) (pu_best (fun t => pu_TA (pu_hs S) (S.1 10) (S.1 11 6) n hh (S.1 11 1) (S.1 11 4) (S.1 11 7) (S.1 11 8) t) i).1 (pu_best (fun t => pu_TA (pu_hs S) (S.1 10) (S.1 11 6) n hh (S.1 11 1) (S.1 11 4) (S.1 11 7) (S.1 11 8) t) i).2 (i + 1) = false := by simp only [pu_btr]; simp [h25, g25, h50, g50, h63, g63, h69]
              have q := ih (i + 1) S37 ⟨by omega, by omega, hc2⟩
              rw [pu_best, if_neg (by rw [hb9]; decide)] at q
              exact q
            · refine vv_iload C dX4_bestBrakes_72 0 rfl ?_
              refine vv_if_eq (tgt := 82) C dX4_bestBrakes_74 (by decide) (fun h74 => ?_) (fun h74 => ?_)
              · exact absurd h74 (by decide)
              · refine vv_iload C dX4_bestBrakes_77 1 rfl ?_
                refine vv_istore_n (i := 2) (L' := [_, _, _, _, _, _]) C dX4_bestBrakes_79 rfl (by decide) rfl ?_
                refine vv_iload_n C dX4_bestBrakes_80 rfl 5 rfl ?_
                refine vv_istore_n (i := 1) (L' := [_, _, _, _, _, _]) C dX4_bestBrakes_81 rfl (by decide) rfl ?_
                refine vv_iincN (L' := [_, _, _, _, _, _]) (j := 5) C dX4_bestBrakes_82 rfl (by decide) rfl ?_
                refine vv_goto (tgt := 17) C dX4_bestBrakes_85 (by decide) ?_
                refine vv_sub (L' := [_, _, _, _]) [5, 1, 2, 0] rfl ?_
                have hb9 : pu_btr (fun t => pu_TA (pu_hs S) (S.1 10) (S.1 11 6) n hh (S.1 11 1) (S.1 11 4) (S.1 11 7) (S.1 11 8) t) (pu_best (fun t => pu_TA (pu_hs S) (S.1 10) (S.1 11 6) n hh (S.1 11 1) (S.1 11 4) (S.1 11 7) (S.1 11 8) t) i).1 (pu_best (fun t => pu_TA (pu_hs S) (S.1 10) (S.1 11 6) n hh (S.1 11 1) (S.1 11 4) (S.1 11 7) (S.1 11 8) t) i).2 (i + 1) = true := by simp only [pu_btr]; simp [h25, g25, h50, g50, h63, g63, h69, h74]
                have q := ih (i + 1) S37 ⟨by omega, by omega, hc2⟩
                rw [pu_best, if_pos hb9] at q
                exact q
  refine vv_iconst (v := (0)) C dX4_bestBrakes_0 (by decide) ?_
  refine vv_istore_n (i := 1) (L' := [_, _]) C dX4_bestBrakes_1 rfl (by decide) rfl ?_
  refine vv_aload_n C dX4_bestBrakes_2 rfl 1 rfl ?_
  refine vv_aload_n C dX4_bestBrakes_3 rfl 1 rfl ?_
  refine vv_gR C (a := 0) (k := 2) (b := 11) inlX4 rfl rfl rfl rfl (by decide) rfl (tm_2 (List.mem_of_getElem? (i := 0) rfl)) dX4_bestBrakes_4 ?_
  refine vv_getIN C (a := 11) (k := 1) (o := 0) inlX0 rfl rfl rfl (by decide) rfl (List.mem_of_getElem? (i := 18) rfl) dX4_bestBrakes_7 ?_
  refine vv_iconst (v := (0)) C dX4_bestBrakes_10 (by decide) ?_
  refine vv_cV_i C (a := 0) (kk_X4_takenAhead l g _ _ _ n hn hn8 hb6 hb7 hh hhr hh9) yk_X4_takenAhead (tm_21 (List.mem_of_getElem? (i := 12) rfl)) rfl rfl rfl (by decide) rfl (Nat.le_of_ble_eq_true rfl) rfl dX4_bestBrakes_11 (fun r11 S11 h11 => ?_)
  obtain ⟨e11, c11⟩ := h11
  refine vv_istore_n (i := 2) (L' := [_, _, _]) C dX4_bestBrakes_14 rfl (by decide) rfl ?_
  refine vv_iconst (v := (nI 1)) C dX4_bestBrakes_15 (by decide) ?_
  refine vv_istore_n (i := 3) (L' := [_, _, _, _]) C dX4_bestBrakes_16 rfl (by decide) rfl ?_
  refine vv_sub (L' := [_, _, _, _]) [3, 2, 1, 0] rfl ?_
  subst e11
  have h2n := pu_2n n hn8
  exact lp17 (2 ^ n) 0 _ ⟨by omega, by omega, c11⟩
theorem yk_X4_plan : vx_yV yX4_plan cX4_plan 3 (some .int) 1 := ⟨(tm_21 (List.mem_of_getElem? (i := 7) rfl)), (tm_1 (List.mem_of_getElem? (i := 2) rfl)), by decide +kernel, (tm_21 (List.mem_of_getElem? (i := 5) rfl)), (tm_21 (List.mem_of_getElem? (i := 6) rfl))⟩
set_option maxHeartbeats 4000000 in
set_option maxRecDepth 100000 in
theorem kk_X4_plan (l : Launch) (g : vx_G) (S : vx_St) (w : Int32) (n : Nat) (hn : S.1 3 0 = nI n) (hn8 : n ≤ 8) (hb6 : vx_b01 (S.1 11 6) = S.1 11 6) (hb7 : vx_b01 (S.1 11 7) = S.1 11 7) (hh : Nat) (hhr : S.1 11 2 = nI hh) (hh9 : hh ≤ 9) : vx_M l g yX4_plan cX4_plan 3 (some .int) (vx_R 6 142) [.ref (g.2.2.1 0), .int w] S (vx_pi (fun r S' => r = (if 0 ≤ w ∧ w ≤ 1 then (if w = 0 then (fun t => pu_TA (pu_hs S) (S.1 10) (S.1 11 6) n hh (S.1 11 1) (S.1 11 4) (S.1 11 7) (S.1 11 8) t) (pu_best (fun t => pu_TA (pu_hs S) (S.1 10) (S.1 11 6) n hh (S.1 11 1) (S.1 11 4) (S.1 11 7) (S.1 11 8) t) (2 ^ n - 1)).1 else (pu_best (fun t => pu_TA (pu_hs S) (S.1 10) (S.1 11 6) n hh (S.1 11 1) (S.1 11 4) (S.1 11 7) (S.1 11 8) t) (2 ^ n - 1)).1) else -102) ∧ pu_chg S S' [20, 21, 22, 23])) := by
  refine vx_M.intro (by decide) (Nat.le_of_ble_eq_true rfl) ?_
  intro p e s m args below meth c C
  refine vv_iload_n C dX4_plan_0 rfl 1 rfl ?_
  refine vv_if_lt (tgt := 9) C dX4_plan_1 (by decide) (fun h1 => ?_) (fun h1 => ?_)
  · have g1 := pu_lt h1
    refine vv_bipush (v := (-102)) C dX4_plan_9 (by decide) ?_
    refine vv_jret C dX4_plan_11 ?_
    exact ⟨by rw [if_neg (fun q => g1 q.1)], pu_chg_rf S _⟩
  · have g1 := pu_nlt h1
    refine vv_iload_n C dX4_plan_4 rfl 1 rfl ?_
    refine vv_iconst (v := (1)) C dX4_plan_5 (by decide) ?_
    refine vv_icmp_le (tgt := 12) C dX4_plan_6 (by decide) (fun h6 => ?_) (fun h6 => ?_)
    · have g6 := pu_le h6
      refine vv_aload_n C dX4_plan_12 rfl 0 rfl ?_
      refine vv_cV_i C (a := 0) (kk_X4_bestBrakes l g _ n hn hn8 hb6 hb7 hh hhr hh9) yk_X4_bestBrakes (tm_21 (List.mem_of_getElem? (i := 8) rfl)) rfl rfl rfl (by decide) rfl (Nat.le_of_ble_eq_true rfl) rfl dX4_plan_13 (fun r13 S13 h13 => ?_)
      obtain ⟨e13, c13⟩ := h13
      subst e13
      refine vv_istore_n (i := 2) (L' := [_, _, _]) C dX4_plan_16 rfl (by decide) rfl ?_
      refine vv_iload_n C dX4_plan_17 rfl 2 rfl ?_
      refine vv_if_ne (tgt := 36) C dX4_plan_18 (by decide) (fun h18 => ?_) (fun h18 => ?_)
      · refine vv_iload_n C dX4_plan_36 rfl 0 rfl ?_
        refine vv_jret C dX4_plan_37 ?_
        exact ⟨by rw [if_pos ⟨g1, h6⟩, if_neg h18], c13⟩
      · refine vv_aload_n C dX4_plan_21 rfl 1 rfl ?_
        refine vv_aload_n C dX4_plan_22 rfl 1 rfl ?_
        refine vv_gR C (a := 0) (k := 2) (b := 11) inlX4 rfl rfl rfl rfl (by decide) rfl (tm_2 (List.mem_of_getElem? (i := 0) rfl)) dX4_plan_23 ?_
        refine vv_getIN C (a := 11) (k := 1) (o := 0) inlX0 rfl rfl rfl (by decide) rfl (List.mem_of_getElem? (i := 18) rfl) dX4_plan_26 ?_
        refine vv_iload_n C dX4_plan_29 rfl 0 rfl ?_
        refine vv_cV_i C (a := 0) (kk_X4_takenAhead l g _ _ _ n (by rw [c13.2 3 (by decide)]; exact hn) hn8 (by rw [c13.2 11 (by decide)]; exact hb6) (by rw [c13.2 11 (by decide)]; exact hb7) hh (by rw [c13.2 11 (by decide)]; exact hhr) hh9) yk_X4_takenAhead (tm_21 (List.mem_of_getElem? (i := 12) rfl)) rfl rfl rfl (by decide) rfl (Nat.le_of_ble_eq_true rfl) rfl dX4_plan_30 (fun r30 S30 h30 => ?_)
        obtain ⟨e30, c30⟩ := h30
        rw [pu_TAc c13, c13.2 11 (by decide)] at e30
        refine vv_goto (tgt := 37) C dX4_plan_33 (by decide) ?_
        refine vv_jret C dX4_plan_37 ?_
        exact ⟨by rw [if_pos ⟨g1, h6⟩, if_pos h18]; exact e30, pu_chg_tr c13 c30 (by simp)⟩
    · have g6 := pu_nle h6
      refine vv_bipush (v := (-102)) C dX4_plan_9 (by decide) ?_
      refine vv_jret C dX4_plan_11 ?_
      exact ⟨by rw [if_neg (fun q => absurd q.2 h6)], pu_chg_rf S _⟩
theorem yk_X4_more : vx_yV yX4_more cX4_more 2 (some .int) 1 := ⟨(tm_23 (List.mem_of_getElem? (i := 15) rfl)), (tm_1 (List.mem_of_getElem? (i := 2) rfl)), by decide +kernel, (tm_23 (List.mem_of_getElem? (i := 13) rfl)), (tm_23 (List.mem_of_getElem? (i := 14) rfl))⟩
set_option maxHeartbeats 4000000 in
set_option maxRecDepth 100000 in
theorem kk_X4_more (l : Launch) (g : vx_G) (S : vx_St) (f : Int32) (n : Nat) (hn : S.1 3 0 = nI n) (hn8 : n ≤ 8) (hb6 : vx_b01 (S.1 11 6) = S.1 11 6) (hb7 : vx_b01 (S.1 11 7) = S.1 11 7) (hh : Nat) (hhr : S.1 11 2 = nI hh) (hh9 : hh ≤ 9) : vx_M l g yX4_more cX4_more 2 (some .int) (vx_R 5 117) [.ref (g.2.2.1 0), .int f] S (vx_pi (fun r S' => r = (if 0 ≤ f ∧ f ≤ 99 then pu_TA (pu_hs S) (S.1 10) (S.1 11 6) n hh (S.1 11 1 + f) (S.1 11 4) (S.1 11 7) (S.1 11 8) (S.1 11 5) - pu_TA (pu_hs S) (S.1 10) (S.1 11 6) n hh (S.1 11 1) (S.1 11 4) (S.1 11 7) (S.1 11 8) (S.1 11 5) else -102) ∧ pu_chg S S' [20, 21, 22, 23])) := by
  refine vx_M.intro (by decide) (Nat.le_of_ble_eq_true rfl) ?_
  intro p e s m args below meth c C
  refine vv_iload_n C dX4_more_0 rfl 1 rfl ?_
  refine vv_if_lt (tgt := 10) C dX4_more_1 (by decide) (fun h1 => ?_) (fun h1 => ?_)
  · have g1 := pu_lt h1
    refine vv_bipush (v := (-102)) C dX4_more_10 (by decide) ?_
    refine vv_jret C dX4_more_12 ?_
    exact ⟨by rw [if_neg (fun q => g1 q.1)], pu_chg_rf S _⟩
  · have g1 := pu_nlt h1
    refine vv_iload_n C dX4_more_4 rfl 1 rfl ?_
    refine vv_bipush (v := (99)) C dX4_more_5 (by decide) ?_
    refine vv_icmp_le (tgt := 13) C dX4_more_7 (by decide) (fun h7 => ?_) (fun h7 => ?_)
    · have g7 := pu_le h7
      refine vv_aload_n C dX4_more_13 rfl 0 rfl ?_
      refine vv_aload_n C dX4_more_14 rfl 0 rfl ?_
      refine vv_gR C (a := 0) (k := 2) (b := 11) inlX4 rfl rfl rfl rfl (by decide) rfl (tm_2 (List.mem_of_getElem? (i := 0) rfl)) dX4_more_15 ?_
      refine vv_getIN C (a := 11) (k := 1) (o := 0) inlX0 rfl rfl rfl (by decide) rfl (List.mem_of_getElem? (i := 18) rfl) dX4_more_18 ?_
      refine vv_iload_n C dX4_more_21 rfl 1 rfl ?_
      refine vv_iadd C dX4_more_22 ?_
      refine vv_aload_n C dX4_more_23 rfl 0 rfl ?_
      refine vv_gR C (a := 0) (k := 2) (b := 11) inlX4 rfl rfl rfl rfl (by decide) rfl (tm_2 (List.mem_of_getElem? (i := 0) rfl)) dX4_more_24 ?_
      refine vv_getIN C (a := 11) (k := 5) (o := 0) inlX0 rfl rfl rfl (by decide) rfl (List.mem_of_getElem? (i := 22) rfl) dX4_more_27 ?_
      refine vv_cV_i C (a := 0) (kk_X4_takenAhead l g _ _ _ n hn hn8 hb6 hb7 hh hhr hh9) yk_X4_takenAhead (tm_21 (List.mem_of_getElem? (i := 12) rfl)) rfl rfl rfl (by decide) rfl (Nat.le_of_ble_eq_true rfl) rfl dX4_more_30 (fun r30 S30 h30 => ?_)
      obtain ⟨e30, c30⟩ := h30
      refine vv_aload_n C dX4_more_33 rfl 0 rfl ?_
      refine vv_aload_n C dX4_more_34 rfl 0 rfl ?_
      refine vv_gR C (a := 0) (k := 2) (b := 11) inlX4 rfl rfl rfl rfl (by decide) rfl (tm_2 (List.mem_of_getElem? (i := 0) rfl)) dX4_more_35 ?_
      refine vv_getIN C (a := 11) (k := 1) (o := 0) inlX0 rfl rfl rfl (by decide) rfl (List.mem_of_getElem? (i := 18) rfl) dX4_more_38 ?_
      refine vv_aload_n C dX4_more_41 rfl 0 rfl ?_
      refine vv_gR C (a := 0) (k := 2) (b := 11) inlX4 rfl rfl rfl rfl (by decide) rfl (tm_2 (List.mem_of_getElem? (i := 0) rfl)) dX4_more_42 ?_
      refine vv_getIN C (a := 11) (k := 5) (o := 0) inlX0 rfl rfl rfl (by decide) rfl (List.mem_of_getElem? (i := 22) rfl) dX4_more_45 ?_
      refine vv_cV_i C (a := 0) (kk_X4_takenAhead l g _ _ _ n (by rw [c30.2 3 (by decide)]; exact hn) hn8 (by rw [c30.2 11 (by decide)]; exact hb6) (by rw [c30.2 11 (by decide)]; exact hb7) hh (by rw [c30.2 11 (by decide)]; exact hhr) hh9) yk_X4_takenAhead (tm_21 (List.mem_of_getElem? (i := 12) rfl)) rfl rfl rfl (by decide) rfl (Nat.le_of_ble_eq_true rfl) rfl dX4_more_48 (fun r48 S48 h48 => ?_)
      obtain ⟨e48, c48⟩ := h48
      rw [pu_TAc c30, c30.2 11 (by decide)] at e48
      refine vv_isub C dX4_more_51 ?_
      refine vv_jret C dX4_more_52 ?_
      exact ⟨by rw [if_pos ⟨g1, h7⟩, e30, e48], pu_chg_tr c30 c48 (by simp)⟩
    · have g7 := pu_nle h7
      refine vv_bipush (v := (-102)) C dX4_more_10 (by decide) ?_
      refine vv_jret C dX4_more_12 ?_
      exact ⟨by rw [if_neg (fun q => absurd q.2 h7)], pu_chg_rf S _⟩
theorem yk_X4_missing : vx_yV yX4_missing cX4_missing 8 (some .int) 2 := ⟨(tm_24 (List.mem_of_getElem? (i := 3) rfl)), (tm_1 (List.mem_of_getElem? (i := 2) rfl)), by decide +kernel, (tm_24 (List.mem_of_getElem? (i := 1) rfl)), (tm_24 (List.mem_of_getElem? (i := 2) rfl))⟩
set_option maxHeartbeats 4000000 in
set_option maxRecDepth 100000 in
theorem kk_X4_missing (l : Launch) (g : vx_G) (S : vx_St) (f w : Int32) (o : Nat) (n : Nat) (hn : S.1 3 0 = nI n) (hn8 : n ≤ 8) (ho : o < 256) (hop : pu_openIn (S.1 6) (S.1 7) (S.1 11 2) n = nI o) : vx_M l g yX4_missing cX4_missing 8 (some .int) (vx_R 2 45) [.ref (g.2.2.1 0), .int f, .int w] S (vx_pf (if aw_msB f w = true then aw_ms (pu_ms (pu_msok (S.1 8) n (nI o) f) (nI o) o) w else -102) S) := by
  refine vx_M.intro (by decide) (Nat.le_of_ble_eq_true rfl) ?_
  intro p e s m args below meth c C
  have lp50 : ∀ (fu : Nat) (i : Nat), (o - i < fu ∧ i ≤ o ∧ aw_msB f w = true) → vx_V p l e (vx_R 2 45) s m args below meth c (MQ below (vx_Q g (vx_pf (if aw_msB f w = true then aw_ms (pu_ms (pu_msok (S.1 8) n (nI o) f) (nI o) o) w else -102) S)) args s 0 0 (vx_A g)) g 8 50 [(0, .ref (g.2.2.1 0)), (1, .int f), (2, .int w), (3, .int (nI o)), (4, .int (nI (pu_ms (pu_msok (S.1 8) n (nI o) f) (nI o) i).1)), (5, .int (pu_ms (pu_msok (S.1 8) n (nI o) f) (nI o) i).2.1), (6, .int (pu_ms (pu_msok (S.1 8) n (nI o) f) (nI o) i).2.2), (7, .int (nI (i + 1)))] [] (S) := by
    intro fu
    induction fu with
    | zero =>
      intro i hfu
      exact absurd hfu.1 (by omega)
    | succ fu ih =>
      intro i hfu
      obtain ⟨hf1, hf2, hB⟩ := hfu
      refine vv_iload C dX4_missing_50 7 rfl ?_
      refine vv_iload_n C dX4_missing_52 rfl 3 rfl ?_
      refine vv_icmp_gt (tgt := 101) C dX4_missing_53 (by decide) (fun h53 => ?_) (fun h53 => ?_)
      · have g53 := pu_lt h53
        have hgt := pu_gtT rfl (by omega) (by omega) h53
        obtain rfl : o = i := by omega
        have hle := pu_ms_le (pu_msok (S.1 8) n (nI o) f) (nI o) o
        refine vv_iload C dX4_missing_101 4 rfl ?_
        refine vv_if_eq (tgt := 110) C dX4_missing_103 (by decide) (fun h103 => ?_) (fun h103 => ?_)
        · rw [show (0 : Int32) = nI 0 from rfl, nI_eq (by omega) (by omega)] at h103
          refine vv_iload C dX4_missing_110 4 rfl ?_
          refine vv_fret C dX4_missing_112 ?_
          rw [if_pos hB, aw_ms, if_pos (Or.inl h103)]
        · rw [show (0 : Int32) = nI 0 from rfl, nI_eq (by omega) (by omega)] at h103
          refine vv_iload_n C dX4_missing_106 rfl 2 rfl ?_
          refine vv_if_ne (tgt := 113) C dX4_missing_107 (by decide) (fun h107 => ?_) (fun h107 => ?_)
          · refine vv_iload_n C dX4_missing_113 rfl 2 rfl ?_
            refine vv_iconst (v := (1)) C dX4_missing_114 (by decide) ?_
            refine vv_icmp_ne (tgt := 123) C dX4_missing_115 (by decide) (fun h115 => ?_) (fun h115 => ?_)
            · refine vv_iload C dX4_missing_123 6 rfl ?_
              refine vv_fret C dX4_missing_125 ?_
              rw [if_pos hB, aw_ms, if_neg (fun z => z.elim h103 h107), if_neg h115]
            · refine vv_iload C dX4_missing_118 5 rfl ?_
              refine vv_goto (tgt := 125) C dX4_missing_120 (by decide) ?_
              refine vv_fret C dX4_missing_125 ?_
              rw [if_pos hB, aw_ms, if_neg (fun z => z.elim h103 h107), if_pos h115]
          · refine vv_iload C dX4_missing_110 4 rfl ?_
            refine vv_fret C dX4_missing_112 ?_
            rw [if_pos hB, aw_ms, if_pos (Or.inr h107)]
      · have g53 := pu_nlt h53
        have hle := pu_gtF rfl (by omega) (by omega) h53
        refine vv_iload C dX4_missing_56 7 rfl ?_
        refine vv_iload_n C dX4_missing_58 rfl 3 rfl ?_
        refine vv_iconst (v := (-1)) C dX4_missing_59 (by decide) ?_
        refine vv_ixor C dX4_missing_60 ?_
        refine vv_iand C dX4_missing_61 ?_
        refine vv_if_ne (tgt := 95) C dX4_missing_62 (by decide) (fun h62 => ?_) (fun h62 => ?_)
        · refine vv_iincN (L' := [_, _, _, _, _, _, _, _]) (j := 7) C dX4_missing_95 rfl (by decide) rfl ?_
          refine vv_goto (tgt := 50) C dX4_missing_98 (by decide) ?_
          refine vv_sub (L' := [_, _, _, _, _, _, _, _]) [1, 2, 3, 4, 5, 6, 7, 0] rfl ?_
          have hk : pu_msok (S.1 8) n (nI o) f (i + 1) = false := by simp only [pu_msok, h62, decide_true, decide_false, Bool.and_self, Bool.false_and, Bool.and_false, Bool.true_and, Bool.and_true]
          have q := ih (i + 1) ⟨by omega, by omega, hB⟩
          rw [pu_ms, if_neg (show ¬ pu_msok (S.1 8) n (nI o) f (i + 1) = true by rw [hk]; decide)] at q
          exact q
        · refine vv_aload_n C dX4_missing_65 rfl 0 rfl ?_
          refine vv_gR C (a := 0) (k := 1) (b := 3) inlX4 rfl rfl rfl rfl (by decide) rfl (tm_1 (List.mem_of_getElem? (i := 20) rfl)) dX4_missing_66 ?_
          refine vv_iload C dX4_missing_69 7 rfl ?_
          refine vv_cVN_F C (a := 3) (kk_X1_takesOf l g _ _ n hn hn8) yk_X1_takesOf (List.mem_of_getElem? (i := 60) rfl) rfl rfl rfl (by decide) rfl (Nat.le_of_ble_eq_true rfl) rfl dX4_missing_71 ?_
          refine vv_iload_n C dX4_missing_74 rfl 1 rfl ?_
          refine vv_icmp_ne (tgt := 95) C dX4_missing_75 (by decide) (fun h75 => ?_) (fun h75 => ?_)
          · refine vv_iincN (L' := [_, _, _, _, _, _, _, _]) (j := 7) C dX4_missing_95 rfl (by decide) rfl ?_
            refine vv_goto (tgt := 50) C dX4_missing_98 (by decide) ?_
            refine vv_sub (L' := [_, _, _, _, _, _, _, _]) [1, 2, 3, 4, 5, 6, 7, 0] rfl ?_
            have hk : pu_msok (S.1 8) n (nI o) f (i + 1) = false := by simp only [pu_msok, h62, h75, decide_true, decide_false, Bool.and_self, Bool.false_and, Bool.and_false, Bool.true_and, Bool.and_true]
            have q := ih (i + 1) ⟨by omega, by omega, hB⟩
            rw [pu_ms, if_neg (show ¬ pu_msok (S.1 8) n (nI o) f (i + 1) = true by rw [hk]; decide)] at q
            exact q
          · refine vv_iincN (L' := [_, _, _, _, _, _, _, _]) (j := 4) C dX4_missing_78 rfl (by decide) rfl ?_
            refine vv_iload C dX4_missing_81 5 rfl ?_
            refine vv_iload C dX4_missing_83 7 rfl ?_
            refine vv_iand C dX4_missing_85 ?_
            refine vv_istore (L' := [_, _, _, _, _, _, _, _]) C dX4_missing_86 (by decide) rfl ?_
            refine vv_iload C dX4_missing_88 6 rfl ?_
            refine vv_iload C dX4_missing_90 7 rfl ?_
            refine vv_ior C dX4_missing_92 ?_
            refine vv_istore (L' := [_, _, _, _, _, _, _, _]) C dX4_missing_93 (by decide) rfl ?_
            refine vv_iincN (L' := [_, _, _, _, _, _, _, _]) (j := 7) C dX4_missing_95 rfl (by decide) rfl ?_
            refine vv_goto (tgt := 50) C dX4_missing_98 (by decide) ?_
            refine vv_sub (L' := [_, _, _, _, _, _, _, _]) [4, 5, 6, 7, 3, 2, 1, 0] rfl ?_
            have hk : pu_msok (S.1 8) n (nI o) f (i + 1) = true := by simp only [pu_msok, h62, h75, decide_true, decide_false, Bool.and_self, Bool.false_and, Bool.and_false, Bool.true_and, Bool.and_true]
            have q := ih (i + 1) ⟨by omega, by omega, hB⟩
            rw [pu_ms, if_pos hk] at q
            exact q
  refine vv_iload_n C dX4_missing_0 rfl 1 rfl ?_
  refine vv_iconst (v := (1)) C dX4_missing_1 (by decide) ?_
  refine vv_icmp_lt (tgt := 20) C dX4_missing_2 (by decide) (fun h2 => ?_) (fun h2 => ?_)
  · have g2 := pu_lt h2
    refine vv_bipush (v := (-102)) C dX4_missing_20 (by decide) ?_
    refine vv_fret C dX4_missing_22 ?_
    rw [if_neg (by simp [aw_msB, g2])]
  · have g2 := pu_nlt h2
    refine vv_iload_n C dX4_missing_5 rfl 1 rfl ?_
    refine vv_bipush (v := (72)) C dX4_missing_6 (by decide) ?_
    refine vv_icmp_gt (tgt := 20) C dX4_missing_8 (by decide) (fun h8 => ?_) (fun h8 => ?_)
    · have g8 := pu_lt h8
      refine vv_bipush (v := (-102)) C dX4_missing_20 (by decide) ?_
      refine vv_fret C dX4_missing_22 ?_
      rw [if_neg (by simp [aw_msB, g8])]
    · have g8 := pu_nlt h8
      refine vv_iload_n C dX4_missing_11 rfl 2 rfl ?_
      refine vv_if_lt (tgt := 20) C dX4_missing_12 (by decide) (fun h12 => ?_) (fun h12 => ?_)
      · have g12 := pu_lt h12
        refine vv_bipush (v := (-102)) C dX4_missing_20 (by decide) ?_
        refine vv_fret C dX4_missing_22 ?_
        rw [if_neg (by simp [aw_msB, g12])]
      · have g12 := pu_nlt h12
        refine vv_iload_n C dX4_missing_15 rfl 2 rfl ?_
        refine vv_iconst (v := (2)) C dX4_missing_16 (by decide) ?_
        refine vv_icmp_le (tgt := 23) C dX4_missing_17 (by decide) (fun h17 => ?_) (fun h17 => ?_)
        · have g17 := pu_le h17
          refine vv_aload_n C dX4_missing_23 rfl 0 rfl ?_
          refine vv_gR C (a := 0) (k := 1) (b := 3) inlX4 rfl rfl rfl rfl (by decide) rfl (tm_1 (List.mem_of_getElem? (i := 20) rfl)) dX4_missing_24 ?_
          refine vv_aload_n C dX4_missing_27 rfl 0 rfl ?_
          refine vv_gR C (a := 0) (k := 2) (b := 11) inlX4 rfl rfl rfl rfl (by decide) rfl (tm_2 (List.mem_of_getElem? (i := 0) rfl)) dX4_missing_28 ?_
          refine vv_getIN C (a := 11) (k := 2) (o := 0) inlX0 rfl rfl rfl (by decide) rfl (List.mem_of_getElem? (i := 19) rfl) dX4_missing_31 ?_
          refine vv_cVN_F C (a := 3) (kk_X1_openIn l g _ _ n hn hn8) yk_X1_openIn (List.mem_of_getElem? (i := 59) rfl) rfl rfl rfl (by decide) rfl (Nat.le_of_ble_eq_true rfl) rfl dX4_missing_34 ?_
          rw [hop]
          refine vv_istore_n (i := 3) (L' := [_, _, _, _]) C dX4_missing_37 rfl (by decide) rfl ?_
          refine vv_iconst (v := (nI 0)) C dX4_missing_38 (by decide) ?_
          refine vv_istore (L' := [_, _, _, _, _]) C dX4_missing_39 (by decide) rfl ?_
          refine vv_iload_n C dX4_missing_41 rfl 1 rfl ?_
          refine vv_istore (L' := [_, _, _, _, _, _]) C dX4_missing_42 (by decide) rfl ?_
          refine vv_iconst (v := (0)) C dX4_missing_44 (by decide) ?_
          refine vv_istore (L' := [_, _, _, _, _, _, _]) C dX4_missing_45 (by decide) rfl ?_
          refine vv_iconst (v := (nI 1)) C dX4_missing_47 (by decide) ?_
          refine vv_istore (L' := [_, _, _, _, _, _, _, _]) C dX4_missing_48 (by decide) rfl ?_
          refine vv_sub (L' := [_, _, _, _, _, _, _, _]) [5, 6, 7, 4, 3, 2, 1, 0] rfl ?_
          exact lp50 (o + 1) 0 ⟨by omega, by omega, by simp [aw_msB, h2, g2, h8, g8, h12, g12, h17, g17]⟩
        · have g17 := pu_nle h17
          refine vv_bipush (v := (-102)) C dX4_missing_20 (by decide) ?_
          refine vv_fret C dX4_missing_22 ?_
          rw [if_neg (by simp [aw_msB, h17])]
theorem yk_X4_rest : vx_yV yX4_rest cX4_rest 6 (some .int) 2 := ⟨(tm_24 (List.mem_of_getElem? (i := 22) rfl)), (tm_1 (List.mem_of_getElem? (i := 2) rfl)), by decide +kernel, (tm_24 (List.mem_of_getElem? (i := 20) rfl)), (tm_24 (List.mem_of_getElem? (i := 21) rfl))⟩
set_option maxHeartbeats 4000000 in
set_option maxRecDepth 100000 in
theorem kk_X4_rest (l : Launch) (g : vx_G) (S : vx_St) (sd w : Int32) (n : Nat) (hn : S.1 3 0 = nI n) (hn8 : n ≤ 8) (hb6 : vx_b01 (S.1 11 6) = S.1 11 6) (hb7 : vx_b01 (S.1 11 7) = S.1 11 7) (hh : Nat) (hhr : S.1 11 2 = nI hh) (hh9 : hh ≤ 9) : vx_M l g yX4_rest cX4_rest 6 (some .int) (vx_R 4 94) [.ref (g.2.2.1 0), .int sd, .int w] S (vx_pi (fun r S' => r = (if aw_rsB sd w = true then aw_rs (pu_rs (pu_hs S) (S.1 10) (S.1 11 5) n (9 - hh) sd (S.1 11 1) (nI hh) (S.1 11 4) (S.1 11 7) (S.1 11 8) (-1)) (S.1 11 8) w else -102) ∧ pu_chg S S' [20, 21, 22, 23])) := by
  refine vx_M.intro (by decide) (Nat.le_of_ble_eq_true rfl) ?_
  intro p e s m args below meth c C
  have lp41 : ∀ (fu : Nat) (i : Nat) (nx di : Int32) (S1 : vx_St), (9 - i < fu ∧ i ≤ 9 ∧ pu_chg S S1 [20, 21, 22, 23] ∧ S1.1 20 2 = nI i ∧ S1.1 20 5 = S.1 11 5 ∧ pu_rs (pu_hs S) (S.1 10) (S.1 11 5) n (9 - i) nx (S1.1 20 1) (nI i) (S1.1 20 4) (S1.1 20 7) (S1.1 20 8) di = pu_rs (pu_hs S) (S.1 10) (S.1 11 5) n (9 - hh) sd (S.1 11 1) (nI hh) (S.1 11 4) (S.1 11 7) (S.1 11 8) (-1) ∧ aw_rsB sd w = true) → vx_V p l e (vx_R 4 94) s m args below meth c (MQ below (vx_Q g (vx_pi (fun r S' => r = (if aw_rsB sd w = true then aw_rs (pu_rs (pu_hs S) (S.1 10) (S.1 11 5) n (9 - hh) sd (S.1 11 1) (nI hh) (S.1 11 4) (S.1 11 7) (S.1 11 8) (-1)) (S.1 11 8) w else -102) ∧ pu_chg S S' [20, 21, 22, 23]))) args s 0 0 (vx_A g)) g 6 41 [(0, .ref (g.2.2.1 0)), (2, .int w), (3, .int nx), (4, .int di), (5, .int (nI i))] [] (S1) := by
    intro fu
    induction fu with
    | zero =>
      intro i nx di S1 hfu
      exact absurd hfu.1 (by omega)
    | succ fu ih =>
      intro i nx di S1 hfu
      obtain ⟨hf1, hf2, hc, r2, r5, hst, hB⟩ := hfu
      have hn1 : S1.1 3 0 = nI n := by rw [hc.2 3 (by decide)]; exact hn
      have hs1 : pu_hs S1 = pu_hs S := (pu_hs_c (fun c h1 h2 => hc.2 c (by simp only [List.mem_cons, List.not_mem_nil, or_false, not_or]; omega)))
      have wy1 : S1.1 10 = S.1 10 := hc.2 10 (by decide)
      have tb1 : S1.1 11 8 = S.1 11 8 := by rw [hc.2 11 (by decide)]
      refine vv_iload C dX4_rest_41 4 rfl ?_
      refine vv_bipush (v := (nI 9)) C dX4_rest_43 (by decide) ?_
      refine vv_icmp_ge (tgt := 116) C dX4_rest_45 (by decide) (fun h45 => ?_) (fun h45 => ?_)
      · have g45 := pu_le h45
        have hge := pu_geT rfl (by omega) (by omega) h45
        have hfin : (nx, S1.1 20 1, S1.1 20 8, di) = pu_rs (pu_hs S) (S.1 10) (S.1 11 5) n (9 - hh) sd (S.1 11 1) (nI hh) (S.1 11 4) (S.1 11 7) (S.1 11 8) (-1) := by rw [← hst, show 9 - i = 0 by omega, pu_rs]
        refine vv_iload_n C dX4_rest_116 rfl 1 rfl ?_
        rcases pu_sw w 3 (by omega) with ⟨j, hj, hw⟩ | hw
        rcases (show j = 0 ∨ j = 1 ∨ j = 2 by omega) with rfl | rfl | rfl
        · subst hw
          refine vv_tableIn (tgt := 144) C dX4_rest_117 (by decide) (by decide) rfl (by decide) ?_
          refine vv_aload_n C dX4_rest_144 rfl 0 rfl ?_
          refine vv_gR C (a := 0) (k := 4) (b := 20) inlX4 rfl rfl rfl rfl (by decide) rfl (tm_2 (List.mem_of_getElem? (i := 5) rfl)) dX4_rest_145 ?_
          refine vv_getIN C (a := 20) (k := 8) (o := 0) inlX0 rfl rfl rfl (by decide) rfl (List.mem_of_getElem? (i := 25) rfl) dX4_rest_148 ?_
          refine vv_aload_n C dX4_rest_151 rfl 0 rfl ?_
          refine vv_gR C (a := 0) (k := 2) (b := 11) inlX4 rfl rfl rfl rfl (by decide) rfl (tm_2 (List.mem_of_getElem? (i := 0) rfl)) dX4_rest_152 ?_
          refine vv_getIN C (a := 11) (k := 8) (o := 0) inlX0 rfl rfl rfl (by decide) rfl (List.mem_of_getElem? (i := 25) rfl) dX4_rest_155 ?_
          refine vv_isub C dX4_rest_158 ?_
          refine vv_jret C dX4_rest_159 ?_
          exact ⟨by rw [if_pos hB, ← hfin, aw_rs, if_pos rfl, tb1], hc⟩
        · subst hw
          refine vv_tableIn (tgt := 160) C dX4_rest_117 (by decide) (by decide) rfl (by decide) ?_
          refine vv_aload_n C dX4_rest_160 rfl 0 rfl ?_
          refine vv_gR C (a := 0) (k := 4) (b := 20) inlX4 rfl rfl rfl rfl (by decide) rfl (tm_2 (List.mem_of_getElem? (i := 5) rfl)) dX4_rest_161 ?_
          refine vv_getIN C (a := 20) (k := 1) (o := 0) inlX0 rfl rfl rfl (by decide) rfl (List.mem_of_getElem? (i := 18) rfl) dX4_rest_164 ?_
          refine vv_jret C dX4_rest_167 ?_
          exact ⟨by rw [if_pos hB, ← hfin, aw_rs, if_neg (show ¬ nI 1 = nI 0 by decide), if_pos rfl], hc⟩
        · subst hw
          refine vv_tableIn (tgt := 168) C dX4_rest_117 (by decide) (by decide) rfl (by decide) ?_
          refine vv_iload C dX4_rest_168 3 rfl ?_
          refine vv_jret C dX4_rest_170 ?_
          exact ⟨by rw [if_pos hB, ← hfin, aw_rs, if_neg (show ¬ nI 2 = nI 0 by decide), if_neg (show ¬ nI 2 = nI 1 by decide), if_pos rfl], hc⟩
        · refine vv_tableOut (tgt := 171) C dX4_rest_117 hw (by decide) ?_
          refine vv_iload_n C dX4_rest_171 rfl 2 rfl ?_
          refine vv_jret C dX4_rest_172 ?_
          have ne : ∀ j : Nat, j < 3 → ¬ w = nI j := fun j hj e => by rw [e, nI_toInt (by omega)] at hw; omega
          exact ⟨by rw [if_pos hB, ← hfin, aw_rs, if_neg (ne 0 (by decide)), if_neg (ne 1 (by decide)), if_neg (ne 2 (by decide))], hc⟩
      · have g45 := pu_nle h45
        have hlt := pu_geF rfl (by omega) (by omega) h45
        refine vv_aload_n C dX4_rest_48 rfl 0 rfl ?_
        refine vv_gR C (a := 0) (k := 4) (b := 20) inlX4 rfl rfl rfl rfl (by decide) rfl (tm_2 (List.mem_of_getElem? (i := 5) rfl)) dX4_rest_49 ?_
        refine vv_getZN C (a := 20) (k := 7) (o := 0) inlX0 rfl rfl rfl (by decide) rfl (List.mem_of_getElem? (i := 24) rfl) dX4_rest_52 ?_
        refine vv_ifz_ne (tgt := 116) C dX4_rest_55 (by decide) (fun h55 => ?_) (fun h55 => ?_)
        · have hfin : (nx, S1.1 20 1, S1.1 20 8, di) = pu_rs (pu_hs S) (S.1 10) (S.1 11 5) n (9 - hh) sd (S.1 11 1) (nI hh) (S.1 11 4) (S.1 11 7) (S.1 11 8) (-1) := by rw [← hst, show 9 - i = (9 - (i + 1)) + 1 by omega, pu_rs, if_neg h55]
          refine vv_iload_n C dX4_rest_116 rfl 1 rfl ?_
          rcases pu_sw w 3 (by omega) with ⟨j, hj, hw⟩ | hw
          rcases (show j = 0 ∨ j = 1 ∨ j = 2 by omega) with rfl | rfl | rfl
          · subst hw
            refine vv_tableIn (tgt := 144) C dX4_rest_117 (by decide) (by decide) rfl (by decide) ?_
            refine vv_aload_n C dX4_rest_144 rfl 0 rfl ?_
            refine vv_gR C (a := 0) (k := 4) (b := 20) inlX4 rfl rfl rfl rfl (by decide) rfl (tm_2 (List.mem_of_getElem? (i := 5) rfl)) dX4_rest_145 ?_
            refine vv_getIN C (a := 20) (k := 8) (o := 0) inlX0 rfl rfl rfl (by decide) rfl (List.mem_of_getElem? (i := 25) rfl) dX4_rest_148 ?_
            refine vv_aload_n C dX4_rest_151 rfl 0 rfl ?_
            refine vv_gR C (a := 0) (k := 2) (b := 11) inlX4 rfl rfl rfl rfl (by decide) rfl (tm_2 (List.mem_of_getElem? (i := 0) rfl)) dX4_rest_152 ?_
            refine vv_getIN C (a := 11) (k := 8) (o := 0) inlX0 rfl rfl rfl (by decide) rfl (List.mem_of_getElem? (i := 25) rfl) dX4_rest_155 ?_
            refine vv_isub C dX4_rest_158 ?_
            refine vv_jret C dX4_rest_159 ?_
            exact ⟨by rw [if_pos hB, ← hfin, aw_rs, if_pos rfl, tb1], hc⟩
          · subst hw
            refine vv_tableIn (tgt := 160) C dX4_rest_117 (by decide) (by decide) rfl (by decide) ?_
            refine vv_aload_n C dX4_rest_160 rfl 0 rfl ?_
            refine vv_gR C (a := 0) (k := 4) (b := 20) inlX4 rfl rfl rfl rfl (by decide) rfl (tm_2 (List.mem_of_getElem? (i := 5) rfl)) dX4_rest_161 ?_
            refine vv_getIN C (a := 20) (k := 1) (o := 0) inlX0 rfl rfl rfl (by decide) rfl (List.mem_of_getElem? (i := 18) rfl) dX4_rest_164 ?_
            refine vv_jret C dX4_rest_167 ?_
            exact ⟨by rw [if_pos hB, ← hfin, aw_rs, if_neg (show ¬ nI 1 = nI 0 by decide), if_pos rfl], hc⟩
          · subst hw
            refine vv_tableIn (tgt := 168) C dX4_rest_117 (by decide) (by decide) rfl (by decide) ?_
            refine vv_iload C dX4_rest_168 3 rfl ?_
            refine vv_jret C dX4_rest_170 ?_
            exact ⟨by rw [if_pos hB, ← hfin, aw_rs, if_neg (show ¬ nI 2 = nI 0 by decide), if_neg (show ¬ nI 2 = nI 1 by decide), if_pos rfl], hc⟩
          · refine vv_tableOut (tgt := 171) C dX4_rest_117 hw (by decide) ?_
            refine vv_iload_n C dX4_rest_171 rfl 2 rfl ?_
            refine vv_jret C dX4_rest_172 ?_
            have ne : ∀ j : Nat, j < 3 → ¬ w = nI j := fun j hj e => by rw [e, nI_toInt (by omega)] at hw; omega
            exact ⟨by rw [if_pos hB, ← hfin, aw_rs, if_neg (ne 0 (by decide)), if_neg (ne 1 (by decide)), if_neg (ne 2 (by decide))], hc⟩
        · refine vv_iload_n C dX4_rest_58 rfl 2 rfl ?_
          refine vv_cS_F C (kk_X4_seedAfter l g _ _) yk_X4_seedAfter (tm_25 (List.mem_of_getElem? (i := 0) rfl)) (by decide) rfl (Nat.le_of_ble_eq_true rfl) rfl dX4_rest_59 ?_
          refine vv_istore_n (i := 3) (L' := [_, _, _, _, _]) C dX4_rest_62 rfl (by decide) rfl ?_
          refine vv_aload_n C dX4_rest_63 rfl 1 rfl ?_
          refine vv_gR C (a := 0) (k := 4) (b := 20) inlX4 rfl rfl rfl rfl (by decide) rfl (tm_2 (List.mem_of_getElem? (i := 5) rfl)) dX4_rest_64 ?_
          refine vv_iload_n C dX4_rest_67 rfl 0 rfl ?_
          refine vv_ldc C (tm_24 (List.mem_of_getElem? (i := 23) rfl)) dX4_rest_68 ?_
          refine vv_idiv C dX4_rest_70 (by decide) ?_
          refine vv_iconst (v := (3)) C dX4_rest_71 (by decide) ?_
          refine vv_irem C dX4_rest_72 (by decide) ?_
          refine vv_if_ne (tgt := 80) C dX4_rest_73 (by decide) (fun h73 => ?_) (fun h73 => ?_)
          · refine vv_iconst (v := (0)) C dX4_rest_80 (by decide) ?_
            refine vv_putZN C (a := 20) (k := 6) inlX0 tyX0 tyX0_ok nmX0 rfl rfl rfl (by decide) rfl rfl rfl rfl (List.mem_of_getElem? (i := 23) rfl) dX4_rest_81 ?_
            refine vv_aload_n C dX4_rest_84 rfl 1 rfl ?_
            refine vv_gR C (a := 0) (k := 4) (b := 20) inlX4 rfl rfl rfl rfl (by decide) rfl (tm_2 (List.mem_of_getElem? (i := 5) rfl)) dX4_rest_85 ?_
            refine vv_aload_n C dX4_rest_88 rfl 1 rfl ?_
            refine vv_gR C (a := 0) (k := 1) (b := 3) inlX4 rfl rfl rfl rfl (by decide) rfl (tm_1 (List.mem_of_getElem? (i := 20) rfl)) dX4_rest_89 ?_
            refine vv_cVN_i C (a := 20) (kk_X0_passHour l g _ 20 (show (20 : Nat) = 11 ∨ (20 : Nat) = 20 ∨ (20 : Nat) = 26 from Or.inr (Or.inl rfl)) n (by rw [vx_u_ne _ _ _ (by decide)]; exact hn1) hn8) yk_X0_passHour (List.mem_of_getElem? (i := 52) rfl) rfl rfl rfl (by decide) rfl (Nat.le_of_ble_eq_true rfl) rfl dX4_rest_92 (fun r92 S92 h92 => ?_)
            obtain ⟨_, c92, d92, _⟩ := h92
            refine vv_pop C dX4_rest_95 rfl ?_
            refine vv_aload_n C dX4_rest_96 rfl 1 rfl ?_
            refine vv_gR C (a := 0) (k := 4) (b := 20) inlX4 rfl rfl rfl rfl (by decide) rfl (tm_2 (List.mem_of_getElem? (i := 5) rfl)) dX4_rest_97 ?_
            refine vv_getZN C (a := 20) (k := 7) (o := 0) inlX0 rfl rfl rfl (by decide) rfl (List.mem_of_getElem? (i := 24) rfl) dX4_rest_100 ?_
            refine vv_ifz_eq (tgt := 110) C dX4_rest_103 (by decide) (fun h103 => ?_) (fun h103 => ?_)
            · refine vv_iincN (L' := [_, _, _, _, _]) (j := 4) C dX4_rest_110 rfl (by decide) rfl ?_
              refine vv_goto (tgt := 41) C dX4_rest_113 (by decide) ?_
              refine vv_sub (L' := [_, _, _, _, _]) [2, 3, 1, 4, 0] rfl ?_
              have hrn : pu_rn (pu_seed nx) = 0 := by rw [pu_rn, if_neg h73]
              rw [pu_hs_c (S := S1) (fun c h1 h2 => vx_u_ne _ _ _ (by omega)), vx_u_ne _ _ _ (by decide), hs1, wy1, vx_u_row] at d92
              have hdn : pu_dn (pu_hs S) (S.1 10) 0 (S1.1 20 1) (nI i) (S.1 11 5) (S1.1 20 4) n = false := by
                rw [d92, pu_nx_7] at h103
                simp only [upd] at h103
                simp [r2, r5, h55] at h103
                simpa using h103
              refine ih (i + 1) _ _ S92 ⟨by omega, by omega, pu_chg_tr (pu_chg_u hc _ _ (by simp)) c92 (by simp), ?_, ?_, ?_, hB⟩
              · rw [d92, pu_nx_2]; simp [upd, r2, nI_1]
              · rw [d92, pu_nx_5]; simp [upd, r5]
              · rw [← hst, show 9 - i = (9 - (i + 1)) + 1 by omega, pu_rs, if_pos h55, hrn, hdn, d92, pu_nx_1, pu_nx_4, pu_nx_7, pu_nx_8]
                simp [upd, r2, r5, hdn, nI_1]
            · refine vv_iload C dX4_rest_106 4 rfl ?_
              refine vv_istore (L' := [_, _, _, _, _]) C dX4_rest_108 (by decide) rfl ?_
              refine vv_iincN (L' := [_, _, _, _, _]) (j := 4) C dX4_rest_110 rfl (by decide) rfl ?_
              refine vv_goto (tgt := 41) C dX4_rest_113 (by decide) ?_
              refine vv_sub (L' := [_, _, _, _, _]) [3, 4, 2, 1, 0] rfl ?_
              have hrn : pu_rn (pu_seed nx) = 0 := by rw [pu_rn, if_neg h73]
              rw [pu_hs_c (S := S1) (fun c h1 h2 => vx_u_ne _ _ _ (by omega)), vx_u_ne _ _ _ (by decide), hs1, wy1, vx_u_row] at d92
              have hdn : pu_dn (pu_hs S) (S.1 10) 0 (S1.1 20 1) (nI i) (S.1 11 5) (S1.1 20 4) n = true := by
                rw [d92, pu_nx_7] at h103
                simp only [upd] at h103
                simp [r2, r5, h55] at h103
                simpa using h103
              refine ih (i + 1) _ _ S92 ⟨by omega, by omega, pu_chg_tr (pu_chg_u hc _ _ (by simp)) c92 (by simp), ?_, ?_, ?_, hB⟩
              · rw [d92, pu_nx_2]; simp [upd, r2, nI_1]
              · rw [d92, pu_nx_5]; simp [upd, r5]
              · rw [← hst, show 9 - i = (9 - (i + 1)) + 1 by omega, pu_rs, if_pos h55, hrn, hdn, d92, pu_nx_1, pu_nx_4, pu_nx_7, pu_nx_8]
                simp [upd, r2, r5, hdn, nI_1]
          · refine vv_iconst (v := (1)) C dX4_rest_76 (by decide) ?_
            refine vv_goto (tgt := 81) C dX4_rest_77 (by decide) ?_
            refine vv_putZN C (a := 20) (k := 6) inlX0 tyX0 tyX0_ok nmX0 rfl rfl rfl (by decide) rfl rfl rfl rfl (List.mem_of_getElem? (i := 23) rfl) dX4_rest_81 ?_
            refine vv_aload_n C dX4_rest_84 rfl 1 rfl ?_
            refine vv_gR C (a := 0) (k := 4) (b := 20) inlX4 rfl rfl rfl rfl (by decide) rfl (tm_2 (List.mem_of_getElem? (i := 5) rfl)) dX4_rest_85 ?_
            refine vv_aload_n C dX4_rest_88 rfl 1 rfl ?_
            refine vv_gR C (a := 0) (k := 1) (b := 3) inlX4 rfl rfl rfl rfl (by decide) rfl (tm_1 (List.mem_of_getElem? (i := 20) rfl)) dX4_rest_89 ?_
            refine vv_cVN_i C (a := 20) (kk_X0_passHour l g _ 20 (show (20 : Nat) = 11 ∨ (20 : Nat) = 20 ∨ (20 : Nat) = 26 from Or.inr (Or.inl rfl)) n (by rw [vx_u_ne _ _ _ (by decide)]; exact hn1) hn8) yk_X0_passHour (List.mem_of_getElem? (i := 52) rfl) rfl rfl rfl (by decide) rfl (Nat.le_of_ble_eq_true rfl) rfl dX4_rest_92 (fun r92 S92 h92 => ?_)
            obtain ⟨_, c92, d92, _⟩ := h92
            refine vv_pop C dX4_rest_95 rfl ?_
            refine vv_aload_n C dX4_rest_96 rfl 1 rfl ?_
            refine vv_gR C (a := 0) (k := 4) (b := 20) inlX4 rfl rfl rfl rfl (by decide) rfl (tm_2 (List.mem_of_getElem? (i := 5) rfl)) dX4_rest_97 ?_
            refine vv_getZN C (a := 20) (k := 7) (o := 0) inlX0 rfl rfl rfl (by decide) rfl (List.mem_of_getElem? (i := 24) rfl) dX4_rest_100 ?_
            refine vv_ifz_eq (tgt := 110) C dX4_rest_103 (by decide) (fun h103 => ?_) (fun h103 => ?_)
            · refine vv_iincN (L' := [_, _, _, _, _]) (j := 4) C dX4_rest_110 rfl (by decide) rfl ?_
              refine vv_goto (tgt := 41) C dX4_rest_113 (by decide) ?_
              refine vv_sub (L' := [_, _, _, _, _]) [2, 3, 1, 4, 0] rfl ?_
              have hrn : pu_rn (pu_seed nx) = 1 := by rw [pu_rn, if_pos h73]
              rw [pu_hs_c (S := S1) (fun c h1 h2 => vx_u_ne _ _ _ (by omega)), vx_u_ne _ _ _ (by decide), hs1, wy1, vx_u_row] at d92
              have hdn : pu_dn (pu_hs S) (S.1 10) 1 (S1.1 20 1) (nI i) (S.1 11 5) (S1.1 20 4) n = false := by
                rw [d92, pu_nx_7] at h103
                simp only [upd] at h103
                simp [r2, r5, h55] at h103
                simpa using h103
              refine ih (i + 1) _ _ S92 ⟨by omega, by omega, pu_chg_tr (pu_chg_u hc _ _ (by simp)) c92 (by simp), ?_, ?_, ?_, hB⟩
              · rw [d92, pu_nx_2]; simp [upd, r2, nI_1]
              · rw [d92, pu_nx_5]; simp [upd, r5]
              · rw [← hst, show 9 - i = (9 - (i + 1)) + 1 by omega, pu_rs, if_pos h55, hrn, hdn, d92, pu_nx_1, pu_nx_4, pu_nx_7, pu_nx_8]
                simp [upd, r2, r5, hdn, nI_1]
            · refine vv_iload C dX4_rest_106 4 rfl ?_
              refine vv_istore (L' := [_, _, _, _, _]) C dX4_rest_108 (by decide) rfl ?_
              refine vv_iincN (L' := [_, _, _, _, _]) (j := 4) C dX4_rest_110 rfl (by decide) rfl ?_
              refine vv_goto (tgt := 41) C dX4_rest_113 (by decide) ?_
              refine vv_sub (L' := [_, _, _, _, _]) [3, 4, 2, 1, 0] rfl ?_
              have hrn : pu_rn (pu_seed nx) = 1 := by rw [pu_rn, if_pos h73]
              rw [pu_hs_c (S := S1) (fun c h1 h2 => vx_u_ne _ _ _ (by omega)), vx_u_ne _ _ _ (by decide), hs1, wy1, vx_u_row] at d92
              have hdn : pu_dn (pu_hs S) (S.1 10) 1 (S1.1 20 1) (nI i) (S.1 11 5) (S1.1 20 4) n = true := by
                rw [d92, pu_nx_7] at h103
                simp only [upd] at h103
                simp [r2, r5, h55] at h103
                simpa using h103
              refine ih (i + 1) _ _ S92 ⟨by omega, by omega, pu_chg_tr (pu_chg_u hc _ _ (by simp)) c92 (by simp), ?_, ?_, ?_, hB⟩
              · rw [d92, pu_nx_2]; simp [upd, r2, nI_1]
              · rw [d92, pu_nx_5]; simp [upd, r5]
              · rw [← hst, show 9 - i = (9 - (i + 1)) + 1 by omega, pu_rs, if_pos h55, hrn, hdn, d92, pu_nx_1, pu_nx_4, pu_nx_7, pu_nx_8]
                simp [upd, r2, r5, hdn, nI_1]
  refine vv_iload_n C dX4_rest_0 rfl 1 rfl ?_
  refine vv_if_lt (tgt := 13) C dX4_rest_1 (by decide) (fun h1 => ?_) (fun h1 => ?_)
  · have g1 := pu_lt h1
    refine vv_bipush (v := (-102)) C dX4_rest_13 (by decide) ?_
    refine vv_jret C dX4_rest_15 ?_
    exact ⟨by rw [if_neg (by simp [aw_rsB, g1])], pu_chg_rf S _⟩
  · have g1 := pu_nlt h1
    refine vv_iload_n C dX4_rest_4 rfl 2 rfl ?_
    refine vv_if_lt (tgt := 13) C dX4_rest_5 (by decide) (fun h5 => ?_) (fun h5 => ?_)
    · have g5 := pu_lt h5
      refine vv_bipush (v := (-102)) C dX4_rest_13 (by decide) ?_
      refine vv_jret C dX4_rest_15 ?_
      exact ⟨by rw [if_neg (by simp [aw_rsB, g5])], pu_chg_rf S _⟩
    · have g5 := pu_nlt h5
      refine vv_iload_n C dX4_rest_8 rfl 2 rfl ?_
      refine vv_iconst (v := (3)) C dX4_rest_9 (by decide) ?_
      refine vv_icmp_le (tgt := 16) C dX4_rest_10 (by decide) (fun h10 => ?_) (fun h10 => ?_)
      · have g10 := pu_le h10
        refine vv_aload_n C dX4_rest_16 rfl 0 rfl ?_
        refine vv_gR C (a := 0) (k := 4) (b := 20) inlX4 rfl rfl rfl rfl (by decide) rfl (tm_2 (List.mem_of_getElem? (i := 5) rfl)) dX4_rest_17 ?_
        refine vv_aload_n C dX4_rest_20 rfl 0 rfl ?_
        refine vv_gR C (a := 0) (k := 2) (b := 11) inlX4 rfl rfl rfl rfl (by decide) rfl (tm_2 (List.mem_of_getElem? (i := 0) rfl)) dX4_rest_21 ?_
        refine vv_cVN_v C (a := 20) (kk_X0_copyFrom l g _ 20 (show (20 : Nat) = 11 ∨ (20 : Nat) = 20 ∨ (20 : Nat) = 26 from Or.inr (Or.inl rfl)) 11 (show (11 : Nat) = 11 ∨ (11 : Nat) = 20 ∨ (11 : Nat) = 26 from Or.inl rfl) (by decide) hb6 hb7) yk_X0_copyFrom (List.mem_of_getElem? (i := 57) rfl) rfl rfl rfl (by decide) rfl (Nat.le_of_ble_eq_true rfl) rfl dX4_rest_24 (fun S24 h24 => ?_)
        obtain ⟨hc8, r0, _, _⟩ := h24
        refine vv_iload_n C dX4_rest_27 rfl 1 rfl ?_
        refine vv_istore_n (i := 3) (L' := [_, _, _, _]) C dX4_rest_28 rfl (by decide) rfl ?_
        refine vv_iconst (v := (-1)) C dX4_rest_29 (by decide) ?_
        refine vv_istore (L' := [_, _, _, _, _]) C dX4_rest_30 (by decide) rfl ?_
        refine vv_aload_n C dX4_rest_32 rfl 2 rfl ?_
        refine vv_gR C (a := 0) (k := 2) (b := 11) inlX4 rfl rfl rfl rfl (by decide) rfl (tm_2 (List.mem_of_getElem? (i := 0) rfl)) dX4_rest_33 ?_
        refine vv_getIN C (a := 11) (k := 2) (o := 0) inlX0 rfl rfl rfl (by decide) rfl (List.mem_of_getElem? (i := 19) rfl) dX4_rest_36 ?_
        rw [show S24.1 11 2 = nI hh from by rw [hc8.2 11 (by decide)]; exact hhr]
        refine vv_istore (L' := [_, _, _, _, _, _]) C dX4_rest_39 (by decide) rfl ?_
        refine vv_sub (L' := [_, _, _, _, _]) [3, 5, 2, 1, 0] rfl ?_
        refine lp41 10 hh _ _ S24 ⟨by omega, hh9, pu_chg_tr (pu_chg_rf S _) hc8 (by simp), ?_, ?_, ?_, by simp [aw_rsB, h1, g1, h5, g5, h10, g10]⟩
        · rw [r0 2 (by decide)]; exact hhr
        · exact r0 5 (by decide)
        · rw [r0 1 (by decide), r0 4 (by decide), r0 7 (by decide), r0 8 (by decide)]
      · have g10 := pu_nle h10
        refine vv_bipush (v := (-102)) C dX4_rest_13 (by decide) ?_
        refine vv_jret C dX4_rest_15 ?_
        exact ⟨by rw [if_neg (by simp [aw_rsB, h10])], pu_chg_rf S _⟩
theorem yk_X4_look : vx_yV yX4_look cX4_look 7 (some .int) 0 := ⟨(tm_28 (List.mem_of_getElem? (i := 12) rfl)), (tm_1 (List.mem_of_getElem? (i := 2) rfl)), by decide +kernel, (tm_28 (List.mem_of_getElem? (i := 10) rfl)), (tm_28 (List.mem_of_getElem? (i := 11) rfl))⟩
set_option maxHeartbeats 4000000 in
set_option maxRecDepth 100000 in
theorem kk_X4_look (l : Launch) (g : vx_G) (S : vx_St) (n : Nat) (hn : S.1 3 0 = nI n) (hn8 : n ≤ 8) (mr : Nat) (hm : S.1 17 0 = nI mr) (hm8 : mr ≤ 8) : vx_M l g yX4_look cX4_look 7 (some .int) (vx_R 4 89) [.ref (g.2.2.1 0)] S (vx_pf (aw_look (pu_leaks (S.1 18) (S.1 19) mr n) (S.1 10) n) S) := by
  refine vx_M.intro (by decide) (Nat.le_of_ble_eq_true rfl) ?_
  intro p e s m args below meth c C
  have lp19 : ∀ (fu : Nat) (i : Nat), (2 ^ n - 1 - i < fu ∧ i ≤ 2 ^ n - 1 ∧ ¬ (pu_leaks (S.1 18) (S.1 19) mr n) = 0) → vx_V p l e (vx_R 4 89) s m args below meth c (MQ below (vx_Q g (vx_pf (aw_look (pu_leaks (S.1 18) (S.1 19) mr n) (S.1 10) n) S)) args s 0 0 (vx_A g)) g 7 19 [(0, .ref (g.2.2.1 0)), (1, .int (pu_leaks (S.1 18) (S.1 19) mr n)), (2, .int (pu_look (pu_leaks (S.1 18) (S.1 19) mr n) (S.1 10) n i).1), (3, .int (pu_look (pu_leaks (S.1 18) (S.1 19) mr n) (S.1 10) n i).2), (4, .int (nI (i + 1)))] [] (S) := by
    intro fu
    induction fu with
    | zero =>
      intro i hfu
      exact absurd hfu.1 (by omega)
    | succ fu ih =>
      intro i hfu
      obtain ⟨hf1, hf2, hsu⟩ := hfu
      have h2n := pu_2n n hn8
      refine vv_iload C dX4_look_19 4 rfl ?_
      refine vv_aload_n C dX4_look_21 rfl 0 rfl ?_
      refine vv_gR C (a := 0) (k := 1) (b := 3) inlX4 rfl rfl rfl rfl (by decide) rfl (tm_1 (List.mem_of_getElem? (i := 20) rfl)) dX4_look_22 ?_
      refine vv_cVN_F C (a := 3) (kk_X1_all l g _) yk_X1_all (List.mem_of_getElem? (i := 58) rfl) rfl rfl rfl (by decide) rfl (Nat.le_of_ble_eq_true rfl) rfl dX4_look_25 ?_
      rw [hn, pu_all_nI n hn8]
      refine vv_icmp_gt (tgt := 81) C dX4_look_28 (by decide) (fun h28 => ?_) (fun h28 => ?_)
      · have g28 := pu_lt h28
        have hgt := pu_gtT rfl (by omega) (by omega) h28
        refine vv_iload_n C dX4_look_81 rfl 2 rfl ?_
        refine vv_fret C dX4_look_82 ?_
        rw [aw_look, if_neg hsu, show 2 ^ n - 1 = i by omega]
      · have g28 := pu_nlt h28
        have hle := pu_gtF rfl (by omega) (by omega) h28
        refine vv_aload_n C dX4_look_31 rfl 0 rfl ?_
        refine vv_gR C (a := 0) (k := 1) (b := 3) inlX4 rfl rfl rfl rfl (by decide) rfl (tm_1 (List.mem_of_getElem? (i := 20) rfl)) dX4_look_32 ?_
        refine vv_iload C dX4_look_35 4 rfl ?_
        refine vv_cVN_F C (a := 3) (kk_X1_waysTo l g _ _ n hn hn8) yk_X1_waysTo (List.mem_of_getElem? (i := 61) rfl) rfl rfl rfl (by decide) rfl (Nat.le_of_ble_eq_true rfl) rfl dX4_look_37 ?_
        refine vv_istore (L' := [_, _, _, _, _, _]) C dX4_look_40 (by decide) rfl ?_
        refine vv_iload_n C dX4_look_42 rfl 2 rfl ?_
        refine vv_iload C dX4_look_43 0 rfl ?_
        refine vv_iand C dX4_look_45 ?_
        refine vv_cS_F C (kk_J6_bitCount_0f7a4 l g _ _) yk_J6_bitCount_0f7a4 (tm_21 (List.mem_of_getElem? (i := 23) rfl)) (by decide) rfl (Nat.le_of_ble_eq_true rfl) rfl dX4_look_46 ?_
        refine vv_iload_n C dX4_look_49 rfl 2 rfl ?_
        refine vv_iload C dX4_look_50 0 rfl ?_
        refine vv_iconst (v := (-1)) C dX4_look_52 (by decide) ?_
        refine vv_ixor C dX4_look_53 ?_
        refine vv_iand C dX4_look_54 ?_
        refine vv_cS_F C (kk_J6_bitCount_0f7a4 l g _ _) yk_J6_bitCount_0f7a4 (tm_21 (List.mem_of_getElem? (i := 23) rfl)) (by decide) rfl (Nat.le_of_ble_eq_true rfl) rfl dX4_look_55 ?_
        refine vv_mmax C (tm_28 (List.mem_of_getElem? (i := 13) rfl)) (tm_7 (List.mem_of_getElem? (i := 11) rfl)) (tm_7 (List.mem_of_getElem? (i := 12) rfl)) (tm_7 (List.mem_of_getElem? (i := 13) rfl)) (by decide) (Nat.le_of_ble_eq_true rfl) dX4_look_58 ?_
        refine vv_istore (L' := [_, _, _, _, _, _, _]) C dX4_look_61 (by decide) rfl ?_
        refine vv_iload C dX4_look_63 0 rfl ?_
        refine vv_iload_n C dX4_look_65 rfl 5 rfl ?_
        refine vv_icmp_ge (tgt := 75) C dX4_look_66 (by decide) (fun h66 => ?_) (fun h66 => ?_)
        · have g66 := pu_le h66
          refine vv_iincN (L' := [_, _, _, _, _, _, _]) (j := 6) C dX4_look_75 rfl (by decide) rfl ?_
          refine vv_goto (tgt := 19) C dX4_look_78 (by decide) ?_
          refine vv_sub (L' := [_, _, _, _, _]) [3, 4, 5, 6, 0] rfl ?_
          have q := ih (i + 1) ⟨by omega, by omega, hsu⟩
          rw [pu_look, if_pos (show (pu_look (pu_leaks (S.1 18) (S.1 19) mr n) (S.1 10) n i).2 ≤ pu_left (pu_leaks (S.1 18) (S.1 19) mr n) (pu_or (S.1 10) (nI (i + 1)) n) from h66)] at q
          exact q
        · have g66 := pu_nle h66
          refine vv_iload C dX4_look_69 0 rfl ?_
          refine vv_istore_n (i := 3) (L' := [_, _, _, _, _, _, _]) C dX4_look_71 rfl (by decide) rfl ?_
          refine vv_iload C dX4_look_72 6 rfl ?_
          refine vv_istore_n (i := 2) (L' := [_, _, _, _, _, _, _]) C dX4_look_74 rfl (by decide) rfl ?_
          refine vv_iincN (L' := [_, _, _, _, _, _, _]) (j := 6) C dX4_look_75 rfl (by decide) rfl ?_
          refine vv_goto (tgt := 19) C dX4_look_78 (by decide) ?_
          refine vv_sub (L' := [_, _, _, _, _]) [5, 6, 1, 2, 0] rfl ?_
          have q := ih (i + 1) ⟨by omega, by omega, hsu⟩
          rw [pu_look, if_neg (show ¬ (pu_look (pu_leaks (S.1 18) (S.1 19) mr n) (S.1 10) n i).2 ≤ pu_left (pu_leaks (S.1 18) (S.1 19) mr n) (pu_or (S.1 10) (nI (i + 1)) n) from h66)] at q
          exact q
  refine vv_aload_n C dX4_look_0 rfl 0 rfl ?_
  refine vv_cV_F C (a := 0) (kk_X4_leaks l g _ n hn hn8 mr hm hm8) yk_X4_leaks (tm_28 (List.mem_of_getElem? (i := 14) rfl)) rfl rfl rfl (by decide) rfl (Nat.le_of_ble_eq_true rfl) rfl dX4_look_1 ?_
  refine vv_istore_n (i := 1) (L' := [_, _]) C dX4_look_4 rfl (by decide) rfl ?_
  refine vv_iload_n C dX4_look_5 rfl 0 rfl ?_
  refine vv_if_ne (tgt := 11) C dX4_look_6 (by decide) (fun h6 => ?_) (fun h6 => ?_)
  · refine vv_iconst (v := (-1)) C dX4_look_11 (by decide) ?_
    refine vv_istore_n (i := 2) (L' := [_, _, _]) C dX4_look_12 rfl (by decide) rfl ?_
    refine vv_bipush (v := (9)) C dX4_look_13 (by decide) ?_
    refine vv_istore_n (i := 3) (L' := [_, _, _, _]) C dX4_look_15 rfl (by decide) rfl ?_
    refine vv_iconst (v := (nI 1)) C dX4_look_16 (by decide) ?_
    refine vv_istore (L' := [_, _, _, _, _]) C dX4_look_17 (by decide) rfl ?_
    refine vv_sub (L' := [_, _, _, _, _]) [4, 3, 2, 1, 0] rfl ?_
    have h2n := pu_2n n hn8
    exact lp19 (2 ^ n) 0 ⟨by omega, by omega, h6⟩
  · refine vv_iconst (v := (-1)) C dX4_look_9 (by decide) ?_
    refine vv_fret C dX4_look_10 ?_
    rw [aw_look, if_pos h6]
theorem yk_X4_image : vx_yV yX4_image cX4_image 1 (some .int) 0 := ⟨(tm_29 (List.mem_of_getElem? (i := 2) rfl)), (tm_1 (List.mem_of_getElem? (i := 2) rfl)), by decide +kernel, (tm_29 (List.mem_of_getElem? (i := 0) rfl)), (tm_29 (List.mem_of_getElem? (i := 1) rfl))⟩
set_option maxHeartbeats 4000000 in
set_option maxRecDepth 100000 in
theorem kk_X4_image (l : Launch) (g : vx_G) (S : vx_St) (hb6 : vx_b01 (S.1 11 6) = S.1 11 6) (hb7 : vx_b01 (S.1 11 7) = S.1 11 7) : vx_M l g yX4_image cX4_image 1 (some .int) (vx_R 2 61) [.ref (g.2.2.1 0)] S (vx_pi (fun r S' => r = S.1 11 1 ∧ pu_chg S S' [0, 26, 27, 28, 32, 33, 34] ∧ S'.1 0 = upd (upd (S.1 0) 5 1) 6 (S.1 3 0) ∧ (∀ k, k < 9 → S'.1 26 k = S.1 11 k) ∧ (∀ k, k < 8 → S'.1 27 k = S.1 12 k) ∧ (∀ k, k < 8 → S'.1 28 k = S.1 13 k) ∧ S'.1 32 0 = S.1 17 0 ∧ (∀ k, k < 8 → S'.1 33 k = S.1 18 k) ∧ (∀ k, k < 8 → S'.1 34 k = S.1 19 k))) := by
  refine vx_M.intro (by decide) (Nat.le_of_ble_eq_true rfl) ?_
  intro p e s m args below meth c C
  refine vv_aload_n C dX4_image_0 rfl 0 rfl ?_
  refine vv_iconst (v := (1)) C dX4_image_1 (by decide) ?_
  refine vv_putZ C (a := 0) (k := 5) inlX4 tyX4 tyX4_ok nmX4 rfl rfl rfl (by decide) rfl rfl rfl rfl (tm_29 (List.mem_of_getElem? (i := 3) rfl)) dX4_image_2 ?_
  refine vv_aload_n C dX4_image_5 rfl 0 rfl ?_
  refine vv_aload_n C dX4_image_6 rfl 0 rfl ?_
  refine vv_gR C (a := 0) (k := 1) (b := 3) inlX4 rfl rfl rfl rfl (by decide) rfl (tm_1 (List.mem_of_getElem? (i := 20) rfl)) dX4_image_7 ?_
  refine vv_getIN C (a := 3) (k := 0) (o := 0) inlX1 rfl rfl rfl (by decide) rfl (List.mem_of_getElem? (i := 5) rfl) dX4_image_10 ?_
  refine vv_putI C (a := 0) (k := 6) inlX4 tyX4 tyX4_ok nmX4 rfl rfl rfl (by decide) rfl rfl rfl (tm_29 (List.mem_of_getElem? (i := 4) rfl)) dX4_image_13 ?_
  refine vv_aload_n C dX4_image_16 rfl 0 rfl ?_
  refine vv_gR C (a := 0) (k := 7) (b := 26) inlX4 rfl rfl rfl rfl (by decide) rfl (tm_2 (List.mem_of_getElem? (i := 6) rfl)) dX4_image_17 ?_
  refine vv_aload_n C dX4_image_20 rfl 0 rfl ?_
  refine vv_gR C (a := 0) (k := 2) (b := 11) inlX4 rfl rfl rfl rfl (by decide) rfl (tm_2 (List.mem_of_getElem? (i := 0) rfl)) dX4_image_21 ?_
  refine vv_cVN_v C (a := 26) (kk_X0_copyFrom l g _ 26 (show (26 : Nat) = 11 ∨ (26 : Nat) = 20 ∨ (26 : Nat) = 26 from Or.inr (Or.inr rfl)) 11 (show (11 : Nat) = 11 ∨ (11 : Nat) = 20 ∨ (11 : Nat) = 26 from Or.inl rfl) (by decide) (by simp only [vx_u_ne _ _ _ (show (11 : Nat) ≠ 0 by decide)]; exact hb6) (by simp only [vx_u_ne _ _ _ (show (11 : Nat) ≠ 0 by decide)]; exact hb7)) yk_X0_copyFrom (List.mem_of_getElem? (i := 57) rfl) rfl rfl rfl (by decide) rfl (Nat.le_of_ble_eq_true rfl) rfl dX4_image_24 (fun S24 h24 => ?_)
  obtain ⟨c1, c2, c3, c4⟩ := h24
  refine vv_aload_n C dX4_image_27 rfl 0 rfl ?_
  refine vv_gR C (a := 0) (k := 8) (b := 32) inlX4 rfl rfl rfl rfl (by decide) rfl (tm_2 (List.mem_of_getElem? (i := 7) rfl)) dX4_image_28 ?_
  refine vv_aload_n C dX4_image_31 rfl 0 rfl ?_
  refine vv_gR C (a := 0) (k := 3) (b := 17) inlX4 rfl rfl rfl rfl (by decide) rfl (tm_2 (List.mem_of_getElem? (i := 4) rfl)) dX4_image_32 ?_
  refine vv_cVN_v C (a := 32) (kk_X3_copyFrom l g _ 32 (show (32 : Nat) = 17 ∨ (32 : Nat) = 32 from Or.inr rfl) 17 (show (17 : Nat) = 17 ∨ (17 : Nat) = 32 from Or.inl rfl) (by decide)) yk_X3_copyFrom (List.mem_of_getElem? (i := 66) rfl) rfl rfl rfl (by decide) rfl (Nat.le_of_ble_eq_true rfl) rfl dX4_image_35 (fun S35 h35 => ?_)
  obtain ⟨e1, e2, e3, e4⟩ := h35
  refine vv_aload_n C dX4_image_38 rfl 0 rfl ?_
  refine vv_gR C (a := 0) (k := 2) (b := 11) inlX4 rfl rfl rfl rfl (by decide) rfl (tm_2 (List.mem_of_getElem? (i := 0) rfl)) dX4_image_39 ?_
  refine vv_getIN C (a := 11) (k := 1) (o := 0) inlX0 rfl rfl rfl (by decide) rfl (List.mem_of_getElem? (i := 18) rfl) dX4_image_42 ?_
  refine vv_jret C dX4_image_45 ?_
  have w : ∀ c, c ≠ 0 → (vx_u (vx_u S 0 5 1) 0 6 ((vx_u S 0 5 1).1 3 0)).1 c = S.1 c := fun c h => by rw [vx_u_ne _ _ _ h, vx_u_ne _ _ _ h]
  refine ⟨?_, ?_, ?_, ?_, ?_, ?_, ?_, ?_, ?_⟩
  · rw [e1.2 11 (by decide), c1.2 11 (by decide), w 11 (by decide)]
  · exact pu_chg_tr (pu_chg_tr (pu_chg_u (pu_chg_u (pu_chg_rf S _) _ _ (by simp)) _ _ (by simp)) c1 (by simp)) e1 (by simp)
  · rw [e1.2 0 (by decide), c1.2 0 (by decide), vx_u_row, vx_u_row, vx_u_ne _ _ _ (by decide)]
  · intro k hk; rw [e1.2 26 (by decide), c2 k hk, w 11 (by decide)]
  · intro k hk; rw [e1.2 27 (by decide), c3 k hk, w 12 (by decide)]
  · intro k hk; rw [e1.2 28 (by decide), c4 k hk, w 13 (by decide)]
  · rw [e2, c1.2 17 (by decide), w 17 (by decide)]
  · intro k hk; rw [e3 k hk, c1.2 18 (by decide), w 18 (by decide)]
  · intro k hk; rw [e4 k hk, c1.2 19 (by decide), w 19 (by decide)]
theorem yk_X4_restore : vx_yV yX4_restore cX4_restore 1 (some .int) 0 := ⟨(tm_30 (List.mem_of_getElem? (i := 3) rfl)), (tm_1 (List.mem_of_getElem? (i := 2) rfl)), by decide +kernel, (tm_30 (List.mem_of_getElem? (i := 1) rfl)), (tm_30 (List.mem_of_getElem? (i := 2) rfl))⟩
set_option maxHeartbeats 4000000 in
set_option maxRecDepth 100000 in
theorem kk_X4_restore (l : Launch) (g : vx_G) (S : vx_St) (hb6 : vx_b01 (S.1 26 6) = S.1 26 6) (hb7 : vx_b01 (S.1 26 7) = S.1 26 7) : vx_M l g yX4_restore cX4_restore 1 (some .int) (vx_R 2 61) [.ref (g.2.2.1 0)] S (vx_pi (fun r S' => r = (if S.1 0 5 = 0 then -103 else S.1 26 1) ∧ (S.1 0 5 = 0 → S' = S) ∧ (¬ S.1 0 5 = 0 → pu_chg S S' [3, 11, 12, 13, 17, 18, 19] ∧ S'.1 3 = upd (S.1 3) 0 (S.1 0 6) ∧ (∀ k, k < 9 → S'.1 11 k = S.1 26 k) ∧ (∀ k, k < 8 → S'.1 12 k = S.1 27 k) ∧ (∀ k, k < 8 → S'.1 13 k = S.1 28 k) ∧ S'.1 17 0 = S.1 32 0 ∧ (∀ k, k < 8 → S'.1 18 k = S.1 33 k) ∧ (∀ k, k < 8 → S'.1 19 k = S.1 34 k)))) := by
  refine vx_M.intro (by decide) (Nat.le_of_ble_eq_true rfl) ?_
  intro p e s m args below meth c C
  refine vv_aload_n C dX4_restore_0 rfl 0 rfl ?_
  refine vv_getZ C (a := 0) (k := 5) (o := 0) inlX4 rfl rfl rfl (by decide) rfl (tm_29 (List.mem_of_getElem? (i := 3) rfl)) dX4_restore_1 ?_
  refine vv_ifz_ne (tgt := 10) C dX4_restore_4 (by decide) (fun h4 => ?_) (fun h4 => ?_)
  · refine vv_aload_n C dX4_restore_10 rfl 0 rfl ?_
    refine vv_gR C (a := 0) (k := 1) (b := 3) inlX4 rfl rfl rfl rfl (by decide) rfl (tm_1 (List.mem_of_getElem? (i := 20) rfl)) dX4_restore_11 ?_
    refine vv_aload_n C dX4_restore_14 rfl 0 rfl ?_
    refine vv_getI C (a := 0) (k := 6) (o := 0) inlX4 rfl rfl rfl (by decide) rfl (tm_29 (List.mem_of_getElem? (i := 4) rfl)) dX4_restore_15 ?_
    refine vv_putIN C (a := 3) (k := 0) inlX1 tyX1 tyX1_ok nmX1 rfl rfl rfl (by decide) rfl rfl rfl (List.mem_of_getElem? (i := 5) rfl) dX4_restore_18 ?_
    refine vv_aload_n C dX4_restore_21 rfl 0 rfl ?_
    refine vv_gR C (a := 0) (k := 2) (b := 11) inlX4 rfl rfl rfl rfl (by decide) rfl (tm_2 (List.mem_of_getElem? (i := 0) rfl)) dX4_restore_22 ?_
    refine vv_aload_n C dX4_restore_25 rfl 0 rfl ?_
    refine vv_gR C (a := 0) (k := 7) (b := 26) inlX4 rfl rfl rfl rfl (by decide) rfl (tm_2 (List.mem_of_getElem? (i := 6) rfl)) dX4_restore_26 ?_
    refine vv_cVN_v C (a := 11) (kk_X0_copyFrom l g _ 11 (show (11 : Nat) = 11 ∨ (11 : Nat) = 20 ∨ (11 : Nat) = 26 from Or.inl rfl) 26 (show (26 : Nat) = 11 ∨ (26 : Nat) = 20 ∨ (26 : Nat) = 26 from Or.inr (Or.inr rfl)) (by decide) (by simp only [vx_u_ne _ _ _ (show (26 : Nat) ≠ 3 by decide)]; exact hb6) (by simp only [vx_u_ne _ _ _ (show (26 : Nat) ≠ 3 by decide)]; exact hb7)) yk_X0_copyFrom (List.mem_of_getElem? (i := 57) rfl) rfl rfl rfl (by decide) rfl (Nat.le_of_ble_eq_true rfl) rfl dX4_restore_29 (fun S29 h29 => ?_)
    obtain ⟨c1, c2, c3, c4⟩ := h29
    refine vv_aload_n C dX4_restore_32 rfl 0 rfl ?_
    refine vv_gR C (a := 0) (k := 3) (b := 17) inlX4 rfl rfl rfl rfl (by decide) rfl (tm_2 (List.mem_of_getElem? (i := 4) rfl)) dX4_restore_33 ?_
    refine vv_aload_n C dX4_restore_36 rfl 0 rfl ?_
    refine vv_gR C (a := 0) (k := 8) (b := 32) inlX4 rfl rfl rfl rfl (by decide) rfl (tm_2 (List.mem_of_getElem? (i := 7) rfl)) dX4_restore_37 ?_
    refine vv_cVN_v C (a := 17) (kk_X3_copyFrom l g _ 17 (show (17 : Nat) = 17 ∨ (17 : Nat) = 32 from Or.inl rfl) 32 (show (32 : Nat) = 17 ∨ (32 : Nat) = 32 from Or.inr rfl) (by decide)) yk_X3_copyFrom (List.mem_of_getElem? (i := 66) rfl) rfl rfl rfl (by decide) rfl (Nat.le_of_ble_eq_true rfl) rfl dX4_restore_40 (fun S40 h40 => ?_)
    obtain ⟨e1, e2, e3, e4⟩ := h40
    refine vv_aload_n C dX4_restore_43 rfl 0 rfl ?_
    refine vv_gR C (a := 0) (k := 2) (b := 11) inlX4 rfl rfl rfl rfl (by decide) rfl (tm_2 (List.mem_of_getElem? (i := 0) rfl)) dX4_restore_44 ?_
    refine vv_getIN C (a := 11) (k := 1) (o := 0) inlX0 rfl rfl rfl (by decide) rfl (List.mem_of_getElem? (i := 18) rfl) dX4_restore_47 ?_
    refine vv_jret C dX4_restore_50 ?_
    have w : ∀ c, c ≠ 3 → (vx_u S 3 0 (S.1 0 6)).1 c = S.1 c := fun c h => vx_u_ne _ _ _ h
    refine ⟨?_, fun q => absurd q h4, fun _ => ⟨?_, ?_, ?_, ?_, ?_, ?_, ?_, ?_⟩⟩
    · rw [if_neg h4, e1.2 11 (by decide), c2 1 (by decide), w 26 (by decide)]
    · exact pu_chg_tr (pu_chg_tr (pu_chg_u (pu_chg_rf S _) _ _ (by simp)) c1 (by simp)) e1 (by simp)
    · rw [e1.2 3 (by decide), c1.2 3 (by decide), vx_u_row]
    · intro k hk; rw [e1.2 11 (by decide), c2 k hk, w 26 (by decide)]
    · intro k hk; rw [e1.2 12 (by decide), c3 k hk, w 27 (by decide)]
    · intro k hk; rw [e1.2 13 (by decide), c4 k hk, w 28 (by decide)]
    · rw [e2, c1.2 32 (by decide), w 32 (by decide)]
    · intro k hk; rw [e3 k hk, c1.2 33 (by decide), w 33 (by decide)]
    · intro k hk; rw [e4 k hk, c1.2 34 (by decide), w 34 (by decide)]
  · refine vv_bipush (v := (-103)) C dX4_restore_7 (by decide) ?_
    refine vv_jret C dX4_restore_9 ?_
    exact ⟨by rw [if_pos h4], fun _ => rfl, fun q => absurd h4 q⟩
theorem yk_X4_as : vx_yV yX4_as cX4_as 3 (some .int) 2 := ⟨(tm_13 (List.mem_of_getElem? (i := 9) rfl)), (tm_1 (List.mem_of_getElem? (i := 2) rfl)), by decide +kernel, (tm_13 (List.mem_of_getElem? (i := 7) rfl)), (tm_13 (List.mem_of_getElem? (i := 8) rfl))⟩
set_option maxHeartbeats 4000000 in
set_option maxRecDepth 100000 in
theorem kk_X4_as (l : Launch) (g : vx_G) (S : vx_St) (h k : Int32) (n : Nat) (hn : S.1 3 0 = nI n) (hn8 : n ≤ 8) : vx_M l g yX4_as cX4_as 3 (some .int) (vx_R 2 40) [.ref (g.2.2.1 0), .int h, .int k] S (vx_pf (aw_as (S.1 3 0) (S.1 4) h k) S) := by
  refine vx_M.intro (by decide) (Nat.le_of_ble_eq_true rfl) ?_
  intro p e s m args below meth c C
  refine vv_aload_n C dX4_as_0 rfl 0 rfl ?_
  refine vv_gR C (a := 0) (k := 1) (b := 3) inlX4 rfl rfl rfl rfl (by decide) rfl (tm_1 (List.mem_of_getElem? (i := 20) rfl)) dX4_as_1 ?_
  refine vv_iload_n C dX4_as_4 rfl 1 rfl ?_
  refine vv_cVN_F C (a := 3) (kk_X1_has l g _ _) yk_X1_has (List.mem_of_getElem? (i := 40) rfl) rfl rfl rfl (by decide) rfl (Nat.le_of_ble_eq_true rfl) rfl dX4_as_5 ?_
  refine vv_ifb_ne (tgt := 14) C dX4_as_8 (by decide) (fun h8 => ?_) (fun h8 => ?_)
  · have hq := h8
    obtain ⟨q, hk, rfl⟩ := pu_hq_k hn (by omega) h8
    refine vv_iload_n C dX4_as_14 rfl 2 rfl ?_
    refine vv_if_lt (tgt := 27) C dX4_as_15 (by decide) (fun h15 => ?_) (fun h15 => ?_)
    · have g15 := pu_lt h15
      refine vv_bipush (v := (-102)) C dX4_as_27 (by decide) ?_
      refine vv_fret C dX4_as_29 ?_
      rw [aw_as, if_neg (show ¬ pu_hq (nI q) (S.1 3 0) = false by rw [show pu_hq (nI q) (S.1 3 0) = true from hq]; decide), if_neg (fun z => g15 z.1)]
    · have g15 := pu_nlt h15
      refine vv_iload_n C dX4_as_18 rfl 2 rfl ?_
      refine vv_ldcS4 C dX4_as_19 ?_
      refine vv_cJ C (kk_J0_length_8abf5 l g _) yk_J0_length_8abf5 (tm_13 (List.mem_of_getElem? (i := 10) rfl)) rfl (by decide) rfl (Nat.le_of_ble_eq_true rfl) rfl dX4_as_21 ?_
      refine vv_icmp_lt (tgt := 30) C dX4_as_24 (by decide) (fun h24 => ?_) (fun h24 => ?_)
      · have g24 := pu_lt h24
        refine vv_aload_n C dX4_as_30 rfl 0 rfl ?_
        refine vv_gR C (a := 0) (k := 1) (b := 3) inlX4 rfl rfl rfl rfl (by decide) rfl (tm_1 (List.mem_of_getElem? (i := 20) rfl)) dX4_as_31 ?_
        refine vv_iload_n C dX4_as_34 rfl 1 rfl ?_
        refine vv_iload_n C dX4_as_35 rfl 2 rfl ?_
        refine vv_cVN_F C (a := 3) (kk_X1_isA l g _ q (by omega) _) yk_X1_isA (List.mem_of_getElem? (i := 41) rfl) rfl rfl rfl (by decide) rfl (Nat.le_of_ble_eq_true rfl) rfl dX4_as_36 ?_
        refine vv_ifb_eq (tgt := 46) C dX4_as_39 (by decide) (fun h39 => ?_) (fun h39 => ?_)
        · refine vv_iconst (v := (-1)) C dX4_as_46 (by decide) ?_
          refine vv_fret C dX4_as_47 ?_
          rw [aw_as, if_neg (show ¬ pu_hq (nI q) (S.1 3 0) = false by rw [show pu_hq (nI q) (S.1 3 0) = true from hq]; decide), if_pos ⟨g15, h24⟩, nI_clamp (by omega), if_neg (by rw [h39]; decide)]
        · refine vv_iload_n C dX4_as_42 rfl 1 rfl ?_
          refine vv_goto (tgt := 47) C dX4_as_43 (by decide) ?_
          refine vv_fret C dX4_as_47 ?_
          rw [aw_as, if_neg (show ¬ pu_hq (nI q) (S.1 3 0) = false by rw [show pu_hq (nI q) (S.1 3 0) = true from hq]; decide), if_pos ⟨g15, h24⟩, nI_clamp (by omega), if_pos h39]
      · have g24 := pu_nlt h24
        refine vv_bipush (v := (-102)) C dX4_as_27 (by decide) ?_
        refine vv_fret C dX4_as_29 ?_
        rw [aw_as, if_neg (show ¬ pu_hq (nI q) (S.1 3 0) = false by rw [show pu_hq (nI q) (S.1 3 0) = true from hq]; decide), if_neg (fun z => h24 z.2)]
  · refine vv_bipush (v := (-101)) C dX4_as_11 (by decide) ?_
    refine vv_fret C dX4_as_13 ?_
    simp [aw_as, pu_hq, h8]
theorem yk_X4_digestOfHouses : vx_yV yX4_digestOfHouses cX4_digestOfHouses 7 (some .long) 1 := ⟨(tm_31 (List.mem_of_getElem? (i := 5) rfl)), (tm_1 (List.mem_of_getElem? (i := 2) rfl)), by decide +kernel, (tm_31 (List.mem_of_getElem? (i := 3) rfl)), (tm_31 (List.mem_of_getElem? (i := 4) rfl))⟩
set_option maxHeartbeats 4000000 in
set_option maxRecDepth 100000 in
theorem kk_X4_digestOfHouses (l : Launch) (g : vx_G) (S : vx_St) (h0 : Int64) (n : Nat) (hn : S.1 3 0 = nI n) (hn8 : n ≤ 8) (mr : Nat) (hm : S.1 17 0 = nI mr) (hm8 : mr ≤ 8) : vx_M l g yX4_digestOfHouses cX4_digestOfHouses 7 (some .long) (vx_R 4 88) [.ref (g.2.2.1 0), .long h0] S (vx_pl (fun r S' => r = dg_H (fun i w => aw_about (S.1 3 0) (pu_hs S) (S.1 12) (S.1 13) (S.1 11 5) (nI i) (nI w)) (fun i => aw_want (S.1 3 0) (pu_hs S) (S.1 11 2) (S.1 11 5) (S.1 11 4) (nI i)) (fun i => pu_pts (S.1 11 0 - S.1 11 1) (S.1 11 8) (S.1 12) pu_z pu_z n i) (fun i => pu_leak (S.1 18) (S.1 19) (nI i) mr 9) h0 n ∧ pu_chg S S' [15, 16])) := by
  refine vx_M.intro (by decide) (Nat.le_of_ble_eq_true rfl) ?_
  intro p e s m args below meth c C
  have lp5 : ∀ (fu : Nat) (i : Nat) (S1 : vx_St), (n - i < fu ∧ i ≤ n ∧ pu_chg S S1 [15, 16]) → vx_V p l e (vx_R 4 88) s m args below meth c (MQ below (vx_Q g (vx_pl (fun r S' => r = dg_H (fun i w => aw_about (S.1 3 0) (pu_hs S) (S.1 12) (S.1 13) (S.1 11 5) (nI i) (nI w)) (fun i => aw_want (S.1 3 0) (pu_hs S) (S.1 11 2) (S.1 11 5) (S.1 11 4) (nI i)) (fun i => pu_pts (S.1 11 0 - S.1 11 1) (S.1 11 8) (S.1 12) pu_z pu_z n i) (fun i => pu_leak (S.1 18) (S.1 19) (nI i) mr 9) h0 n ∧ pu_chg S S' [15, 16]))) args s 0 0 (vx_A g)) g 7 5 [(0, .ref (g.2.2.1 0)), (3, .long (dg_H (fun i w => aw_about (S.1 3 0) (pu_hs S) (S.1 12) (S.1 13) (S.1 11 5) (nI i) (nI w)) (fun i => aw_want (S.1 3 0) (pu_hs S) (S.1 11 2) (S.1 11 5) (S.1 11 4) (nI i)) (fun i => pu_pts (S.1 11 0 - S.1 11 1) (S.1 11 8) (S.1 12) pu_z pu_z n i) (fun i => pu_leak (S.1 18) (S.1 19) (nI i) mr 9) h0 i)), (5, .int (nI i))] [] (S1) := by
    intro fu
    induction fu with
    | zero =>
      intro i S1 hfu
      exact absurd hfu.1 (by omega)
    | succ fu ih =>
      intro i S1 hfu
      obtain ⟨hf1, hf2, hc⟩ := hfu
      have hn1 : S1.1 3 0 = nI n := by rw [hc.2 3 (by decide)]; exact hn
      have hm1 : S1.1 17 0 = nI mr := by rw [hc.2 17 (by decide)]; exact hm
      have lp20 : ∀ (fu : Nat) (w : Nat), (9 - w < fu ∧ w ≤ 9 ∧ i < n) → vx_V p l e (vx_R 4 88) s m args below meth c (MQ below (vx_Q g (vx_pl (fun r S' => r = dg_H (fun i w => aw_about (S.1 3 0) (pu_hs S) (S.1 12) (S.1 13) (S.1 11 5) (nI i) (nI w)) (fun i => aw_want (S.1 3 0) (pu_hs S) (S.1 11 2) (S.1 11 5) (S.1 11 4) (nI i)) (fun i => pu_pts (S.1 11 0 - S.1 11 1) (S.1 11 8) (S.1 12) pu_z pu_z n i) (fun i => pu_leak (S.1 18) (S.1 19) (nI i) mr 9) h0 n ∧ pu_chg S S' [15, 16]))) args s 0 0 (vx_A g)) g 7 20 [(0, .ref (g.2.2.1 0)), (3, .long (dg_l ((fun i w => aw_about (S.1 3 0) (pu_hs S) (S.1 12) (S.1 13) (S.1 11 5) (nI i) (nI w)) i) (dg_H (fun i w => aw_about (S.1 3 0) (pu_hs S) (S.1 12) (S.1 13) (S.1 11 5) (nI i) (nI w)) (fun i => aw_want (S.1 3 0) (pu_hs S) (S.1 11 2) (S.1 11 5) (S.1 11 4) (nI i)) (fun i => pu_pts (S.1 11 0 - S.1 11 1) (S.1 11 8) (S.1 12) pu_z pu_z n i) (fun i => pu_leak (S.1 18) (S.1 19) (nI i) mr 9) h0 i) w)), (5, .int (nI i)), (6, .int (nI w))] [] (S1) := by
        intro fv
        induction fv with
        | zero =>
          intro w hfu
          exact absurd hfu.1 (by omega)
        | succ fv ih2 =>
          intro w hfu
          obtain ⟨hw1, hw2, hlt⟩ := hfu
          refine vv_iload C dX4_digestOfHouses_20 3 rfl ?_
          refine vv_bipush (v := (nI 8)) C dX4_digestOfHouses_22 (by decide) ?_
          refine vv_icmp_gt (tgt := 49) C dX4_digestOfHouses_24 (by decide) (fun h24 => ?_) (fun h24 => ?_)
          · have hgt := pu_gtT rfl (by omega) (by omega) h24
            obtain rfl : 9 = w := by omega
            refine vv_ldc2 C (tm_31 (List.mem_of_getElem? (i := 1) rfl)) dX4_digestOfHouses_49 ?_
            refine vv_lload_n C dX4_digestOfHouses_52 rfl 1 rfl ?_
            refine vv_lmul C dX4_digestOfHouses_53 ?_
            refine vv_aload_n C dX4_digestOfHouses_54 rfl 0 rfl ?_
            refine vv_iload C dX4_digestOfHouses_55 2 rfl ?_
            refine vv_cV_F C (a := 0) (kk_X4_wants l g _ _ n hn1 hn8) yk_X4_wants (tm_31 (List.mem_of_getElem? (i := 7) rfl)) rfl rfl rfl (by decide) rfl (Nat.le_of_ble_eq_true rfl) rfl dX4_digestOfHouses_57 ?_
            rw [(pu_hs_c (fun c h1 h2 => hc.2 c (by simp only [List.mem_cons, List.not_mem_nil, or_false, not_or]; omega))), hc.2 3 (by decide), hc.2 11 (by decide)]
            refine vv_i2l C dX4_digestOfHouses_60 ?_
            refine vv_ladd C dX4_digestOfHouses_61 ?_
            refine vv_lstore_n (i := 3) (L' := [_, _, _, _]) C dX4_digestOfHouses_62 rfl (by decide) rfl ?_
            refine vv_ldc2 C (tm_31 (List.mem_of_getElem? (i := 1) rfl)) dX4_digestOfHouses_63 ?_
            refine vv_lload_n C dX4_digestOfHouses_66 rfl 0 rfl ?_
            refine vv_lmul C dX4_digestOfHouses_67 ?_
            refine vv_aload_n C dX4_digestOfHouses_68 rfl 1 rfl ?_
            refine vv_iload C dX4_digestOfHouses_69 2 rfl ?_
            refine vv_cV_i C (a := 0) (kk_X4_part l g _ _ n hn1 hn8) yk_X4_part (tm_31 (List.mem_of_getElem? (i := 8) rfl)) rfl rfl rfl (by decide) rfl (Nat.le_of_ble_eq_true rfl) rfl dX4_digestOfHouses_71 (fun r71 S71 h71 => ?_)
            obtain ⟨e71, c71⟩ := h71
            rw [hc.2 3 (by decide), hc.2 11 (by decide), hc.2 12 (by decide), if_pos (show pu_hq (nI i) (S.1 3 0) = true by simp only [pu_hq, hn]; rw [decide_eq_true (nI_pos' (by omega)), decide_eq_true ((nI_ltI (by omega) (by omega)).mpr hlt)]; rfl), nI_clamp (by omega), pu_pts_c (po' := pu_z) (ro' := pu_z) hlt] at e71
            subst e71
            refine vv_i2l C dX4_digestOfHouses_74 ?_
            refine vv_ladd C dX4_digestOfHouses_75 ?_
            refine vv_lstore_n (i := 3) (L' := [_, _, _, _]) C dX4_digestOfHouses_76 rfl (by decide) rfl ?_
            refine vv_ldc2 C (tm_31 (List.mem_of_getElem? (i := 1) rfl)) dX4_digestOfHouses_77 ?_
            refine vv_lload_n C dX4_digestOfHouses_80 rfl 0 rfl ?_
            refine vv_lmul C dX4_digestOfHouses_81 ?_
            refine vv_aload_n C dX4_digestOfHouses_82 rfl 1 rfl ?_
            refine vv_iload C dX4_digestOfHouses_83 2 rfl ?_
            refine vv_cV_F C (a := 0) (kk_X4_leak l g _ _ mr (by rw [c71.2 17 (by decide)]; exact hm1) hm8) yk_X4_leak (tm_31 (List.mem_of_getElem? (i := 9) rfl)) rfl rfl rfl (by decide) rfl (Nat.le_of_ble_eq_true rfl) rfl dX4_digestOfHouses_85 ?_
            rw [c71.2 3 (by decide), hc.2 3 (by decide), c71.2 18 (by decide), hc.2 18 (by decide), c71.2 19 (by decide), hc.2 19 (by decide), if_pos (show pu_hq (nI i) (S.1 3 0) = true by simp only [pu_hq, hn]; rw [decide_eq_true (nI_pos' (by omega)), decide_eq_true ((nI_ltI (by omega) (by omega)).mpr hlt)]; rfl)]
            refine vv_i2l C dX4_digestOfHouses_88 ?_
            refine vv_ladd C dX4_digestOfHouses_89 ?_
            refine vv_lstore_n (i := 3) (L' := [_, _, _, _]) C dX4_digestOfHouses_90 rfl (by decide) rfl ?_
            refine vv_iincN (L' := [_, _, _, _]) (j := 2) C dX4_digestOfHouses_91 rfl (by decide) rfl ?_
            refine vv_goto (tgt := 5) C dX4_digestOfHouses_94 (by decide) ?_
            refine vv_sub (L' := [_, _, _]) [2, 1, 0] rfl ?_
            exact ih (i + 1) S71 ⟨by omega, by omega, pu_chg_tr hc c71 (by simp)⟩
          · have hle := pu_gtF rfl (by omega) (by omega) h24
            refine vv_ldc2 C (tm_31 (List.mem_of_getElem? (i := 1) rfl)) dX4_digestOfHouses_27 ?_
            refine vv_lload_n C dX4_digestOfHouses_30 rfl 1 rfl ?_
            refine vv_lmul C dX4_digestOfHouses_31 ?_
            refine vv_aload_n C dX4_digestOfHouses_32 rfl 0 rfl ?_
            refine vv_iload C dX4_digestOfHouses_33 2 rfl ?_
            refine vv_iload C dX4_digestOfHouses_35 3 rfl ?_
            refine vv_cV_F C (a := 0) (kk_X4_about l g _ _ _ n hn1 hn8) yk_X4_about (tm_31 (List.mem_of_getElem? (i := 6) rfl)) rfl rfl rfl (by decide) rfl (Nat.le_of_ble_eq_true rfl) rfl dX4_digestOfHouses_37 ?_
            rw [(pu_hs_c (fun c h1 h2 => hc.2 c (by simp only [List.mem_cons, List.not_mem_nil, or_false, not_or]; omega))), hc.2 3 (by decide), hc.2 11 (by decide), hc.2 12 (by decide), hc.2 13 (by decide)]
            refine vv_i2l C dX4_digestOfHouses_40 ?_
            refine vv_ladd C dX4_digestOfHouses_41 ?_
            refine vv_lstore_n (i := 3) (L' := [_, _, _, _]) C dX4_digestOfHouses_42 rfl (by decide) rfl ?_
            refine vv_iincN (L' := [_, _, _, _]) (j := 3) C dX4_digestOfHouses_43 rfl (by decide) rfl ?_
            refine vv_goto (tgt := 20) C dX4_digestOfHouses_46 (by decide) ?_
            refine vv_sub (L' := [_, _, _, _]) [2, 1, 3, 0] rfl ?_
            exact ih2 (w + 1) ⟨by omega, by omega, hlt⟩
      refine vv_iload C dX4_digestOfHouses_5 2 rfl ?_
      refine vv_aload_n C dX4_digestOfHouses_7 rfl 0 rfl ?_
      refine vv_gR C (a := 0) (k := 1) (b := 3) inlX4 rfl rfl rfl rfl (by decide) rfl (tm_1 (List.mem_of_getElem? (i := 20) rfl)) dX4_digestOfHouses_8 ?_
      refine vv_getIN C (a := 3) (k := 0) (o := 0) inlX1 rfl rfl rfl (by decide) rfl (List.mem_of_getElem? (i := 5) rfl) dX4_digestOfHouses_11 ?_
      refine vv_icmp_ge (tgt := 97) C dX4_digestOfHouses_14 (by decide) (fun h14 => ?_) (fun h14 => ?_)
      · have hge := pu_geT hn1 (by omega) (by omega) h14
        obtain rfl : n = i := by omega
        refine vv_lload_n C dX4_digestOfHouses_97 rfl 1 rfl ?_
        refine vv_llret C dX4_digestOfHouses_98 ?_
        exact ⟨rfl, hc⟩
      · have hlt := pu_geF hn1 (by omega) (by omega) h14
        refine vv_iconst (v := (nI 0)) C dX4_digestOfHouses_17 (by decide) ?_
        refine vv_istore (L' := [_, _, _, _]) C dX4_digestOfHouses_18 (by decide) rfl ?_
        refine vv_sub (L' := [_, _, _, _]) [1, 2, 3, 0] rfl ?_
        exact lp20 10 0 ⟨by omega, by omega, hlt⟩
  refine vv_lload_n C dX4_digestOfHouses_0 rfl 1 rfl ?_
  refine vv_lstore_n (i := 3) (L' := [_, _, _]) C dX4_digestOfHouses_1 rfl (by decide) rfl ?_
  refine vv_iconst (v := (nI 0)) C dX4_digestOfHouses_2 (by decide) ?_
  refine vv_istore (L' := [_, _, _, _]) C dX4_digestOfHouses_3 (by decide) rfl ?_
  refine vv_sub (L' := [_, _, _]) [2, 1, 0] rfl ?_
  exact lp5 (n + 1) 0 S ⟨by omega, by omega, pu_chg_rf S _⟩
