theorem pm_TAc {S S1 : vx_St} {n : Nat} (hc : pm_same S S1) (hh : Nat) (mo br : Int32) : pm_TA (pu_hm S1) (S1.1 35 16) n hh (S1.1 35 11 + mo) (S1.1 35 14) (S1.1 35 15) (pm_sm (S1.1 42) n) br = pm_TA (pu_hm S) (S.1 35 16) n hh (S.1 35 11 + mo) (S.1 35 14) (S.1 35 15) (pm_sm (S.1 42) n) br := by
  rw [pm_same_hm hc, hc.2 16 (by omega), hc.2 11 (by omega), hc.2 14 (by omega), hc.2 15 (by omega), hc.1 42 (by decide)]
theorem yk_X5_planNow : vx_yV yX5_planNow cX5_planNow 7 (some .int) 1 := ⟨(tm_22 (List.mem_of_getElem? (i := 13) rfl)), (tm_1 (List.mem_of_getElem? (i := 5) rfl)), by decide +kernel, (tm_22 (List.mem_of_getElem? (i := 11) rfl)), (tm_22 (List.mem_of_getElem? (i := 12) rfl))⟩
set_option maxHeartbeats 4000000 in
set_option maxRecDepth 100000 in
theorem kk_X5_planNow (l : Launch) (g : vx_G) (S : vx_St) (w : Int32) (n : Nat) (hn : S.1 35 0 = nI n) (hn8 : n ≤ 8) (hb15 : vx_b01 (S.1 35 15) = S.1 35 15) (hb16 : vx_b01 (S.1 35 16) = S.1 35 16) (hh : Nat) (hhr : S.1 35 12 = nI hh) (hh9 : hh ≤ 9) : vx_M l g yX5_planNow cX5_planNow 7 (some .int) (vx_R 7 163) [.ref (g.2.2.1 35), .int w] S (vx_pi (fun r S' => r = (if w = 0 then (pm_best (fun t => pm_TA (pu_hm S) (S.1 35 16) n hh (S.1 35 11 + 0) (S.1 35 14) (S.1 35 15) (pm_sm (S.1 42) n) t) (2 ^ n - 1)).2 else (pm_best (fun t => pm_TA (pu_hm S) (S.1 35 16) n hh (S.1 35 11 + 0) (S.1 35 14) (S.1 35 15) (pm_sm (S.1 42) n) t) (2 ^ n - 1)).1) ∧ pm_same S S' ∧ S'.2 = S.2)) := by
  refine vx_M.intro (by decide) (Nat.le_of_ble_eq_true rfl) ?_
  intro p e s m args below meth c C
  have lp12 : ∀ (fu : Nat) (i : Nat) (S1 : vx_St), (2 ^ n - 1 - i < fu ∧ i ≤ 2 ^ n - 1 ∧ pm_same S S1 ∧ S1.2 = S.2) → vx_V p l e (vx_R 7 163) s m args below meth c (MQ below (vx_Q g (vx_pi (fun r S' => r = (if w = 0 then (pm_best (fun t => pm_TA (pu_hm S) (S.1 35 16) n hh (S.1 35 11 + 0) (S.1 35 14) (S.1 35 15) (pm_sm (S.1 42) n) t) (2 ^ n - 1)).2 else (pm_best (fun t => pm_TA (pu_hm S) (S.1 35 16) n hh (S.1 35 11 + 0) (S.1 35 14) (S.1 35 15) (pm_sm (S.1 42) n) t) (2 ^ n - 1)).1) ∧ pm_same S S' ∧ S'.2 = S.2))) args s 0 0 (vx_A g)) g 7 12 [(0, .ref (g.2.2.1 35)), (1, .int w), (2, .int (pm_best (fun t => pm_TA (pu_hm S) (S.1 35 16) n hh (S.1 35 11 + 0) (S.1 35 14) (S.1 35 15) (pm_sm (S.1 42) n) t) i).1), (3, .int (pm_best (fun t => pm_TA (pu_hm S) (S.1 35 16) n hh (S.1 35 11 + 0) (S.1 35 14) (S.1 35 15) (pm_sm (S.1 42) n) t) i).2), (4, .int (nI (i + 1)))] [] (S1) := by
    intro fu
    induction fu with
    | zero =>
      intro i S1 hfu
      exact absurd hfu.1 (by omega)
    | succ fu ih =>
      intro i S1 hfu
      obtain ⟨hf1, hf2, hc, hl⟩ := hfu
      have h2n := pu_2n n hn8
      refine vv_iload C dX5_planNow_12 4 rfl ?_
      refine vv_aload_n C dX5_planNow_14 rfl 0 rfl ?_
      refine vv_cV_F C (a := 35) (kk_X5_everybody l g _) yk_X5_everybody (tm_16 (List.mem_of_getElem? (i := 23) rfl)) rfl rfl rfl (by decide) rfl (Nat.le_of_ble_eq_true rfl) rfl dX5_planNow_15 ?_
      rw [hc.2 0 (by omega), hn, pu_all_nI n hn8]
      refine vv_icmp_gt (tgt := 91) C dX5_planNow_18 (by decide) (fun h18 => ?_) (fun h18 => ?_)
      · have g18 := pu_lt h18
        have hgt := pu_gtT rfl (by omega) (by omega) h18
        refine vv_iload_n C dX5_planNow_91 rfl 1 rfl ?_
        refine vv_if_ne (tgt := 99) C dX5_planNow_92 (by decide) (fun h92 => ?_) (fun h92 => ?_)
        · refine vv_iload_n C dX5_planNow_99 rfl 2 rfl ?_
          refine vv_jret C dX5_planNow_100 ?_
          rw [show 2 ^ n - 1 = i by omega]
          exact ⟨by rw [if_neg h92], hc, hl⟩
        · refine vv_iload_n C dX5_planNow_95 rfl 3 rfl ?_
          refine vv_goto (tgt := 100) C dX5_planNow_96 (by decide) ?_
          refine vv_jret C dX5_planNow_100 ?_
          rw [show 2 ^ n - 1 = i by omega]
          exact ⟨by rw [if_pos h92], hc, hl⟩
      · have g18 := pu_nlt h18
        have hle := pu_gtF rfl (by omega) (by omega) h18
        refine vv_aload_n C dX5_planNow_21 rfl 0 rfl ?_
        refine vv_iload C dX5_planNow_22 4 rfl ?_
        refine vv_iconst (v := (0)) C dX5_planNow_24 (by decide) ?_
        refine vv_cV_i C (a := 35) (kk_X5_takenOn l g _ _ _ n (by rw [hc.2 0 (by omega)]; exact hn) hn8 (by rw [hc.2 15 (by omega)]; exact hb15) (by rw [hc.2 16 (by omega)]; exact hb16) hh (by rw [hc.2 12 (by omega)]; exact hhr) hh9) yk_X5_takenOn (tm_22 (List.mem_of_getElem? (i := 14) rfl)) rfl rfl rfl (by decide) rfl (Nat.le_of_ble_eq_true rfl) rfl dX5_planNow_25 (fun r25 S25 h25 => ?_)
        obtain ⟨e25, c25, l25⟩ := h25
        rw [pm_TAc hc] at e25
        subst e25
        have hc2 := pm_same_tr hc c25
        refine vv_istore (L' := [_, _, _, _, _, _]) C dX5_planNow_28 (by decide) rfl ?_
        refine vv_iload C dX5_planNow_30 0 rfl ?_
        refine vv_iload_n C dX5_planNow_32 rfl 4 rfl ?_
        refine vv_icmp_gt (tgt := 54) C dX5_planNow_33 (by decide) (fun h33 => ?_) (fun h33 => ?_)
        · have g33 := pu_lt h33
          refine vv_iconst (v := (1)) C dX5_planNow_54 (by decide) ?_
          refine vv_goto (tgt := 59) C dX5_planNow_55 (by decide) ?_
          refine vv_istore (L' := [_, _, _, _, _, _, _]) C dX5_planNow_59 (by decide) rfl ?_
          refine vv_iload C dX5_planNow_61 0 rfl ?_
          refine vv_if_eq (tgt := 71) C dX5_planNow_63 (by decide) (fun h63 => ?_) (fun h63 => ?_)
          · exact absurd h63 (by decide)
          · refine vv_iload C dX5_planNow_66 6 rfl ?_
            refine vv_goto (tgt := 72) C dX5_planNow_68 (by decide) ?_
            refine vv_istore_n (i := 2) (L' := [_, _, _, _, _, _, _]) C dX5_planNow_72 rfl (by decide) rfl ?_
            refine vv_iload C dX5_planNow_73 1 rfl ?_
            refine vv_if_eq (tgt := 83) C dX5_planNow_75 (by decide) (fun h75 => ?_) (fun h75 => ?_)
            · exact absurd h75 (by decide)
            · refine vv_iload C dX5_planNow_78 2 rfl ?_
              refine vv_goto (tgt := 84) C dX5_planNow_80 (by decide) ?_
              refine vv_istore_n (i := 3) (L' := [_, _, _, _, _, _, _]) C dX5_planNow_84 rfl (by decide) rfl ?_
              refine vv_iincN (L' := [_, _, _, _, _, _, _]) (j := 6) C dX5_planNow_85 rfl (by decide) rfl ?_
              refine vv_goto (tgt := 12) C dX5_planNow_88 (by decide) ?_
              refine vv_sub (L' := [_, _, _, _, _]) [5, 6, 2, 1, 0] rfl ?_
              have hb9 : pm_btr (fun t => pm_TA (pu_hm S) (S.1 35 16) n hh (S.1 35 11 + 0) (S.1 35 14) (S.1 35 15) (pm_sm (S.1 42) n) t) (pm_best (fun t => pm_TA (pu_hm S) (S.1 35 16) n hh (S.1 35 11 + 0) (S.1 35 14) (S.1 35 15) (pm_sm (S.1 42) n) t) i).1 (pm_best (fun t => pm_TA (pu_hm S) (S.1 35 16) n hh (S.1 35 11 + 0) (S.1 35 14) (S.1 35 15) (pm_sm (S.1 42) n) t) i).2 (i + 1) = true := by rw [pm_btr, decide_eq_true h33]; rfl
              have q := ih (i + 1) S25 ⟨by omega, by omega, hc2, l25.trans hl⟩
              rw [pm_best, if_pos hb9] at q
              exact q
        · have g33 := pu_nlt h33
          refine vv_iload C dX5_planNow_36 0 rfl ?_
          refine vv_iload_n C dX5_planNow_38 rfl 4 rfl ?_
          refine vv_icmp_ne (tgt := 58) C dX5_planNow_39 (by decide) (fun h39 => ?_) (fun h39 => ?_)
          · refine vv_iconst (v := (0)) C dX5_planNow_58 (by decide) ?_
            refine vv_istore (L' := [_, _, _, _, _, _, _]) C dX5_planNow_59 (by decide) rfl ?_
            refine vv_iload C dX5_planNow_61 0 rfl ?_
            refine vv_if_eq (tgt := 71) C dX5_planNow_63 (by decide) (fun h63 => ?_) (fun h63 => ?_)
            · refine vv_iload_n C dX5_planNow_71 rfl 4 rfl ?_
              refine vv_istore_n (i := 2) (L' := [_, _, _, _, _, _, _]) C dX5_planNow_72 rfl (by decide) rfl ?_
              refine vv_iload C dX5_planNow_73 1 rfl ?_
              refine vv_if_eq (tgt := 83) C dX5_planNow_75 (by decide) (fun h75 => ?_) (fun h75 => ?_)
              · refine vv_iload_n C dX5_planNow_83 rfl 5 rfl ?_
                refine vv_istore_n (i := 3) (L' := [_, _, _, _, _, _, _]) C dX5_planNow_84 rfl (by decide) rfl ?_
                refine vv_iincN (L' := [_, _, _, _, _, _, _]) (j := 6) C dX5_planNow_85 rfl (by decide) rfl ?_
                refine vv_goto (tgt := 12) C dX5_planNow_88 (by decide) ?_
                refine vv_sub (L' := [_, _, _, _, _]) [5, 6, 2, 1, 0] rfl ?_
                have hb9 : pm_btr (fun t => pm_TA (pu_hm S) (S.1 35 16) n hh (S.1 35 11 + 0) (S.1 35 14) (S.1 35 15) (pm_sm (S.1 42) n) t) (pm_best (fun t => pm_TA (pu_hm S) (S.1 35 16) n hh (S.1 35 11 + 0) (S.1 35 14) (S.1 35 15) (pm_sm (S.1 42) n) t) i).1 (pm_best (fun t => pm_TA (pu_hm S) (S.1 35 16) n hh (S.1 35 11 + 0) (S.1 35 14) (S.1 35 15) (pm_sm (S.1 42) n) t) i).2 (i + 1) = false := by rw [pm_btr, decide_eq_false h33, decide_eq_false h39]; rfl
                have q := ih (i + 1) S25 ⟨by omega, by omega, hc2, l25.trans hl⟩
                rw [pm_best, if_neg (show ¬ pm_btr (fun t => pm_TA (pu_hm S) (S.1 35 16) n hh (S.1 35 11 + 0) (S.1 35 14) (S.1 35 15) (pm_sm (S.1 42) n) t) (pm_best (fun t => pm_TA (pu_hm S) (S.1 35 16) n hh (S.1 35 11 + 0) (S.1 35 14) (S.1 35 15) (pm_sm (S.1 42) n) t) i).1 (pm_best (fun t => pm_TA (pu_hm S) (S.1 35 16) n hh (S.1 35 11 + 0) (S.1 35 14) (S.1 35 15) (pm_sm (S.1 42) n) t) i).2 (i + 1) = true by rw [hb9]; decide)] at q
                exact q
              · exact absurd rfl h75
            · exact absurd rfl h63
          · refine vv_iload C dX5_planNow_42 5 rfl ?_
            refine vv_cS_F C (kk_X5_size l g _ _) yk_X5_size (tm_23 (List.mem_of_getElem? (i := 9) rfl)) (by decide) rfl (Nat.le_of_ble_eq_true rfl) rfl dX5_planNow_44 ?_
            refine vv_iload_n C dX5_planNow_47 rfl 3 rfl ?_
            refine vv_cS_F C (kk_X5_size l g _ _) yk_X5_size (tm_23 (List.mem_of_getElem? (i := 9) rfl)) (by decide) rfl (Nat.le_of_ble_eq_true rfl) rfl dX5_planNow_48 ?_
            refine vv_icmp_ge (tgt := 58) C dX5_planNow_51 (by decide) (fun h51 => ?_) (fun h51 => ?_)
            · have g51 := pu_le h51
              refine vv_iconst (v := (0)) C dX5_planNow_58 (by decide) ?_
              refine vv_istore (L' := [_, _, _, _, _, _, _]) C dX5_planNow_59 (by decide) rfl ?_
              refine vv_iload C dX5_planNow_61 0 rfl ?_
              refine vv_if_eq (tgt := 71) C dX5_planNow_63 (by decide) (fun h63 => ?_) (fun h63 => ?_)
              · refine vv_iload_n C dX5_planNow_71 rfl 4 rfl ?_
                refine vv_istore_n (i := 2) (L' := [_, _, _, _, _, _, _]) C dX5_planNow_72 rfl (by decide) rfl ?_
                refine vv_iload C dX5_planNow_73 1 rfl ?_
                refine vv_if_eq (tgt := 83) C dX5_planNow_75 (by decide) (fun h75 => ?_) (fun h75 => ?_)
                · refine vv_iload_n C dX5_planNow_83 rfl 5 rfl ?_
                  refine vv_istore_n (i := 3) (L' := [_, _, _, _, _, _, _]) C dX5_planNow_84 rfl (by decide) rfl ?_
                  refine vv_iincN (L' := [_, _, _, _, _, _, _]) (j := 6) C dX5_planNow_85 rfl (by decide) rfl ?_
                  refine vv_goto (tgt := 12) C dX5_planNow_88 (by decide) ?_
                  refine vv_sub (L' := [_, _, _, _, _]) [5, 6, 2, 1, 0] rfl ?_
                  have hb9 : pm_btr (fun t => pm_TA (pu_hm S) (S.1 35 16) n hh (S.1 35 11 + 0) (S.1 35 14) (S.1 35 15) (pm_sm (S.1 42) n) t) (pm_best (fun t => pm_TA (pu_hm S) (S.1 35 16) n hh (S.1 35 11 + 0) (S.1 35 14) (S.1 35 15) (pm_sm (S.1 42) n) t) i).1 (pm_best (fun t => pm_TA (pu_hm S) (S.1 35 16) n hh (S.1 35 11 + 0) (S.1 35 14) (S.1 35 15) (pm_sm (S.1 42) n) t) i).2 (i + 1) = false := by rw [pm_btr, decide_eq_false h33, decide_eq_true h39, decide_eq_false g51]; rfl
                  have q := ih (i + 1) S25 ⟨by omega, by omega, hc2, l25.trans hl⟩
                  rw [pm_best, if_neg (show ¬ pm_btr (fun t => pm_TA (pu_hm S) (S.1 35 16) n hh (S.1 35 11 + 0) (S.1 35 14) (S.1 35 15) (pm_sm (S.1 42) n) t) (pm_best (fun t => pm_TA (pu_hm S) (S.1 35 16) n hh (S.1 35 11 + 0) (S.1 35 14) (S.1 35 15) (pm_sm (S.1 42) n) t) i).1 (pm_best (fun t => pm_TA (pu_hm S) (S.1 35 16) n hh (S.1 35 11 + 0) (S.1 35 14) (S.1 35 15) (pm_sm (S.1 42) n) t) i).2 (i + 1) = true by rw [hb9]; decide)] at q
                  exact q
                · exact absurd rfl h75
              · exact absurd rfl h63
            · have g51 := pu_nle h51
              refine vv_iconst (v := (1)) C dX5_planNow_54 (by decide) ?_
              refine vv_goto (tgt := 59) C dX5_planNow_55 (by decide) ?_
              refine vv_istore (L' := [_, _, _, _, _, _, _]) C dX5_planNow_59 (by decide) rfl ?_
              refine vv_iload C dX5_planNow_61 0 rfl ?_
              refine vv_if_eq (tgt := 71) C dX5_planNow_63 (by decide) (fun h63 => ?_) (fun h63 => ?_)
              · exact absurd h63 (by decide)
              · refine vv_iload C dX5_planNow_66 6 rfl ?_
                refine vv_goto (tgt := 72) C dX5_planNow_68 (by decide) ?_
                refine vv_istore_n (i := 2) (L' := [_, _, _, _, _, _, _]) C dX5_planNow_72 rfl (by decide) rfl ?_
                refine vv_iload C dX5_planNow_73 1 rfl ?_
                refine vv_if_eq (tgt := 83) C dX5_planNow_75 (by decide) (fun h75 => ?_) (fun h75 => ?_)
                · exact absurd h75 (by decide)
                · refine vv_iload C dX5_planNow_78 2 rfl ?_
                  refine vv_goto (tgt := 84) C dX5_planNow_80 (by decide) ?_
                  refine vv_istore_n (i := 3) (L' := [_, _, _, _, _, _, _]) C dX5_planNow_84 rfl (by decide) rfl ?_
                  refine vv_iincN (L' := [_, _, _, _, _, _, _]) (j := 6) C dX5_planNow_85 rfl (by decide) rfl ?_
                  refine vv_goto (tgt := 12) C dX5_planNow_88 (by decide) ?_
                  refine vv_sub (L' := [_, _, _, _, _]) [5, 6, 2, 1, 0] rfl ?_
                  have hb9 : pm_btr (fun t => pm_TA (pu_hm S) (S.1 35 16) n hh (S.1 35 11 + 0) (S.1 35 14) (S.1 35 15) (pm_sm (S.1 42) n) t) (pm_best (fun t => pm_TA (pu_hm S) (S.1 35 16) n hh (S.1 35 11 + 0) (S.1 35 14) (S.1 35 15) (pm_sm (S.1 42) n) t) i).1 (pm_best (fun t => pm_TA (pu_hm S) (S.1 35 16) n hh (S.1 35 11 + 0) (S.1 35 14) (S.1 35 15) (pm_sm (S.1 42) n) t) i).2 (i + 1) = true := by rw [pm_btr, decide_eq_false h33, decide_eq_true h39, decide_eq_true g51]; rfl
                  have q := ih (i + 1) S25 ⟨by omega, by omega, hc2, l25.trans hl⟩
                  rw [pm_best, if_pos hb9] at q
                  exact q
  refine vv_iconst (v := (0)) C dX5_planNow_0 (by decide) ?_
  refine vv_istore_n (i := 2) (L' := [_, _, _]) C dX5_planNow_1 rfl (by decide) rfl ?_
  refine vv_aload_n C dX5_planNow_2 rfl 1 rfl ?_
  refine vv_iconst (v := (0)) C dX5_planNow_3 (by decide) ?_
  refine vv_iconst (v := (0)) C dX5_planNow_4 (by decide) ?_
  refine vv_cV_i C (a := 35) (kk_X5_takenOn l g _ _ _ n hn hn8 hb15 hb16 hh hhr hh9) yk_X5_takenOn (tm_22 (List.mem_of_getElem? (i := 14) rfl)) rfl rfl rfl (by decide) rfl (Nat.le_of_ble_eq_true rfl) rfl dX5_planNow_5 (fun r5 S5 h5 => ?_)
  obtain ⟨e5, c5, l5⟩ := h5
  refine vv_istore_n (i := 3) (L' := [_, _, _, _]) C dX5_planNow_8 rfl (by decide) rfl ?_
  refine vv_iconst (v := (nI 1)) C dX5_planNow_9 (by decide) ?_
  refine vv_istore (L' := [_, _, _, _, _]) C dX5_planNow_10 (by decide) rfl ?_
  refine vv_sub (L' := [_, _, _, _, _]) [3, 4, 2, 1, 0] rfl ?_
  subst e5
  have h2n := pu_2n n hn8
  exact lp12 (2 ^ n) 0 _ ⟨by omega, by omega, c5, l5⟩
theorem yk_X5_plan : vx_yV yX5_plan cX5_plan 2 (some .int) 1 := ⟨(tm_22 (List.mem_of_getElem? (i := 9) rfl)), (tm_1 (List.mem_of_getElem? (i := 5) rfl)), by decide +kernel, (tm_22 (List.mem_of_getElem? (i := 7) rfl)), (tm_22 (List.mem_of_getElem? (i := 8) rfl))⟩
set_option maxHeartbeats 4000000 in
set_option maxRecDepth 100000 in
theorem kk_X5_plan (l : Launch) (g : vx_G) (S : vx_St) (w : Int32) (n : Nat) (hn : S.1 35 0 = nI n) (hn8 : n ≤ 8) (hb15 : vx_b01 (S.1 35 15) = S.1 35 15) (hb16 : vx_b01 (S.1 35 16) = S.1 35 16) (hh : Nat) (hhr : S.1 35 12 = nI hh) (hh9 : hh ≤ 9) : vx_M l g yX5_plan cX5_plan 2 (some .int) (vx_R 8 189) [.ref (g.2.2.1 35), .int w] S (vx_pi (fun r S' => r = (if 0 ≤ w ∧ w ≤ 1 then (if w = 0 then (pm_best (fun t => pm_TA (pu_hm S) (S.1 35 16) n hh (S.1 35 11 + 0) (S.1 35 14) (S.1 35 15) (pm_sm (S.1 42) n) t) (2 ^ n - 1)).2 else (pm_best (fun t => pm_TA (pu_hm S) (S.1 35 16) n hh (S.1 35 11 + 0) (S.1 35 14) (S.1 35 15) (pm_sm (S.1 42) n) t) (2 ^ n - 1)).1) else -102) ∧ pm_same S S' ∧ S'.2 = S.2)) := by
  refine vx_M.intro (by decide) (Nat.le_of_ble_eq_true rfl) ?_
  intro p e s m args below meth c C
  refine vv_iload_n C dX5_plan_0 rfl 1 rfl ?_
  refine vv_iconst (v := (0)) C dX5_plan_1 (by decide) ?_
  refine vv_iconst (v := (1)) C dX5_plan_2 (by decide) ?_
  refine vv_cS_F C (kk_X5_within l g _ _ _ _) yk_X5_within (tm_10 (List.mem_of_getElem? (i := 22) rfl)) (by decide) rfl (Nat.le_of_ble_eq_true rfl) rfl dX5_plan_3 ?_
  refine vv_ifb_eq (tgt := 17) C dX5_plan_6 (by decide) (fun h6 => ?_) (fun h6 => ?_)
  · simp only [pm_wi, Bool.and_eq_false_iff, decide_eq_false_iff_not] at h6
    refine vv_bipush (v := (-102)) C dX5_plan_17 (by decide) ?_
    refine vv_jret C dX5_plan_19 ?_
    exact ⟨by rw [if_neg (fun z => h6.elim (fun q => q z.1) (fun q => q z.2))], pm_same_rf S, rfl⟩
  · simp only [pm_wi, Bool.and_eq_true, decide_eq_true_eq] at h6
    refine vv_aload_n C dX5_plan_9 rfl 0 rfl ?_
    refine vv_iload_n C dX5_plan_10 rfl 1 rfl ?_
    refine vv_cV_i C (a := 35) (kk_X5_planNow l g _ _ n hn hn8 hb15 hb16 hh hhr hh9) yk_X5_planNow (tm_22 (List.mem_of_getElem? (i := 10) rfl)) rfl rfl rfl (by decide) rfl (Nat.le_of_ble_eq_true rfl) rfl dX5_plan_11 (fun r11 S11 h11 => ?_)
    refine vv_goto (tgt := 19) C dX5_plan_14 (by decide) ?_
    refine vv_jret C dX5_plan_19 ?_
    exact ⟨by rw [if_pos h6]; exact h11.1, h11.2⟩
theorem yk_X5_moreNow : vx_yV yX5_moreNow cX5_moreNow 2 (some .int) 1 := ⟨(tm_23 (List.mem_of_getElem? (i := 23) rfl)), (tm_1 (List.mem_of_getElem? (i := 5) rfl)), by decide +kernel, (tm_23 (List.mem_of_getElem? (i := 21) rfl)), (tm_23 (List.mem_of_getElem? (i := 22) rfl))⟩
set_option maxHeartbeats 4000000 in
set_option maxRecDepth 100000 in
theorem kk_X5_moreNow (l : Launch) (g : vx_G) (S : vx_St) (f : Int32) (n : Nat) (hn : S.1 35 0 = nI n) (hn8 : n ≤ 8) (hb15 : vx_b01 (S.1 35 15) = S.1 35 15) (hb16 : vx_b01 (S.1 35 16) = S.1 35 16) (hh : Nat) (hhr : S.1 35 12 = nI hh) (hh9 : hh ≤ 9) : vx_M l g yX5_moreNow cX5_moreNow 2 (some .int) (vx_R 7 163) [.ref (g.2.2.1 35), .int f] S (vx_pi (fun r S' => r = pm_TA (pu_hm S) (S.1 35 16) n hh (S.1 35 11 + f) (S.1 35 14) (S.1 35 15) (pm_sm (S.1 42) n) (S.1 35 9) - pm_TA (pu_hm S) (S.1 35 16) n hh (S.1 35 11 + 0) (S.1 35 14) (S.1 35 15) (pm_sm (S.1 42) n) (S.1 35 9) ∧ pm_same S S' ∧ S'.2 = S.2)) := by
  refine vx_M.intro (by decide) (Nat.le_of_ble_eq_true rfl) ?_
  intro p e s m args below meth c C
  refine vv_aload_n C dX5_moreNow_0 rfl 0 rfl ?_
  refine vv_aload_n C dX5_moreNow_1 rfl 0 rfl ?_
  refine vv_getI C (a := 35) (k := 9) (o := 0) inlX5 rfl rfl rfl (by decide) rfl (tm_12 (List.mem_of_getElem? (i := 4) rfl)) dX5_moreNow_2 ?_
  refine vv_iload_n C dX5_moreNow_5 rfl 1 rfl ?_
  refine vv_cV_i C (a := 35) (kk_X5_takenOn l g _ _ _ n hn hn8 hb15 hb16 hh hhr hh9) yk_X5_takenOn (tm_22 (List.mem_of_getElem? (i := 14) rfl)) rfl rfl rfl (by decide) rfl (Nat.le_of_ble_eq_true rfl) rfl dX5_moreNow_6 (fun r6 S6 h6 => ?_)
  obtain ⟨e6, c6, l6⟩ := h6
  refine vv_aload_n C dX5_moreNow_9 rfl 0 rfl ?_
  refine vv_aload_n C dX5_moreNow_10 rfl 0 rfl ?_
  refine vv_getI C (a := 35) (k := 9) (o := 0) inlX5 rfl rfl rfl (by decide) rfl (tm_12 (List.mem_of_getElem? (i := 4) rfl)) dX5_moreNow_11 ?_
  refine vv_iconst (v := (0)) C dX5_moreNow_14 (by decide) ?_
  refine vv_cV_i C (a := 35) (kk_X5_takenOn l g _ _ _ n (by rw [c6.2 0 (by omega)]; exact hn) hn8 (by rw [c6.2 15 (by omega)]; exact hb15) (by rw [c6.2 16 (by omega)]; exact hb16) hh (by rw [c6.2 12 (by omega)]; exact hhr) hh9) yk_X5_takenOn (tm_22 (List.mem_of_getElem? (i := 14) rfl)) rfl rfl rfl (by decide) rfl (Nat.le_of_ble_eq_true rfl) rfl dX5_moreNow_15 (fun r15 S15 h15 => ?_)
  obtain ⟨e15, c15, l15⟩ := h15
  rw [pm_TAc c6, c6.2 9 (by omega)] at e15
  refine vv_isub C dX5_moreNow_18 ?_
  refine vv_jret C dX5_moreNow_19 ?_
  exact ⟨by rw [e6, e15], pm_same_tr c6 c15, l15.trans l6⟩
theorem yk_X5_more : vx_yV yX5_more cX5_more 2 (some .int) 1 := ⟨(tm_23 (List.mem_of_getElem? (i := 19) rfl)), (tm_1 (List.mem_of_getElem? (i := 5) rfl)), by decide +kernel, (tm_23 (List.mem_of_getElem? (i := 17) rfl)), (tm_23 (List.mem_of_getElem? (i := 18) rfl))⟩
set_option maxHeartbeats 4000000 in
set_option maxRecDepth 100000 in
theorem kk_X5_more (l : Launch) (g : vx_G) (S : vx_St) (f : Int32) (n : Nat) (hn : S.1 35 0 = nI n) (hn8 : n ≤ 8) (hb15 : vx_b01 (S.1 35 15) = S.1 35 15) (hb16 : vx_b01 (S.1 35 16) = S.1 35 16) (hh : Nat) (hhr : S.1 35 12 = nI hh) (hh9 : hh ≤ 9) : vx_M l g yX5_more cX5_more 2 (some .int) (vx_R 8 184) [.ref (g.2.2.1 35), .int f] S (vx_pi (fun r S' => r = (if 0 ≤ f ∧ f ≤ 99 then pm_TA (pu_hm S) (S.1 35 16) n hh (S.1 35 11 + f) (S.1 35 14) (S.1 35 15) (pm_sm (S.1 42) n) (S.1 35 9) - pm_TA (pu_hm S) (S.1 35 16) n hh (S.1 35 11 + 0) (S.1 35 14) (S.1 35 15) (pm_sm (S.1 42) n) (S.1 35 9) else -102) ∧ pm_same S S' ∧ S'.2 = S.2)) := by
  refine vx_M.intro (by decide) (Nat.le_of_ble_eq_true rfl) ?_
  intro p e s m args below meth c C
  refine vv_iload_n C dX5_more_0 rfl 1 rfl ?_
  refine vv_iconst (v := (0)) C dX5_more_1 (by decide) ?_
  refine vv_bipush (v := (99)) C dX5_more_2 (by decide) ?_
  refine vv_cS_F C (kk_X5_within l g _ _ _ _) yk_X5_within (tm_10 (List.mem_of_getElem? (i := 22) rfl)) (by decide) rfl (Nat.le_of_ble_eq_true rfl) rfl dX5_more_4 ?_
  refine vv_ifb_eq (tgt := 18) C dX5_more_7 (by decide) (fun h7 => ?_) (fun h7 => ?_)
  · simp only [pm_wi, Bool.and_eq_false_iff, decide_eq_false_iff_not] at h7
    refine vv_bipush (v := (-102)) C dX5_more_18 (by decide) ?_
    refine vv_jret C dX5_more_20 ?_
    exact ⟨by rw [if_neg (fun z => h7.elim (fun q => q z.1) (fun q => q z.2))], pm_same_rf S, rfl⟩
  · simp only [pm_wi, Bool.and_eq_true, decide_eq_true_eq] at h7
    refine vv_aload_n C dX5_more_10 rfl 0 rfl ?_
    refine vv_iload_n C dX5_more_11 rfl 1 rfl ?_
    refine vv_cV_i C (a := 35) (kk_X5_moreNow l g _ _ n hn hn8 hb15 hb16 hh hhr hh9) yk_X5_moreNow (tm_23 (List.mem_of_getElem? (i := 20) rfl)) rfl rfl rfl (by decide) rfl (Nat.le_of_ble_eq_true rfl) rfl dX5_more_12 (fun r12 S12 h12 => ?_)
    refine vv_goto (tgt := 20) C dX5_more_15 (by decide) ?_
    refine vv_jret C dX5_more_20 ?_
    exact ⟨by rw [if_pos h7]; exact h12.1, h12.2⟩
theorem yk_X5_missing : vx_yV yX5_missing cX5_missing 8 (some .int) 2 := ⟨(tm_24 (List.mem_of_getElem? (i := 14) rfl)), (tm_1 (List.mem_of_getElem? (i := 5) rfl)), by decide +kernel, (tm_24 (List.mem_of_getElem? (i := 12) rfl)), (tm_24 (List.mem_of_getElem? (i := 13) rfl))⟩
set_option maxHeartbeats 4000000 in
set_option maxRecDepth 100000 in
theorem kk_X5_missing (l : Launch) (g : vx_G) (S : vx_St) (f w : Int32) (n : Nat) (hn : S.1 35 0 = nI n) (hn8 : n ≤ 8) : vx_M l g yX5_missing cX5_missing 8 (some .int) (vx_R 2 44) [.ref (g.2.2.1 35), .int f, .int w] S (vx_pf (if aw_msB f w = true then am_ms (pu_ms (pu_msok (S.1 40) n (pm_openIn (S.1 38) (S.1 39) (S.1 35 12) n) f) (nI (2 ^ n - 1)) (2 ^ n - 1)) w else -102) S) := by
  refine vx_M.intro (by decide) (Nat.le_of_ble_eq_true rfl) ?_
  intro p e s m args below meth c C
  have lp77 : ∀ (fu : Nat) (i : Nat), (2 ^ n - 1 - i < fu ∧ i ≤ 2 ^ n - 1 ∧ aw_msB f w = true) → vx_V p l e (vx_R 2 44) s m args below meth c (MQ below (vx_Q g (vx_pf (if aw_msB f w = true then am_ms (pu_ms (pu_msok (S.1 40) n (pm_openIn (S.1 38) (S.1 39) (S.1 35 12) n) f) (nI (2 ^ n - 1)) (2 ^ n - 1)) w else -102) S)) args s 0 0 (vx_A g)) g 8 77 [(0, .ref (g.2.2.1 35)), (1, .int f), (2, .int w), (3, .int (pm_openIn (S.1 38) (S.1 39) (S.1 35 12) n)), (4, .int (nI (pu_ms (pu_msok (S.1 40) n (pm_openIn (S.1 38) (S.1 39) (S.1 35 12) n) f) (nI (2 ^ n - 1)) i).1)), (5, .int (pu_ms (pu_msok (S.1 40) n (pm_openIn (S.1 38) (S.1 39) (S.1 35 12) n) f) (nI (2 ^ n - 1)) i).2.1), (6, .int (pu_ms (pu_msok (S.1 40) n (pm_openIn (S.1 38) (S.1 39) (S.1 35 12) n) f) (nI (2 ^ n - 1)) i).2.2), (7, .int (nI (i + 1)))] [] (S) := by
    intro fu
    induction fu with
    | zero =>
      intro i hfu
      exact absurd hfu.1 (by omega)
    | succ fu ih =>
      intro i hfu
      obtain ⟨hf1, hf2, hB⟩ := hfu
      have h2n := pu_2n n hn8
      refine vv_iload C dX5_missing_77 7 rfl ?_
      refine vv_aload_n C dX5_missing_79 rfl 0 rfl ?_
      refine vv_cV_F C (a := 35) (kk_X5_everybody l g _) yk_X5_everybody (tm_16 (List.mem_of_getElem? (i := 23) rfl)) rfl rfl rfl (by decide) rfl (Nat.le_of_ble_eq_true rfl) rfl dX5_missing_80 ?_
      rw [hn, pu_all_nI n hn8]
      refine vv_icmp_gt (tgt := 128) C dX5_missing_83 (by decide) (fun h83 => ?_) (fun h83 => ?_)
      · have hgt := pu_gtT rfl (by omega) (by omega) h83
        obtain rfl : i = 2 ^ n - 1 := by omega
        have hle := pu_ms_le (pu_msok (S.1 40) n (pm_openIn (S.1 38) (S.1 39) (S.1 35 12) n) f) (nI (2 ^ n - 1)) (2 ^ n - 1)
        refine vv_iload_n C dX5_missing_128 rfl 2 rfl ?_
        refine vv_if_ne (tgt := 137) C dX5_missing_129 (by decide) (fun h129 => ?_) (fun h129 => ?_)
        · refine vv_iload_n C dX5_missing_137 rfl 2 rfl ?_
          refine vv_iconst (v := (2)) C dX5_missing_138 (by decide) ?_
          refine vv_icmp_ne (tgt := 147) C dX5_missing_139 (by decide) (fun h139 => ?_) (fun h139 => ?_)
          · refine vv_iload C dX5_missing_147 4 rfl ?_
            refine vv_if_ne (tgt := 156) C dX5_missing_149 (by decide) (fun h149 => ?_) (fun h149 => ?_)
            · rw [show (0 : Int32) = nI 0 from rfl, nI_eq (by omega) (by omega)] at h149
              refine vv_iload C dX5_missing_156 5 rfl ?_
              refine vv_fret C dX5_missing_158 ?_
              rw [if_pos hB, am_ms, if_neg h129, if_neg h139, if_neg h149]
            · rw [show (0 : Int32) = nI 0 from rfl, nI_eq (by omega) (by omega)] at h149
              refine vv_iconst (v := (0)) C dX5_missing_152 (by decide) ?_
              refine vv_goto (tgt := 158) C dX5_missing_153 (by decide) ?_
              refine vv_fret C dX5_missing_158 ?_
              rw [if_pos hB, am_ms, if_neg h129, if_neg h139, if_pos h149]
          · refine vv_iload C dX5_missing_142 6 rfl ?_
            refine vv_goto (tgt := 158) C dX5_missing_144 (by decide) ?_
            refine vv_fret C dX5_missing_158 ?_
            rw [if_pos hB, am_ms, if_neg h129, if_pos h139]
        · refine vv_iload C dX5_missing_132 4 rfl ?_
          refine vv_goto (tgt := 158) C dX5_missing_134 (by decide) ?_
          refine vv_fret C dX5_missing_158 ?_
          rw [if_pos hB, am_ms, if_pos h129]
      · have hle := pu_gtF rfl (by omega) (by omega) h83
        refine vv_iload C dX5_missing_86 7 rfl ?_
        refine vv_iload_n C dX5_missing_88 rfl 3 rfl ?_
        refine vv_iconst (v := (-1)) C dX5_missing_89 (by decide) ?_
        refine vv_ixor C dX5_missing_90 ?_
        refine vv_iand C dX5_missing_91 ?_
        refine vv_if_ne (tgt := 122) C dX5_missing_92 (by decide) (fun h92 => ?_) (fun h92 => ?_)
        · refine vv_iincN (L' := [_, _, _, _, _, _, _, _]) (j := 7) C dX5_missing_122 rfl (by decide) rfl ?_
          refine vv_goto (tgt := 77) C dX5_missing_125 (by decide) ?_
          refine vv_sub (L' := [_, _, _, _, _, _, _, _]) [1, 2, 3, 4, 5, 6, 7, 0] rfl ?_
          have hk : pu_msok (S.1 40) n (pm_openIn (S.1 38) (S.1 39) (S.1 35 12) n) f (i + 1) = false := by simp only [pu_msok, h92, decide_true, decide_false, Bool.and_self, Bool.false_and, Bool.and_false, Bool.true_and, Bool.and_true]
          have q := ih (i + 1) ⟨by omega, by omega, hB⟩
          rw [pu_ms, if_neg (show ¬ pu_msok (S.1 40) n (pm_openIn (S.1 38) (S.1 39) (S.1 35 12) n) f (i + 1) = true by rw [hk]; decide)] at q
          exact q
        · refine vv_aload_n C dX5_missing_95 rfl 0 rfl ?_
          refine vv_iload C dX5_missing_96 7 rfl ?_
          refine vv_cV_F C (a := 35) (kk_X5_sumOf l g _ _ n hn hn8) yk_X5_sumOf (tm_24 (List.mem_of_getElem? (i := 15) rfl)) rfl rfl rfl (by decide) rfl (Nat.le_of_ble_eq_true rfl) rfl dX5_missing_98 ?_
          refine vv_iload_n C dX5_missing_101 rfl 1 rfl ?_
          refine vv_icmp_ne (tgt := 122) C dX5_missing_102 (by decide) (fun h102 => ?_) (fun h102 => ?_)
          · refine vv_iincN (L' := [_, _, _, _, _, _, _, _]) (j := 7) C dX5_missing_122 rfl (by decide) rfl ?_
            refine vv_goto (tgt := 77) C dX5_missing_125 (by decide) ?_
            refine vv_sub (L' := [_, _, _, _, _, _, _, _]) [1, 2, 3, 4, 5, 6, 7, 0] rfl ?_
            have hk : pu_msok (S.1 40) n (pm_openIn (S.1 38) (S.1 39) (S.1 35 12) n) f (i + 1) = false := by simp only [pu_msok, h92, h102, decide_true, decide_false, Bool.and_self, Bool.false_and, Bool.and_false, Bool.true_and, Bool.and_true]
            have q := ih (i + 1) ⟨by omega, by omega, hB⟩
            rw [pu_ms, if_neg (show ¬ pu_msok (S.1 40) n (pm_openIn (S.1 38) (S.1 39) (S.1 35 12) n) f (i + 1) = true by rw [hk]; decide)] at q
            exact q
          · refine vv_iincN (L' := [_, _, _, _, _, _, _, _]) (j := 4) C dX5_missing_105 rfl (by decide) rfl ?_
            refine vv_iload C dX5_missing_108 5 rfl ?_
            refine vv_iload C dX5_missing_110 7 rfl ?_
            refine vv_iand C dX5_missing_112 ?_
            refine vv_istore (L' := [_, _, _, _, _, _, _, _]) C dX5_missing_113 (by decide) rfl ?_
            refine vv_iload C dX5_missing_115 6 rfl ?_
            refine vv_iload C dX5_missing_117 7 rfl ?_
            refine vv_ior C dX5_missing_119 ?_
            refine vv_istore (L' := [_, _, _, _, _, _, _, _]) C dX5_missing_120 (by decide) rfl ?_
            refine vv_iincN (L' := [_, _, _, _, _, _, _, _]) (j := 7) C dX5_missing_122 rfl (by decide) rfl ?_
            refine vv_goto (tgt := 77) C dX5_missing_125 (by decide) ?_
            refine vv_sub (L' := [_, _, _, _, _, _, _, _]) [4, 5, 6, 7, 3, 2, 1, 0] rfl ?_
            have hk : pu_msok (S.1 40) n (pm_openIn (S.1 38) (S.1 39) (S.1 35 12) n) f (i + 1) = true := by simp only [pu_msok, h92, h102, decide_true, decide_false, Bool.and_self, Bool.false_and, Bool.and_false, Bool.true_and, Bool.and_true]
            have q := ih (i + 1) ⟨by omega, by omega, hB⟩
            rw [pu_ms, if_pos hk] at q
            exact q
  have lp27 : ∀ (fu : Nat) (i : Nat), (n - i < fu ∧ i ≤ n ∧ aw_msB f w = true) → vx_V p l e (vx_R 2 44) s m args below meth c (MQ below (vx_Q g (vx_pf (if aw_msB f w = true then am_ms (pu_ms (pu_msok (S.1 40) n (pm_openIn (S.1 38) (S.1 39) (S.1 35 12) n) f) (nI (2 ^ n - 1)) (2 ^ n - 1)) w else -102) S)) args s 0 0 (vx_A g)) g 8 27 [(0, .ref (g.2.2.1 35)), (1, .int f), (2, .int w), (3, .int (pm_openIn (S.1 38) (S.1 39) (S.1 35 12) i)), (4, .int (nI i))] [] (S) := by
    intro fu
    induction fu with
    | zero =>
      intro i hfu
      exact absurd hfu.1 (by omega)
    | succ fu ih =>
      intro i hfu
      obtain ⟨hf1, hf2, hB⟩ := hfu
      refine vv_iload C dX5_missing_27 4 rfl ?_
      refine vv_aload_n C dX5_missing_29 rfl 0 rfl ?_
      refine vv_getI C (a := 35) (k := 0) (o := 0) inlX5 rfl rfl rfl (by decide) rfl (tm_10 (List.mem_of_getElem? (i := 18) rfl)) dX5_missing_30 ?_
      refine vv_icmp_ge (tgt := 62) C dX5_missing_33 (by decide) (fun h33 => ?_) (fun h33 => ?_)
      · have hge := pu_geT hn (by omega) (by omega) h33
        obtain rfl : n = i := by omega
        refine vv_iconst (v := (nI 0)) C dX5_missing_62 (by decide) ?_
        refine vv_istore (L' := [_, _, _, _, _]) C dX5_missing_63 (by decide) rfl ?_
        refine vv_aload_n C dX5_missing_65 rfl 1 rfl ?_
        refine vv_cV_F C (a := 35) (kk_X5_everybody l g _) yk_X5_everybody (tm_16 (List.mem_of_getElem? (i := 23) rfl)) rfl rfl rfl (by decide) rfl (Nat.le_of_ble_eq_true rfl) rfl dX5_missing_66 ?_
        rw [hn, pu_all_nI n hn8]
        refine vv_istore (L' := [_, _, _, _, _, _]) C dX5_missing_69 (by decide) rfl ?_
        refine vv_iconst (v := (0)) C dX5_missing_71 (by decide) ?_
        refine vv_istore (L' := [_, _, _, _, _, _, _]) C dX5_missing_72 (by decide) rfl ?_
        refine vv_iconst (v := (nI 1)) C dX5_missing_74 (by decide) ?_
        refine vv_istore (L' := [_, _, _, _, _, _, _, _]) C dX5_missing_75 (by decide) rfl ?_
        refine vv_sub (L' := [_, _, _, _, _, _, _, _]) [4, 5, 6, 7, 3, 2, 1, 0] rfl ?_
        have h2n := pu_2n n hn8
        exact lp77 (2 ^ n) 0 ⟨by omega, by omega, hB⟩
      · have hlt := pu_geF hn (by omega) (by omega) h33
        refine vv_iload_n C dX5_missing_36 rfl 3 rfl ?_
        refine vv_aload_n C dX5_missing_37 rfl 0 rfl ?_
        refine vv_iload C dX5_missing_38 4 rfl ?_
        refine vv_cV_F C (a := 35) (kk_X5_isTime l g _ i (by omega)) yk_X5_isTime (tm_15 (List.mem_of_getElem? (i := 17) rfl)) rfl rfl rfl (by decide) rfl (Nat.le_of_ble_eq_true rfl) rfl dX5_missing_40 ?_
        refine vv_ifb_eq (tgt := 53) C dX5_missing_43 (by decide) (fun h43 => ?_) (fun h43 => ?_)
        · refine vv_iconst (v := (0)) C dX5_missing_53 (by decide) ?_
          refine vv_ior C dX5_missing_54 ?_
          refine vv_istore_n (i := 3) (L' := [_, _, _, _, _]) C dX5_missing_55 rfl (by decide) rfl ?_
          refine vv_iincN (L' := [_, _, _, _, _]) (j := 4) C dX5_missing_56 rfl (by decide) rfl ?_
          refine vv_goto (tgt := 27) C dX5_missing_59 (by decide) ?_
          refine vv_sub (L' := [_, _, _, _, _]) [2, 3, 4, 1, 0] rfl ?_
          have q := ih (i + 1) ⟨by omega, by omega, hB⟩
          rw [pm_openIn, if_neg (show ¬ (decide (S.1 35 12 < 9) && pu_open (S.1 38) (S.1 39) (S.1 35 12) i) = true by rw [h43]; decide)] at q
          rw [pm_or0]
          exact q
        · refine vv_iconst (v := (1)) C dX5_missing_46 (by decide) ?_
          refine vv_iload C dX5_missing_47 4 rfl ?_
          refine vv_ishl C dX5_missing_49 ?_
          refine vv_goto (tgt := 54) C dX5_missing_50 (by decide) ?_
          refine vv_ior C dX5_missing_54 ?_
          refine vv_istore_n (i := 3) (L' := [_, _, _, _, _]) C dX5_missing_55 rfl (by decide) rfl ?_
          refine vv_iincN (L' := [_, _, _, _, _]) (j := 4) C dX5_missing_56 rfl (by decide) rfl ?_
          refine vv_goto (tgt := 27) C dX5_missing_59 (by decide) ?_
          refine vv_sub (L' := [_, _, _, _, _]) [2, 3, 4, 1, 0] rfl ?_
          have q := ih (i + 1) ⟨by omega, by omega, hB⟩
          rw [pm_openIn, if_pos h43] at q
          exact q
  refine vv_iload_n C dX5_missing_0 rfl 1 rfl ?_
  refine vv_iconst (v := (1)) C dX5_missing_1 (by decide) ?_
  refine vv_bipush (v := (72)) C dX5_missing_2 (by decide) ?_
  refine vv_cS_F C (kk_X5_within l g _ _ _ _) yk_X5_within (tm_10 (List.mem_of_getElem? (i := 22) rfl)) (by decide) rfl (Nat.le_of_ble_eq_true rfl) rfl dX5_missing_4 ?_
  refine vv_ifb_eq (tgt := 19) C dX5_missing_7 (by decide) (fun h7 => ?_) (fun h7 => ?_)
  · refine vv_bipush (v := (-102)) C dX5_missing_19 (by decide) ?_
    refine vv_fret C dX5_missing_21 ?_
    rw [if_neg (by simp only [pm_wi] at h7; simp [aw_msB, h7])]
  · refine vv_iload_n C dX5_missing_10 rfl 2 rfl ?_
    refine vv_iconst (v := (0)) C dX5_missing_11 (by decide) ?_
    refine vv_iconst (v := (2)) C dX5_missing_12 (by decide) ?_
    refine vv_cS_F C (kk_X5_within l g _ _ _ _) yk_X5_within (tm_10 (List.mem_of_getElem? (i := 22) rfl)) (by decide) rfl (Nat.le_of_ble_eq_true rfl) rfl dX5_missing_13 ?_
    refine vv_ifb_ne (tgt := 22) C dX5_missing_16 (by decide) (fun h16 => ?_) (fun h16 => ?_)
    · refine vv_iconst (v := (0)) C dX5_missing_22 (by decide) ?_
      refine vv_istore_n (i := 3) (L' := [_, _, _, _]) C dX5_missing_23 rfl (by decide) rfl ?_
      refine vv_iconst (v := (nI 0)) C dX5_missing_24 (by decide) ?_
      refine vv_istore (L' := [_, _, _, _, _]) C dX5_missing_25 (by decide) rfl ?_
      refine vv_sub (L' := [_, _, _, _, _]) [2, 3, 4, 1, 0] rfl ?_
      exact lp27 (n + 1) 0 ⟨by omega, by omega, by simp only [pm_wi] at h7 h16; rw [aw_msB, h7, h16]; rfl⟩
    · refine vv_bipush (v := (-102)) C dX5_missing_19 (by decide) ?_
      refine vv_fret C dX5_missing_21 ?_
      rw [if_neg (by simp only [pm_wi] at h16; simp [aw_msB, h16])]
theorem yk_X5_draw : vx_yV yX5_draw cX5_draw 2 (some .int) 1 := ⟨(tm_25 (List.mem_of_getElem? (i := 14) rfl)), (tm_1 (List.mem_of_getElem? (i := 5) rfl)), by decide +kernel, (tm_25 (List.mem_of_getElem? (i := 12) rfl)), (tm_25 (List.mem_of_getElem? (i := 13) rfl))⟩
set_option maxHeartbeats 4000000 in
set_option maxRecDepth 100000 in
theorem kk_X5_draw (l : Launch) (g : vx_G) (S : vx_St) (dv : Int32) (hd : dv = 3) : vx_M l g yX5_draw cX5_draw 2 (some .int) (vx_R 0 0) [.ref (g.2.2.1 35), .int dv] S (vx_pi (fun r S' => r = pm_drw (pm_seed (S.2 35 30)) ∧ S' = vx_uL S 35 30 (pm_seed (S.2 35 30)))) := by
  refine vx_M.intro (by decide) (Nat.le_of_ble_eq_true rfl) ?_
  intro p e s m args below meth c C
  refine vv_aload_n C dX5_draw_0 rfl 0 rfl ?_
  refine vv_ldc2 C (tm_25 (List.mem_of_getElem? (i := 15) rfl)) dX5_draw_1 ?_
  refine vv_aload_n C dX5_draw_4 rfl 0 rfl ?_
  refine vv_getL C (a := 35) (k := 30) (o := 0) inlX5 rfl rfl rfl (by decide) rfl (tm_25 (List.mem_of_getElem? (i := 10) rfl)) dX5_draw_5 ?_
  refine vv_lmul C dX5_draw_8 ?_
  refine vv_ldc2 C (tm_25 (List.mem_of_getElem? (i := 16) rfl)) dX5_draw_9 ?_
  refine vv_ladd C dX5_draw_12 ?_
  refine vv_ldc2 C (tm_25 (List.mem_of_getElem? (i := 17) rfl)) dX5_draw_13 ?_
  refine vv_land C dX5_draw_16 ?_
  refine vv_putL C (a := 35) (k := 30) inlX5 tyX5 tyX5_ok nmX5 rfl rfl rfl (by decide) rfl rfl rfl (tm_25 (List.mem_of_getElem? (i := 10) rfl)) dX5_draw_17 ?_
  refine vv_aload_n C dX5_draw_20 rfl 0 rfl ?_
  refine vv_getL C (a := 35) (k := 30) (o := 0) inlX5 rfl rfl rfl (by decide) rfl (tm_25 (List.mem_of_getElem? (i := 10) rfl)) dX5_draw_21 ?_
  refine vv_ldc2 C (tm_25 (List.mem_of_getElem? (i := 18) rfl)) dX5_draw_24 ?_
  refine vv_ldiv C dX5_draw_27 (by decide) ?_
  refine vv_iload_n C dX5_draw_28 rfl 1 rfl ?_
  refine vv_i2l C dX5_draw_29 ?_
  refine vv_lrem C dX5_draw_30 (by rw [hd]; decide) ?_
  refine vv_l2i C dX5_draw_31 ?_
  refine vv_jret C dX5_draw_32 ?_
  subst hd
  refine ⟨?_, rfl⟩
  simp [pm_drw, pm_seed, vx_uL]
