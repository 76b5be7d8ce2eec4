theorem pu_dsh {d : Nat} (hd : d = 11 ∨ d = 20 ∨ d = 26) : vx_SH[d]? = some vx_sDay ∧ vx_SH[d + 1]? = some vx_sA ∧ vx_SH[d + 2]? = some vx_sA ∧ vx_SH[d + 3]? = some vx_sA ∧ vx_SH[d + 4]? = some vx_sA ∧ vx_SH[d + 5]? = some vx_sA := by
  rcases hd with rfl | rfl | rfl <;> exact ⟨rfl, rfl, rfl, rfl, rfl, rfl⟩
theorem yk_X0_tellWanted : vx_yV yX0_tellWanted cX0_tellWanted 3 none 1 := ⟨(tm_16 (List.mem_of_getElem? (i := 10) rfl)), (tm_1 (List.mem_of_getElem? (i := 23) rfl)), by decide +kernel, (tm_16 (List.mem_of_getElem? (i := 8) rfl)), (tm_16 (List.mem_of_getElem? (i := 9) rfl))⟩
set_option maxHeartbeats 4000000 in
set_option maxRecDepth 100000 in
theorem kk_X0_tellWanted (l : Launch) (g : vx_G) (S : vx_St) (d : Nat) (hd : d = 11 ∨ d = 20 ∨ d = 26) (n : Nat) (hn : S.1 3 0 = nI n) (hn8 : n ≤ 8) : vx_M l g yX0_tellWanted cX0_tellWanted 3 none (vx_R 2 45) [.ref (g.2.2.1 d), .ref (g.2.2.1 3)] S (vx_pv (fun S' => pu_chg S S' [d + 3] ∧ S'.1 (d + 3) = pu_fill (pu_W (pu_hs S) (S.1 d 2) (S.1 d 5) (S.1 d 4)) (S.1 (d + 3)) n)) := by
  obtain ⟨hd0, hd1, hd2, hd3, hd4, hd5⟩ := pu_dsh hd
  refine vx_M.intro (by decide) (Nat.le_of_ble_eq_true rfl) ?_
  intro p e s m args below meth c C
  have lp2 : ∀ (fu : Nat) (i : Nat) (S1 : vx_St), (n - i < fu ∧ i ≤ n ∧ pu_chg S S1 [d + 3] ∧ S1.1 (d + 3) = pu_fill (pu_W (pu_hs S) (S.1 d 2) (S.1 d 5) (S.1 d 4)) (S.1 (d + 3)) i) → vx_V p l e (vx_R 2 45) s m args below meth c (MQ below (vx_Q g (vx_pv (fun S' => pu_chg S S' [d + 3] ∧ S'.1 (d + 3) = pu_fill (pu_W (pu_hs S) (S.1 d 2) (S.1 d 5) (S.1 d 4)) (S.1 (d + 3)) n))) args s 0 0 (vx_A g)) g 3 2 [(0, .ref (g.2.2.1 d)), (1, .ref (g.2.2.1 3)), (2, .int (nI i))] [] (S1) := by
    intro fu
    induction fu with
    | zero =>
      intro i S1 hfu
      exact absurd hfu.1 (by omega)
    | succ fu ih =>
      intro i S1 hfu
      obtain ⟨hf1, hf2, hf3, hf4⟩ := hfu
      have hn1 : S1.1 3 0 = nI n := by rw [hf3.2 3 (by simp only [List.mem_cons, List.not_mem_nil, or_false, not_or]; omega)]; exact hn
      refine vv_iload_n C dX0_tellWanted_2 rfl 2 rfl ?_
      refine vv_aload_n C dX0_tellWanted_3 rfl 1 rfl ?_
      refine vv_getIN C (a := 3) (k := 0) (o := 0) inlX1 rfl rfl rfl (by decide) rfl (List.mem_of_getElem? (i := 6) rfl) dX0_tellWanted_4 ?_
      refine vv_icmp_ge (tgt := 28) C dX0_tellWanted_7 (by decide) (fun h7 => ?_) (fun h7 => ?_)
      · have hge := pu_geT hn1 (by omega) (by omega) h7
        obtain rfl : n = i := by omega
        refine vv_nret C dX0_tellWanted_28 ?_
        exact ⟨hf3, hf4⟩
      · have hlt := pu_geF hn1 (by omega) (by omega) h7
        refine vv_aload_n C dX0_tellWanted_10 rfl 0 rfl ?_
        refine vv_gR C (a := d) (k := 11) (b := d + 3) inlX0 hd0 rfl rfl rfl (by decide) rfl (tm_3 (List.mem_of_getElem? (i := 6) rfl)) dX0_tellWanted_11 ?_
        refine vv_iload_n C dX0_tellWanted_14 rfl 2 rfl ?_
        refine vv_aload_n C dX0_tellWanted_15 rfl 0 rfl ?_
        refine vv_aload_n C dX0_tellWanted_16 rfl 1 rfl ?_
        refine vv_iload_n C dX0_tellWanted_17 rfl 2 rfl ?_
        refine vv_cV_F C (a := d) (kk_X0_wantOf l g _ _ hd0 _ (by omega)) yk_X0_wantOf (tm_16 (List.mem_of_getElem? (i := 11) rfl)) hd0 rfl rfl (by decide) rfl (Nat.le_of_ble_eq_true rfl) rfl dX0_tellWanted_18 ?_
        refine vv_iastN C (a := d + 3) hd3 (by omega) (by decide) dX0_tellWanted_21 ?_
        refine vv_iincN (L' := [_, _, _]) (j := 2) C dX0_tellWanted_22 rfl (by decide) rfl ?_
        refine vv_goto (tgt := 2) C dX0_tellWanted_25 (by decide) ?_
        refine vv_sub (L' := [_, _, _]) [1, 2, 0] rfl ?_
        refine ih (i + 1) _ ⟨by omega, by omega, pu_chg_u hf3 _ _ (by simp), ?_⟩
        rw [vx_u_row, hf4, hf3.2 4 (by simp only [List.mem_cons, List.not_mem_nil, or_false, not_or]; omega), hf3.2 6 (by simp only [List.mem_cons, List.not_mem_nil, or_false, not_or]; omega), hf3.2 7 (by simp only [List.mem_cons, List.not_mem_nil, or_false, not_or]; omega), hf3.2 8 (by simp only [List.mem_cons, List.not_mem_nil, or_false, not_or]; omega), hf3.2 d (by simp only [List.mem_cons, List.not_mem_nil, or_false, not_or]; omega)]
        exact pu_fill_s _ _ i
  refine vv_iconst (v := (nI 0)) C dX0_tellWanted_0 (by decide) ?_
  refine vv_istore_n (i := 2) (L' := [_, _, _]) C dX0_tellWanted_1 rfl (by decide) rfl ?_
  refine vv_sub (L' := [_, _, _]) [1, 2, 0] rfl ?_
  exact lp2 (n + 1) 0 S ⟨by omega, by omega, pu_chg_rf S _, rfl⟩
theorem yk_X0_letWork : vx_yV yX0_letWork cX0_letWork 6 none 3 := ⟨(tm_18 (List.mem_of_getElem? (i := 11) rfl)), (tm_1 (List.mem_of_getElem? (i := 23) rfl)), by decide +kernel, (tm_18 (List.mem_of_getElem? (i := 9) rfl)), (tm_18 (List.mem_of_getElem? (i := 10) rfl))⟩
set_option maxHeartbeats 4000000 in
set_option maxRecDepth 100000 in
theorem kk_X0_letWork (l : Launch) (g : vx_G) (S : vx_St) (d : Nat) (hd : d = 11 ∨ d = 20 ∨ d = 26) (t ft : Int32) (n : Nat) (hn8 : n ≤ 8) : vx_M l g yX0_letWork cX0_letWork 6 none (vx_R 1 21) [.ref (g.2.2.1 d), .int (nI n), .int t, .int ft] S (vx_pv (fun S' => pu_chg S S' [d, d + 1] ∧ S'.1 d = pu_let (S.1 d) (S.1 (d + 3)) t ft n ∧ S'.1 (d + 1) = pu_took (S.1 (d + 1)) (S.1 (d + 3)) t n)) := by
  obtain ⟨hd0, hd1, hd2, hd3, hd4, hd5⟩ := pu_dsh hd
  refine vx_M.intro (by decide) (Nat.le_of_ble_eq_true rfl) ?_
  intro p e s m args below meth c C
  have lp11 : ∀ (fu : Nat) (i : Nat) (S1 : vx_St), (n - i < fu ∧ i ≤ n ∧ pu_chg S S1 [d, d + 1] ∧ S1.1 d = upd (S.1 d) 4 (pu_work (S.1 (d + 3)) t i) ∧ S1.1 (d + 1) = pu_took (S.1 (d + 1)) (S.1 (d + 3)) t i) → vx_V p l e (vx_R 1 21) s m args below meth c (MQ below (vx_Q g (vx_pv (fun S' => pu_chg S S' [d, d + 1] ∧ S'.1 d = pu_let (S.1 d) (S.1 (d + 3)) t ft n ∧ S'.1 (d + 1) = pu_took (S.1 (d + 1)) (S.1 (d + 3)) t n))) args s 0 0 (vx_A g)) g 6 11 [(0, .ref (g.2.2.1 d)), (1, .int (nI n)), (2, .int t), (3, .int ft), (4, .int (pu_gof (S.1 (d + 3)) t i)), (5, .int (nI i))] [] (S1) := by
    intro fu
    induction fu with
    | zero =>
      intro i S1 hfu
      exact absurd hfu.1 (by omega)
    | succ fu ih =>
      intro i S1 hfu
      obtain ⟨hf1, hf2, hf3, hf4, hf5⟩ := hfu
      have w3 : S1.1 (d + 3) = S.1 (d + 3) := hf3.2 _ (by simp only [List.mem_cons, List.not_mem_nil, or_false, not_or]; omega)
      refine vv_iload C dX0_letWork_11 5 rfl ?_
      refine vv_iload_n C dX0_letWork_13 rfl 1 rfl ?_
      refine vv_icmp_ge (tgt := 85) C dX0_letWork_14 (by decide) (fun h14 => ?_) (fun h14 => ?_)
      · have g14 := pu_le h14
        have hge := pu_geT rfl (by omega) (by omega) h14
        obtain rfl : n = i := by omega
        refine vv_aload_n C dX0_letWork_85 rfl 0 rfl ?_
        refine vv_dup C dX0_letWork_86 rfl ?_
        refine vv_getI C (a := d) (k := 8) (o := 0) inlX0 hd0 rfl rfl (by decide) rfl (tm_18 (List.mem_of_getElem? (i := 12) rfl)) dX0_letWork_87 ?_
        refine vv_iload C dX0_letWork_90 4 rfl ?_
        refine vv_iadd C dX0_letWork_92 ?_
        refine vv_putI C (a := d) (k := 8) inlX0 tyX0 tyX0_ok nmX0 hd0 rfl rfl (by decide) rfl rfl rfl (tm_18 (List.mem_of_getElem? (i := 12) rfl)) dX0_letWork_93 ?_
        refine vv_aload_n C dX0_letWork_96 rfl 0 rfl ?_
        refine vv_dup C dX0_letWork_97 rfl ?_
        refine vv_getI C (a := d) (k := 3) (o := 0) inlX0 hd0 rfl rfl (by decide) rfl (tm_18 (List.mem_of_getElem? (i := 13) rfl)) dX0_letWork_98 ?_
        refine vv_iload_n C dX0_letWork_101 rfl 3 rfl ?_
        refine vv_iload C dX0_letWork_102 4 rfl ?_
        refine vv_isub C dX0_letWork_104 ?_
        refine vv_iadd C dX0_letWork_105 ?_
        refine vv_putI C (a := d) (k := 3) inlX0 tyX0 tyX0_ok nmX0 hd0 rfl rfl (by decide) rfl rfl rfl (tm_18 (List.mem_of_getElem? (i := 13) rfl)) dX0_letWork_106 ?_
        refine vv_aload_n C dX0_letWork_109 rfl 0 rfl ?_
        refine vv_dup C dX0_letWork_110 rfl ?_
        refine vv_getI C (a := d) (k := 1) (o := 0) inlX0 hd0 rfl rfl (by decide) rfl (tm_3 (List.mem_of_getElem? (i := 3) rfl)) dX0_letWork_111 ?_
        refine vv_iload_n C dX0_letWork_114 rfl 3 rfl ?_
        refine vv_isub C dX0_letWork_115 ?_
        refine vv_putI C (a := d) (k := 1) inlX0 tyX0 tyX0_ok nmX0 hd0 rfl rfl (by decide) rfl rfl rfl (tm_3 (List.mem_of_getElem? (i := 3) rfl)) dX0_letWork_116 ?_
        refine vv_nret C dX0_letWork_119 ?_
        refine ⟨pu_chg_u (pu_chg_u (pu_chg_u hf3 _ _ (by simp)) _ _ (by simp)) _ _ (by simp), ?_, ?_⟩
        · simp only [vx_u_row, hf4, pu_let]
          simp [vx_u, upd, hf4]
        · rw [vx_u_ne _ _ _ (by omega), vx_u_ne _ _ _ (by omega), vx_u_ne _ _ _ (by omega)]
          exact hf5
      · have g14 := pu_nle h14
        have hlt := pu_geF rfl (by omega) (by omega) h14
        refine vv_iload_n C dX0_letWork_17 rfl 2 rfl ?_
        refine vv_iload C dX0_letWork_18 5 rfl ?_
        refine vv_cSN_F C (kk_X4_isIn l g _ _ _) yk_X4_isIn (List.mem_of_getElem? (i := 44) rfl) (by decide) rfl (Nat.le_of_ble_eq_true rfl) rfl dX0_letWork_20 ?_
        refine vv_ifb_eq (tgt := 79) C dX0_letWork_23 (by decide) (fun h23 => ?_) (fun h23 => ?_)
        · refine vv_iincN (L' := [_, _, _, _, _, _]) (j := 5) C dX0_letWork_79 rfl (by decide) rfl ?_
          refine vv_goto (tgt := 11) C dX0_letWork_82 (by decide) ?_
          refine vv_sub (L' := [_, _, _, _, _, _]) [1, 2, 3, 4, 5, 0] rfl ?_
          have q := ih (i + 1) S1 ⟨by omega, by omega, hf3, (by rw [hf4]; simp only [pu_work, h14, g14, h23, if_true, if_false, reduceIte, Bool.false_eq_true, and_true, true_and, and_false, false_and, not_true, not_false_iff, and_self, ite_true, ite_false, not_true_eq_false, not_false_eq_true, or_true, true_or, or_false, false_or]), (by rw [hf5]; exact pu_took_s2 (by simp only [h14, g14, h23, if_true, if_false, reduceIte, Bool.false_eq_true, and_true, true_and, and_false, false_and, not_true, not_false_iff, and_self, ite_true, ite_false, not_true_eq_false, not_false_eq_true, or_true, true_or, or_false, false_or]))⟩
          simp only [pu_gof, h14, g14, h23, if_true, if_false, reduceIte, Bool.false_eq_true, and_true, true_and, and_false, false_and, not_true, not_false_iff, and_self, ite_true, ite_false, not_true_eq_false, not_false_eq_true, or_true, true_or, or_false, false_or] at q
          exact q
        · refine vv_aload_n C dX0_letWork_26 rfl 0 rfl ?_
          refine vv_gR C (a := d) (k := 11) (b := d + 3) inlX0 hd0 rfl rfl rfl (by decide) rfl (tm_3 (List.mem_of_getElem? (i := 6) rfl)) dX0_letWork_27 ?_
          refine vv_iload C dX0_letWork_30 5 rfl ?_
          refine vv_ialdN C (a := d + 3) hd3 (by omega) (by decide) dX0_letWork_32 ?_
          refine vv_if_le (tgt := 79) C dX0_letWork_33 (by decide) (fun h33 => ?_) (fun h33 => ?_)
          · have g33 := pu_le h33
            rw [w3] at h33 g33
            refine vv_iincN (L' := [_, _, _, _, _, _]) (j := 5) C dX0_letWork_79 rfl (by decide) rfl ?_
            refine vv_goto (tgt := 11) C dX0_letWork_82 (by decide) ?_
            refine vv_sub (L' := [_, _, _, _, _, _]) [1, 2, 3, 4, 5, 0] rfl ?_
            have q := ih (i + 1) S1 ⟨by omega, by omega, hf3, (by rw [hf4]; simp only [pu_work, h14, g14, h23, h33, g33, if_true, if_false, reduceIte, Bool.false_eq_true, and_true, true_and, and_false, false_and, not_true, not_false_iff, and_self, ite_true, ite_false, not_true_eq_false, not_false_eq_true, or_true, true_or, or_false, false_or]), (by rw [hf5]; exact pu_took_s2 (by simp only [h14, g14, h23, h33, g33, if_true, if_false, reduceIte, Bool.false_eq_true, and_true, true_and, and_false, false_and, not_true, not_false_iff, and_self, ite_true, ite_false, not_true_eq_false, not_false_eq_true, or_true, true_or, or_false, false_or]))⟩
            simp only [pu_gof, h14, g14, h23, h33, g33, if_true, if_false, reduceIte, Bool.false_eq_true, and_true, true_and, and_false, false_and, not_true, not_false_iff, and_self, ite_true, ite_false, not_true_eq_false, not_false_eq_true, or_true, true_or, or_false, false_or] at q
            exact q
          · have g33 := pu_nle h33
            rw [w3] at h33 g33
            refine vv_aload_n C dX0_letWork_36 rfl 0 rfl ?_
            refine vv_gR C (a := d) (k := 9) (b := d + 1) inlX0 hd0 rfl rfl rfl (by decide) rfl (tm_3 (List.mem_of_getElem? (i := 4) rfl)) dX0_letWork_37 ?_
            refine vv_iload C dX0_letWork_40 5 rfl ?_
            refine vv_dup2 C dX0_letWork_42 rfl rfl ?_
            refine vv_ialdN C (a := d + 1) hd1 (by omega) (by decide) dX0_letWork_43 ?_
            refine vv_aload_n C dX0_letWork_44 rfl 0 rfl ?_
            refine vv_gR C (a := d) (k := 11) (b := d + 3) inlX0 hd0 rfl rfl rfl (by decide) rfl (tm_3 (List.mem_of_getElem? (i := 6) rfl)) dX0_letWork_45 ?_
            refine vv_iload C dX0_letWork_48 5 rfl ?_
            refine vv_ialdN C (a := d + 3) hd3 (by omega) (by decide) dX0_letWork_50 ?_
            refine vv_iadd C dX0_letWork_51 ?_
            refine vv_iastN C (a := d + 1) hd1 (by omega) (by decide) dX0_letWork_52 ?_
            refine vv_iload C dX0_letWork_53 4 rfl ?_
            refine vv_aload_n C dX0_letWork_55 rfl 0 rfl ?_
            refine vv_gR C (a := d) (k := 11) (b := d + 3) inlX0 hd0 rfl rfl rfl (by decide) rfl (tm_3 (List.mem_of_getElem? (i := 6) rfl)) dX0_letWork_56 ?_
            refine vv_iload C dX0_letWork_59 5 rfl ?_
            refine vv_ialdN C (a := d + 3) hd3 (by omega) (by decide) dX0_letWork_61 ?_
            refine vv_iadd C dX0_letWork_62 ?_
            refine vv_istore (L' := [_, _, _, _, _, _]) C dX0_letWork_63 (by decide) rfl ?_
            refine vv_aload_n C dX0_letWork_65 rfl 1 rfl ?_
            refine vv_dup C dX0_letWork_66 rfl ?_
            refine vv_getI C (a := d) (k := 4) (o := 0) inlX0 hd0 rfl rfl (by decide) rfl (tm_15 (List.mem_of_getElem? (i := 4) rfl)) dX0_letWork_67 ?_
            refine vv_iload C dX0_letWork_70 5 rfl ?_
            refine vv_cSN_F C (kk_X4_bit l g _ _) yk_X4_bit (List.mem_of_getElem? (i := 54) rfl) (by decide) rfl (Nat.le_of_ble_eq_true rfl) rfl dX0_letWork_72 ?_
            refine vv_ior C dX0_letWork_75 ?_
            refine vv_putI C (a := d) (k := 4) inlX0 tyX0 tyX0_ok nmX0 hd0 rfl rfl (by decide) rfl rfl rfl (tm_15 (List.mem_of_getElem? (i := 4) rfl)) dX0_letWork_76 ?_
            refine vv_iincN (L' := [_, _, _, _, _, _]) (j := 5) C dX0_letWork_79 rfl (by decide) rfl ?_
            refine vv_goto (tgt := 11) C dX0_letWork_82 (by decide) ?_
            refine vv_sub (L' := [_, _, _, _, _, _]) [2, 3, 4, 5, 1, 0] rfl ?_
            have q := ih (i + 1) _ ⟨by omega, by omega, pu_chg_u (pu_chg_u hf3 (c := d + 1) i (pu_took (S.1 (d + 1)) (S.1 (d + 3)) t i i + S.1 (d + 3) i) (by simp)) (c := d) 4 (pu_work (S.1 (d + 3)) t i ||| pu_bit (nI i)) (by simp), (by rw [vx_u_row, vx_u_ne _ _ _ (by omega), hf4]; simp only [pu_work, h14, g14, h23, h33, g33, if_true, if_false, reduceIte, Bool.false_eq_true, and_true, true_and, and_false, false_and, not_true, not_false_iff, and_self, ite_true, ite_false, not_true_eq_false, not_false_eq_true, or_true, true_or, or_false, false_or]; funext j; simp only [upd]; split <;> rfl), (by rw [vx_u_ne _ _ _ (by omega), vx_u_row, hf5]; exact pu_took_s1 h23 g33)⟩
            simp only [pu_gof, h14, g14, h23, h33, g33, if_true, if_false, reduceIte, Bool.false_eq_true, and_true, true_and, and_false, false_and, not_true, not_false_iff, and_self, ite_true, ite_false, not_true_eq_false, not_false_eq_true, or_true, true_or, or_false, false_or] at q
            have e4 : (vx_u S1 (d + 1) i (S1.1 (d + 1) i + S1.1 (d + 3) i)).1 d 4 = pu_work (S.1 (d + 3)) t i := by rw [vx_u_ne _ _ _ (by omega), hf4]; simp [upd]
            have e3 : (vx_u S1 (d + 1) i (S1.1 (d + 1) i + S1.1 (d + 3) i)).1 (d + 3) i = S.1 (d + 3) i := by rw [vx_u_ne _ _ _ (by omega), w3]
            rw [e4, e3, w3, hf5]
            exact q
  refine vv_iconst (v := (0)) C dX0_letWork_0 (by decide) ?_
  refine vv_istore (L' := [_, _, _, _, _]) C dX0_letWork_1 (by decide) rfl ?_
  refine vv_aload_n C dX0_letWork_3 rfl 1 rfl ?_
  refine vv_iconst (v := (0)) C dX0_letWork_4 (by decide) ?_
  refine vv_putI C (a := d) (k := 4) inlX0 tyX0 tyX0_ok nmX0 hd0 rfl rfl (by decide) rfl rfl rfl (tm_15 (List.mem_of_getElem? (i := 4) rfl)) dX0_letWork_5 ?_
  refine vv_iconst (v := (nI 0)) C dX0_letWork_8 (by decide) ?_
  refine vv_istore (L' := [_, _, _, _, _, _]) C dX0_letWork_9 (by decide) rfl ?_
  refine vv_sub (L' := [_, _, _, _, _, _]) [2, 3, 4, 5, 1, 0] rfl ?_
  refine lp11 (n + 1) 0 _ ⟨by omega, by omega, pu_chg_u (pu_chg_rf S _) _ _ (by simp), vx_u_row _ _ _ _, ?_⟩
  rw [vx_u_ne _ _ _ (by omega)]
  funext j
  simp [pu_took]
theorem yk_X0_passHour : vx_yV yX0_passHour cX0_passHour 5 (some .int) 1 := ⟨(tm_18 (List.mem_of_getElem? (i := 5) rfl)), (tm_1 (List.mem_of_getElem? (i := 23) rfl)), by decide +kernel, (tm_18 (List.mem_of_getElem? (i := 3) rfl)), (tm_18 (List.mem_of_getElem? (i := 4) rfl))⟩
set_option maxHeartbeats 4000000 in
set_option maxRecDepth 100000 in
theorem kk_X0_passHour (l : Launch) (g : vx_G) (S : vx_St) (d : Nat) (hd : d = 11 ∨ d = 20 ∨ d = 26) (n : Nat) (hn : S.1 3 0 = nI n) (hn8 : n ≤ 8) : vx_M l g yX0_passHour cX0_passHour 5 (some .int) (vx_R 3 70) [.ref (g.2.2.1 d), .ref (g.2.2.1 3)] S (vx_pi (fun r S' => r = pu_feet (pu_hs S) (S.1 10) (S.1 d 6) (S.1 d 1) (S.1 d 2) (S.1 d 5) (S.1 d 4) n ∧ pu_chg S S' [d, d + 1, d + 3] ∧ S'.1 d = pu_nx (pu_hs S) (S.1 10) (S.1 d) n ∧ S'.1 (d + 1) = pu_took (S.1 (d + 1)) (pu_W (pu_hs S) (S.1 d 2) (S.1 d 5) (S.1 d 4)) (pu_set2 (pu_hs S) (S.1 10) (S.1 d 6) (S.1 d 1) (S.1 d 2) (S.1 d 5) (S.1 d 4) n) n)) := by
  obtain ⟨hd0, hd1, hd2, hd3, hd4, hd5⟩ := pu_dsh hd
  refine vx_M.intro (by decide) (Nat.le_of_ble_eq_true rfl) ?_
  intro p e s m args below meth c C
  have lp25 : ∀ (fu : Nat) (k : Nat) (t : Int32) (S2 : vx_St), (k < fu ∧ k ≤ n ∧ pu_chg S S2 [d + 3] ∧ S2.1 (d + 3) = pu_fill (pu_W (pu_hs S) (S.1 d 2) (S.1 d 5) (S.1 d 4)) (S.1 (d + 3)) n ∧ pu_stop (pu_G (pu_hs S) (S.1 10) (S.1 d 6) (S.1 d 2) (S.1 d 5) (S.1 d 4) n) (pu_W (pu_hs S) (S.1 d 2) (S.1 d 5) (S.1 d 4)) (S.1 4) (S.1 d 1) k t = pu_set (pu_hs S) (S.1 10) (S.1 d 6) (S.1 d 1) (S.1 d 2) (S.1 d 5) (S.1 d 4) n) → vx_V p l e (vx_R 3 70) s m args below meth c (MQ below (vx_Q g (vx_pi (fun r S' => r = pu_feet (pu_hs S) (S.1 10) (S.1 d 6) (S.1 d 1) (S.1 d 2) (S.1 d 5) (S.1 d 4) n ∧ pu_chg S S' [d, d + 1, d + 3] ∧ S'.1 d = pu_nx (pu_hs S) (S.1 10) (S.1 d) n ∧ S'.1 (d + 1) = pu_took (S.1 (d + 1)) (pu_W (pu_hs S) (S.1 d 2) (S.1 d 5) (S.1 d 4)) (pu_set2 (pu_hs S) (S.1 10) (S.1 d 6) (S.1 d 1) (S.1 d 2) (S.1 d 5) (S.1 d 4) n) n))) args s 0 0 (vx_A g)) g 5 25 [(0, .ref (g.2.2.1 d)), (1, .ref (g.2.2.1 3)), (2, .int t), (3, .int (pu_G (pu_hs S) (S.1 10) (S.1 d 6) (S.1 d 2) (S.1 d 5) (S.1 d 4) n t)), (4, .int (nI k - 1))] [] (S2) := by
    intro fu
    induction fu with
    | zero =>
      intro k t S2 hfu
      exact absurd hfu.1 (by omega)
    | succ fu ih =>
      intro k t S2 hfu
      obtain ⟨hf1, hf2, hc, hw, hst⟩ := hfu
      have hn2 : S2.1 3 0 = nI n := by rw [hc.2 3 (by simp only [List.mem_cons, List.not_mem_nil, or_false, not_or]; omega)]; exact hn
      refine vv_iload C dX0_passHour_25 4 rfl ?_
      refine vv_if_lt (tgt := 81) C dX0_passHour_27 (by decide) (fun h27 => ?_) (fun h27 => ?_)
      · have g27 := pu_lt h27
        obtain rfl := pu_dT (by omega) h27
        have ht : t = pu_set (pu_hs S) (S.1 10) (S.1 d 6) (S.1 d 1) (S.1 d 2) (S.1 d 5) (S.1 d 4) n := hst
        refine vv_iload_n C dX0_passHour_81 rfl 3 rfl ?_
        refine vv_aload_n C dX0_passHour_82 rfl 0 rfl ?_
        refine vv_getI C (a := d) (k := 1) (o := 0) inlX0 hd0 rfl rfl (by decide) rfl (tm_3 (List.mem_of_getElem? (i := 3) rfl)) dX0_passHour_83 ?_
        refine vv_icmp_le (tgt := 101) C dX0_passHour_86 (by decide) (fun h86 => ?_) (fun h86 => ?_)
        · have g86 := pu_le h86
          rw [hc.2 d (by simp only [List.mem_cons, List.not_mem_nil, or_false, not_or]; omega)] at h86 g86
          refine vv_aload_n C dX0_passHour_101 rfl 0 rfl ?_
          refine vv_aload_n C dX0_passHour_102 rfl 1 rfl ?_
          refine vv_getIN C (a := 3) (k := 0) (o := 0) inlX1 rfl rfl rfl (by decide) rfl (List.mem_of_getElem? (i := 6) rfl) dX0_passHour_103 ?_
          have hrowd : S2.1 d = S.1 d := hc.2 d (by simp only [List.mem_cons, List.not_mem_nil, or_false, not_or]; omega)
          have hrow3 : S2.1 (d + 3) = pu_fill (pu_W (pu_hs S) (S.1 d 2) (S.1 d 5) (S.1 d 4)) (S.1 (d + 3)) n := hw
          have hrow1 : S2.1 (d + 1) = S.1 (d + 1) := hc.2 _ (by simp only [List.mem_cons, List.not_mem_nil, or_false, not_or]; omega)
          have hwj : ∀ j, j < n → pu_fill (pu_W (pu_hs S) (S.1 d 2) (S.1 d 5) (S.1 d 4)) (S.1 (d + 3)) n j = pu_W (pu_hs S) (S.1 d 2) (S.1 d 5) (S.1 d 4) j := fun j hj => pu_fill_in hj
          have hnx : S2.1 3 0 = nI n := by exact hn2
          rw [hnx]
          refine vv_iload_n C dX0_passHour_106 rfl 2 rfl ?_
          refine vv_iload_n C dX0_passHour_107 rfl 3 rfl ?_
          refine vv_cV_v C (a := d) (kk_X0_letWork l g _ _ hd _ _ n hn8) yk_X0_letWork (tm_18 (List.mem_of_getElem? (i := 8) rfl)) hd0 rfl rfl (by decide) rfl (Nat.le_of_ble_eq_true rfl) rfl dX0_passHour_108 (fun S108 h108 => ?_)
          refine vv_aload_n C dX0_passHour_111 rfl 0 rfl ?_
          refine vv_dup C dX0_passHour_112 rfl ?_
          refine vv_getI C (a := d) (k := 2) (o := 0) inlX0 hd0 rfl rfl (by decide) rfl (tm_11 (List.mem_of_getElem? (i := 12) rfl)) dX0_passHour_113 ?_
          refine vv_iconst (v := (1)) C dX0_passHour_116 (by decide) ?_
          refine vv_iadd C dX0_passHour_117 ?_
          refine vv_putI C (a := d) (k := 2) inlX0 tyX0 tyX0_ok nmX0 hd0 rfl rfl (by decide) rfl rfl rfl (tm_11 (List.mem_of_getElem? (i := 12) rfl)) dX0_passHour_118 ?_
          refine vv_iload_n C dX0_passHour_121 rfl 3 rfl ?_
          refine vv_jret C dX0_passHour_122 ?_
          obtain ⟨k1, k2, k3⟩ := h108
          have hdn : pu_dn (pu_hs S) (S.1 10) (S.1 d 6) (S.1 d 1) (S.1 d 2) (S.1 d 5) (S.1 d 4) n = false := by simp only [pu_dn]; rw [← ht]; simp [h27, g27, h86, g86]
          have hft : pu_feet (pu_hs S) (S.1 10) (S.1 d 6) (S.1 d 1) (S.1 d 2) (S.1 d 5) (S.1 d 4) n = pu_G (pu_hs S) (S.1 10) (S.1 d 6) (S.1 d 2) (S.1 d 5) (S.1 d 4) n t := by simp only [pu_feet, hdn, if_true, if_false, reduceIte, Bool.false_eq_true, and_true, true_and, and_false, false_and, not_true, not_false_iff, and_self, ite_true, ite_false, not_true_eq_false, not_false_eq_true, or_true, true_or, or_false, false_or]; rw [← ht]
          have hs2 : pu_set2 (pu_hs S) (S.1 10) (S.1 d 6) (S.1 d 1) (S.1 d 2) (S.1 d 5) (S.1 d 4) n = t := by simp only [pu_set2, hdn, if_true, if_false, reduceIte, Bool.false_eq_true, and_true, true_and, and_false, false_and, not_true, not_false_iff, and_self, ite_true, ite_false, not_true_eq_false, not_false_eq_true, or_true, true_or, or_false, false_or]; exact ht.symm
          refine ⟨hft.symm, ?_, ?_, ?_⟩
          · exact pu_chg_u (pu_chg_tr (c1 := [d, d + 1]) (pu_chg_tr (pu_chg_rf S _) hc (by simp)) k1 (by simp)) _ _ (by simp)
          · rw [vx_u_row, k2, hrow3, hrowd]
            simp only [pu_nx, hdn, hft, hs2, if_true, if_false, reduceIte, Bool.false_eq_true, and_true, true_and, and_false, false_and, not_true, not_false_iff, and_self, ite_true, ite_false, not_true_eq_false, not_false_eq_true, or_true, true_or, or_false, false_or]
            rw [pu_let_c _ _ _ n hwj]
            simp [pu_let, upd]
          · rw [vx_u_ne _ _ _ (by omega), k3, hrow3, hrow1, hs2]
            exact pu_took_c _ _ _ hwj
        · have g86 := pu_nle h86
          rw [hc.2 d (by simp only [List.mem_cons, List.not_mem_nil, or_false, not_or]; omega)] at h86 g86
          refine vv_aload_n C dX0_passHour_89 rfl 0 rfl ?_
          refine vv_iconst (v := (1)) C dX0_passHour_90 (by decide) ?_
          refine vv_putZ C (a := d) (k := 7) inlX0 tyX0 tyX0_ok nmX0 hd0 rfl rfl (by decide) rfl rfl rfl rfl (tm_18 (List.mem_of_getElem? (i := 2) rfl)) dX0_passHour_91 ?_
          refine vv_aload_n C dX0_passHour_94 rfl 0 rfl ?_
          refine vv_getI C (a := d) (k := 1) (o := 0) inlX0 hd0 rfl rfl (by decide) rfl (tm_3 (List.mem_of_getElem? (i := 3) rfl)) dX0_passHour_95 ?_
          refine vv_istore_n (i := 3) (L' := [_, _, _, _, _]) C dX0_passHour_98 rfl (by decide) rfl ?_
          refine vv_iconst (v := (0)) C dX0_passHour_99 (by decide) ?_
          refine vv_istore_n (i := 2) (L' := [_, _, _, _, _]) C dX0_passHour_100 rfl (by decide) rfl ?_
          refine vv_aload_n C dX0_passHour_101 rfl 2 rfl ?_
          refine vv_aload_n C dX0_passHour_102 rfl 3 rfl ?_
          refine vv_getIN C (a := 3) (k := 0) (o := 0) inlX1 rfl rfl rfl (by decide) rfl (List.mem_of_getElem? (i := 6) rfl) dX0_passHour_103 ?_
          have hrowd : (vx_u S2 d 7 1).1 d = upd (S.1 d) 7 1 := by rw [vx_u_row, hc.2 d (by simp only [List.mem_cons, List.not_mem_nil, or_false, not_or]; omega)]
          have hrow3 : (vx_u S2 d 7 1).1 (d + 3) = pu_fill (pu_W (pu_hs S) (S.1 d 2) (S.1 d 5) (S.1 d 4)) (S.1 (d + 3)) n := by rw [vx_u_ne _ _ _ (by omega)]; exact hw
          have hrow1 : (vx_u S2 d 7 1).1 (d + 1) = S.1 (d + 1) := by rw [vx_u_ne _ _ _ (by omega)]; exact hc.2 _ (by simp only [List.mem_cons, List.not_mem_nil, or_false, not_or]; omega)
          have hwj : ∀ j, j < n → pu_fill (pu_W (pu_hs S) (S.1 d 2) (S.1 d 5) (S.1 d 4)) (S.1 (d + 3)) n j = pu_W (pu_hs S) (S.1 d 2) (S.1 d 5) (S.1 d 4) j := fun j hj => pu_fill_in hj
          have hnx : (vx_u S2 d 7 1).1 3 0 = nI n := by rw [vx_u_ne _ _ _ (by omega)]; exact hn2
          rw [hnx]
          have hfe : (vx_u S2 d 7 1).1 d 1 = S.1 d 1 := by rw [hrowd]; simp [upd]
          rw [hfe]
          refine vv_iload_n C dX0_passHour_106 rfl 0 rfl ?_
          refine vv_iload_n C dX0_passHour_107 rfl 1 rfl ?_
          refine vv_cV_v C (a := d) (kk_X0_letWork l g _ _ hd _ _ n hn8) yk_X0_letWork (tm_18 (List.mem_of_getElem? (i := 8) rfl)) hd0 rfl rfl (by decide) rfl (Nat.le_of_ble_eq_true rfl) rfl dX0_passHour_108 (fun S108 h108 => ?_)
          refine vv_aload_n C dX0_passHour_111 rfl 2 rfl ?_
          refine vv_dup C dX0_passHour_112 rfl ?_
          refine vv_getI C (a := d) (k := 2) (o := 0) inlX0 hd0 rfl rfl (by decide) rfl (tm_11 (List.mem_of_getElem? (i := 12) rfl)) dX0_passHour_113 ?_
          refine vv_iconst (v := (1)) C dX0_passHour_116 (by decide) ?_
          refine vv_iadd C dX0_passHour_117 ?_
          refine vv_putI C (a := d) (k := 2) inlX0 tyX0 tyX0_ok nmX0 hd0 rfl rfl (by decide) rfl rfl rfl (tm_11 (List.mem_of_getElem? (i := 12) rfl)) dX0_passHour_118 ?_
          refine vv_iload_n C dX0_passHour_121 rfl 1 rfl ?_
          refine vv_jret C dX0_passHour_122 ?_
          obtain ⟨k1, k2, k3⟩ := h108
          have hdn : pu_dn (pu_hs S) (S.1 10) (S.1 d 6) (S.1 d 1) (S.1 d 2) (S.1 d 5) (S.1 d 4) n = true := by simp only [pu_dn]; rw [← ht]; simp [h27, g27, h86, g86]
          have hft : pu_feet (pu_hs S) (S.1 10) (S.1 d 6) (S.1 d 1) (S.1 d 2) (S.1 d 5) (S.1 d 4) n = S.1 d 1 := by simp only [pu_feet, hdn, if_true, if_false, reduceIte, Bool.false_eq_true, and_true, true_and, and_false, false_and, not_true, not_false_iff, and_self, ite_true, ite_false, not_true_eq_false, not_false_eq_true, or_true, true_or, or_false, false_or]
          have hs2 : pu_set2 (pu_hs S) (S.1 10) (S.1 d 6) (S.1 d 1) (S.1 d 2) (S.1 d 5) (S.1 d 4) n = 0 := by simp only [pu_set2, hdn, if_true, if_false, reduceIte, Bool.false_eq_true, and_true, true_and, and_false, false_and, not_true, not_false_iff, and_self, ite_true, ite_false, not_true_eq_false, not_false_eq_true, or_true, true_or, or_false, false_or]
          refine ⟨hft.symm, ?_, ?_, ?_⟩
          · exact pu_chg_u (pu_chg_tr (c1 := [d, d + 1]) (pu_chg_u (pu_chg_tr (pu_chg_rf S _) hc (by simp)) _ _ (by simp)) k1 (by simp)) _ _ (by simp)
          · rw [vx_u_row, k2, hrow3, hrowd]
            simp only [pu_nx, hdn, hft, hs2, if_true, if_false, reduceIte, Bool.false_eq_true, and_true, true_and, and_false, false_and, not_true, not_false_iff, and_self, ite_true, ite_false, not_true_eq_false, not_false_eq_true, or_true, true_or, or_false, false_or]
            rw [pu_let_c _ _ _ n hwj]
            simp [pu_let, upd]
          · rw [vx_u_ne _ _ _ (by omega), k3, hrow3, hrow1, hs2]
            exact pu_took_c _ _ _ hwj
      · have g27 := pu_nlt h27
        obtain ⟨j, rfl⟩ := pu_dF h27
        rw [nI_pred]
        refine vv_iload_n C dX0_passHour_30 rfl 3 rfl ?_
        refine vv_aload_n C dX0_passHour_31 rfl 0 rfl ?_
        refine vv_getI C (a := d) (k := 1) (o := 0) inlX0 hd0 rfl rfl (by decide) rfl (tm_3 (List.mem_of_getElem? (i := 3) rfl)) dX0_passHour_32 ?_
        refine vv_icmp_le (tgt := 81) C dX0_passHour_35 (by decide) (fun h35 => ?_) (fun h35 => ?_)
        · have g35 := pu_le h35
          rw [hc.2 d (by simp only [List.mem_cons, List.not_mem_nil, or_false, not_or]; omega)] at h35 g35
          have ht : t = pu_set (pu_hs S) (S.1 10) (S.1 d 6) (S.1 d 1) (S.1 d 2) (S.1 d 5) (S.1 d 4) n := by rw [← hst, pu_stop, if_pos h35]
          refine vv_iload_n C dX0_passHour_81 rfl 3 rfl ?_
          refine vv_aload_n C dX0_passHour_82 rfl 0 rfl ?_
          refine vv_getI C (a := d) (k := 1) (o := 0) inlX0 hd0 rfl rfl (by decide) rfl (tm_3 (List.mem_of_getElem? (i := 3) rfl)) dX0_passHour_83 ?_
          refine vv_icmp_le (tgt := 101) C dX0_passHour_86 (by decide) (fun h86 => ?_) (fun h86 => ?_)
          · have g86 := pu_le h86
            rw [hc.2 d (by simp only [List.mem_cons, List.not_mem_nil, or_false, not_or]; omega)] at h86 g86
            refine vv_aload_n C dX0_passHour_101 rfl 0 rfl ?_
            refine vv_aload_n C dX0_passHour_102 rfl 1 rfl ?_
            refine vv_getIN C (a := 3) (k := 0) (o := 0) inlX1 rfl rfl rfl (by decide) rfl (List.mem_of_getElem? (i := 6) rfl) dX0_passHour_103 ?_
            have hrowd : S2.1 d = S.1 d := hc.2 d (by simp only [List.mem_cons, List.not_mem_nil, or_false, not_or]; omega)
            have hrow3 : S2.1 (d + 3) = pu_fill (pu_W (pu_hs S) (S.1 d 2) (S.1 d 5) (S.1 d 4)) (S.1 (d + 3)) n := hw
            have hrow1 : S2.1 (d + 1) = S.1 (d + 1) := hc.2 _ (by simp only [List.mem_cons, List.not_mem_nil, or_false, not_or]; omega)
            have hwj : ∀ j, j < n → pu_fill (pu_W (pu_hs S) (S.1 d 2) (S.1 d 5) (S.1 d 4)) (S.1 (d + 3)) n j = pu_W (pu_hs S) (S.1 d 2) (S.1 d 5) (S.1 d 4) j := fun j hj => pu_fill_in hj
            have hnx : S2.1 3 0 = nI n := by exact hn2
            rw [hnx]
            refine vv_iload_n C dX0_passHour_106 rfl 2 rfl ?_
            refine vv_iload_n C dX0_passHour_107 rfl 3 rfl ?_
            refine vv_cV_v C (a := d) (kk_X0_letWork l g _ _ hd _ _ n hn8) yk_X0_letWork (tm_18 (List.mem_of_getElem? (i := 8) rfl)) hd0 rfl rfl (by decide) rfl (Nat.le_of_ble_eq_true rfl) rfl dX0_passHour_108 (fun S108 h108 => ?_)
            refine vv_aload_n C dX0_passHour_111 rfl 0 rfl ?_
            refine vv_dup C dX0_passHour_112 rfl ?_
            refine vv_getI C (a := d) (k := 2) (o := 0) inlX0 hd0 rfl rfl (by decide) rfl (tm_11 (List.mem_of_getElem? (i := 12) rfl)) dX0_passHour_113 ?_
            refine vv_iconst (v := (1)) C dX0_passHour_116 (by decide) ?_
            refine vv_iadd C dX0_passHour_117 ?_
            refine vv_putI C (a := d) (k := 2) inlX0 tyX0 tyX0_ok nmX0 hd0 rfl rfl (by decide) rfl rfl rfl (tm_11 (List.mem_of_getElem? (i := 12) rfl)) dX0_passHour_118 ?_
            refine vv_iload_n C dX0_passHour_121 rfl 3 rfl ?_
            refine vv_jret C dX0_passHour_122 ?_
            obtain ⟨k1, k2, k3⟩ := h108
            have hdn : pu_dn (pu_hs S) (S.1 10) (S.1 d 6) (S.1 d 1) (S.1 d 2) (S.1 d 5) (S.1 d 4) n = false := by simp only [pu_dn]; rw [← ht]; simp [h27, g27, h35, g35, h86, g86]
            have hft : pu_feet (pu_hs S) (S.1 10) (S.1 d 6) (S.1 d 1) (S.1 d 2) (S.1 d 5) (S.1 d 4) n = pu_G (pu_hs S) (S.1 10) (S.1 d 6) (S.1 d 2) (S.1 d 5) (S.1 d 4) n t := by simp only [pu_feet, hdn, if_true, if_false, reduceIte, Bool.false_eq_true, and_true, true_and, and_false, false_and, not_true, not_false_iff, and_self, ite_true, ite_false, not_true_eq_false, not_false_eq_true, or_true, true_or, or_false, false_or]; rw [← ht]
            have hs2 : pu_set2 (pu_hs S) (S.1 10) (S.1 d 6) (S.1 d 1) (S.1 d 2) (S.1 d 5) (S.1 d 4) n = t := by simp only [pu_set2, hdn, if_true, if_false, reduceIte, Bool.false_eq_true, and_true, true_and, and_false, false_and, not_true, not_false_iff, and_self, ite_true, ite_false, not_true_eq_false, not_false_eq_true, or_true, true_or, or_false, false_or]; exact ht.symm
            refine ⟨hft.symm, ?_, ?_, ?_⟩
            · exact pu_chg_u (pu_chg_tr (c1 := [d, d + 1]) (pu_chg_tr (pu_chg_rf S _) hc (by simp)) k1 (by simp)) _ _ (by simp)
            · rw [vx_u_row, k2, hrow3, hrowd]
              simp only [pu_nx, hdn, hft, hs2, if_true, if_false, reduceIte, Bool.false_eq_true, and_true, true_and, and_false, false_and, not_true, not_false_iff, and_self, ite_true, ite_false, not_true_eq_false, not_false_eq_true, or_true, true_or, or_false, false_or]
              rw [pu_let_c _ _ _ n hwj]
              simp [pu_let, upd]
            · rw [vx_u_ne _ _ _ (by omega), k3, hrow3, hrow1, hs2]
              exact pu_took_c _ _ _ hwj
          · rw [hc.2 d (by simp only [List.mem_cons, List.not_mem_nil, or_false, not_or]; omega)] at h86
            exact absurd h35 h86
        · have g35 := pu_nle h35
          rw [hc.2 d (by simp only [List.mem_cons, List.not_mem_nil, or_false, not_or]; omega)] at h35 g35
          refine vv_aload_n C dX0_passHour_38 rfl 0 rfl ?_
          refine vv_gR C (a := d) (k := 11) (b := d + 3) inlX0 hd0 rfl rfl rfl (by decide) rfl (tm_3 (List.mem_of_getElem? (i := 6) rfl)) dX0_passHour_39 ?_
          refine vv_iload C dX0_passHour_42 4 rfl ?_
          refine vv_ialdN C (a := d + 3) hd3 (by omega) (by decide) dX0_passHour_44 ?_
          refine vv_if_le (tgt := 75) C dX0_passHour_45 (by decide) (fun h45 => ?_) (fun h45 => ?_)
          · have g45 := pu_le h45
            rw [hw, pu_fill_in (by omega)] at h45 g45
            refine vv_iinc (L' := [_, _, _, _, _]) (j := 4) (v := (nI j - 1)) C dX0_passHour_75 rfl (pu_m1 _) (by decide) rfl ?_
            refine vv_goto (tgt := 25) C dX0_passHour_78 (by decide) ?_
            refine vv_sub (L' := [_, _, _, _, _]) [1, 2, 3, 4, 0] rfl ?_
            refine ih j _ S2 ⟨by omega, by omega, hc, hw, ?_⟩
            rw [← hst, pu_stop, if_neg h35, if_neg (fun q => g45 q.1)]
          · have g45 := pu_nle h45
            rw [hw, pu_fill_in (by omega)] at h45 g45
            refine vv_aload_n C dX0_passHour_48 rfl 1 rfl ?_
            refine vv_iload C dX0_passHour_49 4 rfl ?_
            refine vv_iconst (v := (1)) C dX0_passHour_51 (by decide) ?_
            refine vv_cVN_F C (a := 3) (kk_X1_isA l g _ _ (by omega) _) yk_X1_isA (List.mem_of_getElem? (i := 45) rfl) rfl rfl rfl (by decide) rfl (Nat.le_of_ble_eq_true rfl) rfl dX0_passHour_52 ?_
            refine vv_ifb_ne (tgt := 75) C dX0_passHour_55 (by decide) (fun h55 => ?_) (fun h55 => ?_)
            · refine vv_iinc (L' := [_, _, _, _, _]) (j := 4) (v := (nI j - 1)) C dX0_passHour_75 rfl (pu_m1 _) (by decide) rfl ?_
              refine vv_goto (tgt := 25) C dX0_passHour_78 (by decide) ?_
              refine vv_sub (L' := [_, _, _, _, _]) [1, 2, 3, 4, 0] rfl ?_
              refine ih j _ S2 ⟨by omega, by omega, hc, hw, ?_⟩
              rw [← hst, pu_stop, if_neg h35, if_neg (fun q => absurd (by simpa [pu_isA_1, hc.2 4 (by simp only [List.mem_cons, List.not_mem_nil, or_false, not_or]; omega)] using h55) q.2)]
            · refine vv_iload_n C dX0_passHour_58 rfl 2 rfl ?_
              refine vv_iload C dX0_passHour_59 4 rfl ?_
              refine vv_cSN_F C (kk_X4_bit l g _ _) yk_X4_bit (List.mem_of_getElem? (i := 54) rfl) (by decide) rfl (Nat.le_of_ble_eq_true rfl) rfl dX0_passHour_61 ?_
              refine vv_iconst (v := (-1)) C dX0_passHour_64 (by decide) ?_
              refine vv_ixor C dX0_passHour_65 ?_
              refine vv_iand C dX0_passHour_66 ?_
              refine vv_istore_n (i := 2) (L' := [_, _, _, _, _]) C dX0_passHour_67 rfl (by decide) rfl ?_
              refine vv_aload_n C dX0_passHour_68 rfl 1 rfl ?_
              refine vv_aload_n C dX0_passHour_69 rfl 2 rfl ?_
              refine vv_iload_n C dX0_passHour_70 rfl 0 rfl ?_
              refine vv_cV_F C (a := d) (kk_X0_goesBy l g _ _ hd0 hd3 _ n hn2 hn8) yk_X0_goesBy (tm_18 (List.mem_of_getElem? (i := 7) rfl)) hd0 rfl rfl (by decide) rfl (Nat.le_of_ble_eq_true rfl) rfl dX0_passHour_71 ?_
              rw [pu_Gof hd hc hw]
              refine vv_istore_n (i := 3) (L' := [_, _, _, _, _]) C dX0_passHour_74 rfl (by decide) rfl ?_
              refine vv_iinc (L' := [_, _, _, _, _]) (j := 4) (v := (nI j - 1)) C dX0_passHour_75 rfl (pu_m1 _) (by decide) rfl ?_
              refine vv_goto (tgt := 25) C dX0_passHour_78 (by decide) ?_
              refine vv_sub (L' := [_, _, _, _, _]) [3, 4, 2, 1, 0] rfl ?_
              refine ih j _ S2 ⟨by omega, by omega, hc, hw, ?_⟩
              rw [← hst, pu_stop, if_neg h35, if_pos ⟨g45, by simpa [pu_isA_1, hc.2 4 (by simp only [List.mem_cons, List.not_mem_nil, or_false, not_or]; omega)] using h55⟩]
  refine vv_aload_n C dX0_passHour_0 rfl 0 rfl ?_
  refine vv_aload_n C dX0_passHour_1 rfl 1 rfl ?_
  refine vv_cV_v C (a := d) (kk_X0_tellWanted l g _ _ hd n hn hn8) yk_X0_tellWanted (tm_18 (List.mem_of_getElem? (i := 6) rfl)) hd0 rfl rfl (by decide) rfl (Nat.le_of_ble_eq_true rfl) rfl dX0_passHour_2 (fun S2 h2 => ?_)
  obtain ⟨hc, hw⟩ := h2
  have hn2 : S2.1 3 0 = nI n := by rw [hc.2 3 (by simp only [List.mem_cons, List.not_mem_nil, or_false, not_or]; omega)]; exact hn
  refine vv_aload_n C dX0_passHour_5 rfl 1 rfl ?_
  refine vv_cVN_F C (a := 3) (kk_X1_all l g _) yk_X1_all (List.mem_of_getElem? (i := 53) rfl) rfl rfl rfl (by decide) rfl (Nat.le_of_ble_eq_true rfl) rfl dX0_passHour_6 ?_
  refine vv_istore_n (i := 2) (L' := [_, _, _]) C dX0_passHour_9 rfl (by decide) rfl ?_
  refine vv_aload_n C dX0_passHour_10 rfl 1 rfl ?_
  refine vv_aload_n C dX0_passHour_11 rfl 2 rfl ?_
  refine vv_iload_n C dX0_passHour_12 rfl 0 rfl ?_
  refine vv_cV_F C (a := d) (kk_X0_goesBy l g _ _ hd0 hd3 _ n hn2 hn8) yk_X0_goesBy (tm_18 (List.mem_of_getElem? (i := 7) rfl)) hd0 rfl rfl (by decide) rfl (Nat.le_of_ble_eq_true rfl) rfl dX0_passHour_13 ?_
  rw [pu_Gof hd hc hw, hn2]
  refine vv_istore_n (i := 3) (L' := [_, _, _, _]) C dX0_passHour_16 rfl (by decide) rfl ?_
  refine vv_aload_n C dX0_passHour_17 rfl 3 rfl ?_
  refine vv_getIN C (a := 3) (k := 0) (o := 0) inlX1 rfl rfl rfl (by decide) rfl (List.mem_of_getElem? (i := 6) rfl) dX0_passHour_18 ?_
  rw [hn2]
  refine vv_iconst (v := (1)) C dX0_passHour_21 (by decide) ?_
  refine vv_isub C dX0_passHour_22 ?_
  refine vv_istore (L' := [_, _, _, _, _]) C dX0_passHour_23 (by decide) rfl ?_
  refine vv_sub (L' := [_, _, _, _, _]) [3, 4, 2, 1, 0] rfl ?_
  exact lp25 (n + 1) n _ S2 ⟨by omega, by omega, hc, hw, rfl⟩
theorem yk_X0_copyFrom : vx_yV yX0_copyFrom cX0_copyFrom 2 none 1 := ⟨(tm_21 (List.mem_of_getElem? (i := 18) rfl)), (tm_1 (List.mem_of_getElem? (i := 23) rfl)), by decide +kernel, (tm_21 (List.mem_of_getElem? (i := 16) rfl)), (tm_21 (List.mem_of_getElem? (i := 17) rfl))⟩
set_option maxHeartbeats 4000000 in
set_option maxRecDepth 100000 in
theorem kk_X0_copyFrom (l : Launch) (g : vx_G) (S : vx_St) (d : Nat) (hd : d = 11 ∨ d = 20 ∨ d = 26) (o : Nat) (ho : o = 11 ∨ o = 20 ∨ o = 26) (hne : d ≠ o) (hb6 : vx_b01 (S.1 o 6) = S.1 o 6) (hb7 : vx_b01 (S.1 o 7) = S.1 o 7) : vx_M l g yX0_copyFrom cX0_copyFrom 2 none (vx_R 1 40) [.ref (g.2.2.1 d), .ref (g.2.2.1 o)] S (vx_pv (fun S' => pu_chg S S' [d, d + 1, d + 2] ∧ (∀ k, k < 9 → S'.1 d k = S.1 o k) ∧ (∀ k, k < 8 → S'.1 (d + 1) k = S.1 (o + 1) k) ∧ (∀ k, k < 8 → S'.1 (d + 2) k = S.1 (o + 2) k))) := by
  obtain ⟨hd0, hd1, hd2, hd3, hd4, hd5⟩ := pu_dsh hd
  obtain ⟨ho0, ho1, ho2, ho3, ho4, ho5⟩ := pu_dsh ho
  refine vx_M.intro (by decide) (Nat.le_of_ble_eq_true rfl) ?_
  intro p e s m args below meth c C
  refine vv_aload_n C dX0_copyFrom_0 rfl 0 rfl ?_
  refine vv_aload_n C dX0_copyFrom_1 rfl 1 rfl ?_
  refine vv_getI C (a := o) (k := 0) (o := 0) inlX0 ho0 rfl rfl (by decide) rfl (tm_3 (List.mem_of_getElem? (i := 2) rfl)) dX0_copyFrom_2 ?_
  refine vv_putI C (a := d) (k := 0) inlX0 tyX0 tyX0_ok nmX0 hd0 rfl rfl (by decide) rfl rfl rfl (tm_3 (List.mem_of_getElem? (i := 2) rfl)) dX0_copyFrom_5 ?_
  refine vv_aload_n C dX0_copyFrom_8 rfl 0 rfl ?_
  refine vv_aload_n C dX0_copyFrom_9 rfl 1 rfl ?_
  refine vv_getI C (a := o) (k := 1) (o := 0) inlX0 ho0 rfl rfl (by decide) rfl (tm_3 (List.mem_of_getElem? (i := 3) rfl)) dX0_copyFrom_10 ?_
  refine vv_putI C (a := d) (k := 1) inlX0 tyX0 tyX0_ok nmX0 hd0 rfl rfl (by decide) rfl rfl rfl (tm_3 (List.mem_of_getElem? (i := 3) rfl)) dX0_copyFrom_13 ?_
  refine vv_aload_n C dX0_copyFrom_16 rfl 0 rfl ?_
  refine vv_aload_n C dX0_copyFrom_17 rfl 1 rfl ?_
  refine vv_getI C (a := o) (k := 2) (o := 0) inlX0 ho0 rfl rfl (by decide) rfl (tm_11 (List.mem_of_getElem? (i := 12) rfl)) dX0_copyFrom_18 ?_
  refine vv_putI C (a := d) (k := 2) inlX0 tyX0 tyX0_ok nmX0 hd0 rfl rfl (by decide) rfl rfl rfl (tm_11 (List.mem_of_getElem? (i := 12) rfl)) dX0_copyFrom_21 ?_
  refine vv_aload_n C dX0_copyFrom_24 rfl 0 rfl ?_
  refine vv_aload_n C dX0_copyFrom_25 rfl 1 rfl ?_
  refine vv_getI C (a := o) (k := 3) (o := 0) inlX0 ho0 rfl rfl (by decide) rfl (tm_18 (List.mem_of_getElem? (i := 13) rfl)) dX0_copyFrom_26 ?_
  refine vv_putI C (a := d) (k := 3) inlX0 tyX0 tyX0_ok nmX0 hd0 rfl rfl (by decide) rfl rfl rfl (tm_18 (List.mem_of_getElem? (i := 13) rfl)) dX0_copyFrom_29 ?_
  refine vv_aload_n C dX0_copyFrom_32 rfl 0 rfl ?_
  refine vv_aload_n C dX0_copyFrom_33 rfl 1 rfl ?_
  refine vv_getI C (a := o) (k := 4) (o := 0) inlX0 ho0 rfl rfl (by decide) rfl (tm_15 (List.mem_of_getElem? (i := 4) rfl)) dX0_copyFrom_34 ?_
  refine vv_putI C (a := d) (k := 4) inlX0 tyX0 tyX0_ok nmX0 hd0 rfl rfl (by decide) rfl rfl rfl (tm_15 (List.mem_of_getElem? (i := 4) rfl)) dX0_copyFrom_37 ?_
  refine vv_aload_n C dX0_copyFrom_40 rfl 0 rfl ?_
  refine vv_aload_n C dX0_copyFrom_41 rfl 1 rfl ?_
  refine vv_getI C (a := o) (k := 5) (o := 0) inlX0 ho0 rfl rfl (by decide) rfl (tm_15 (List.mem_of_getElem? (i := 3) rfl)) dX0_copyFrom_42 ?_
  refine vv_putI C (a := d) (k := 5) inlX0 tyX0 tyX0_ok nmX0 hd0 rfl rfl (by decide) rfl rfl rfl (tm_15 (List.mem_of_getElem? (i := 3) rfl)) dX0_copyFrom_45 ?_
  refine vv_aload_n C dX0_copyFrom_48 rfl 0 rfl ?_
  refine vv_aload_n C dX0_copyFrom_49 rfl 1 rfl ?_
  refine vv_getZ C (a := o) (k := 6) (o := 0) inlX0 ho0 rfl rfl (by decide) rfl (tm_16 (List.mem_of_getElem? (i := 15) rfl)) dX0_copyFrom_50 ?_
  refine vv_putZ C (a := d) (k := 6) inlX0 tyX0 tyX0_ok nmX0 hd0 rfl rfl (by decide) rfl rfl rfl (vx_b_b _) (tm_16 (List.mem_of_getElem? (i := 15) rfl)) dX0_copyFrom_53 ?_
  refine vv_aload_n C dX0_copyFrom_56 rfl 0 rfl ?_
  refine vv_aload_n C dX0_copyFrom_57 rfl 1 rfl ?_
  refine vv_getZ C (a := o) (k := 7) (o := 0) inlX0 ho0 rfl rfl (by decide) rfl (tm_18 (List.mem_of_getElem? (i := 2) rfl)) dX0_copyFrom_58 ?_
  refine vv_putZ C (a := d) (k := 7) inlX0 tyX0 tyX0_ok nmX0 hd0 rfl rfl (by decide) rfl rfl rfl (vx_b_b _) (tm_18 (List.mem_of_getElem? (i := 2) rfl)) dX0_copyFrom_61 ?_
  refine vv_aload_n C dX0_copyFrom_64 rfl 0 rfl ?_
  refine vv_aload_n C dX0_copyFrom_65 rfl 1 rfl ?_
  refine vv_getI C (a := o) (k := 8) (o := 0) inlX0 ho0 rfl rfl (by decide) rfl (tm_18 (List.mem_of_getElem? (i := 12) rfl)) dX0_copyFrom_66 ?_
  refine vv_putI C (a := d) (k := 8) inlX0 tyX0 tyX0_ok nmX0 hd0 rfl rfl (by decide) rfl rfl rfl (tm_18 (List.mem_of_getElem? (i := 12) rfl)) dX0_copyFrom_69 ?_
  refine vv_aload_n C dX0_copyFrom_72 rfl 1 rfl ?_
  refine vv_gR C (a := o) (k := 9) (b := o + 1) inlX0 ho0 rfl rfl rfl (by decide) rfl (tm_3 (List.mem_of_getElem? (i := 4) rfl)) dX0_copyFrom_73 ?_
  refine vv_iconst (v := (0)) C dX0_copyFrom_76 (by decide) ?_
  refine vv_aload_n C dX0_copyFrom_77 rfl 0 rfl ?_
  refine vv_gR C (a := d) (k := 9) (b := d + 1) inlX0 hd0 rfl rfl rfl (by decide) rfl (tm_3 (List.mem_of_getElem? (i := 4) rfl)) dX0_copyFrom_78 ?_
  refine vv_iconst (v := (0)) C dX0_copyFrom_81 (by decide) ?_
  refine vv_bipush (v := (8)) C dX0_copyFrom_82 (by decide) ?_
  refine vv_copy C (tm_21 (List.mem_of_getElem? (i := 19) rfl)) (tm_21 (List.mem_of_getElem? (i := 20) rfl)) (tm_21 (List.mem_of_getElem? (i := 21) rfl)) (tm_21 (List.mem_of_getElem? (i := 22) rfl)) ho1 hd1 (by decide) (by decide) dX0_copyFrom_84 ?_
  refine vv_aload_n C dX0_copyFrom_87 rfl 1 rfl ?_
  refine vv_gR C (a := o) (k := 10) (b := o + 2) inlX0 ho0 rfl rfl rfl (by decide) rfl (tm_3 (List.mem_of_getElem? (i := 5) rfl)) dX0_copyFrom_88 ?_
  refine vv_iconst (v := (0)) C dX0_copyFrom_91 (by decide) ?_
  refine vv_aload_n C dX0_copyFrom_92 rfl 0 rfl ?_
  refine vv_gR C (a := d) (k := 10) (b := d + 2) inlX0 hd0 rfl rfl rfl (by decide) rfl (tm_3 (List.mem_of_getElem? (i := 5) rfl)) dX0_copyFrom_93 ?_
  refine vv_iconst (v := (0)) C dX0_copyFrom_96 (by decide) ?_
  refine vv_bipush (v := (8)) C dX0_copyFrom_97 (by decide) ?_
  refine vv_copy C (tm_21 (List.mem_of_getElem? (i := 19) rfl)) (tm_21 (List.mem_of_getElem? (i := 20) rfl)) (tm_21 (List.mem_of_getElem? (i := 21) rfl)) (tm_21 (List.mem_of_getElem? (i := 22) rfl)) ho2 hd2 (by decide) (by decide) dX0_copyFrom_99 ?_
  refine vv_nret C dX0_copyFrom_102 ?_
  refine ⟨?_, ?_, ?_, ?_⟩
  · refine pu_chg_ur (pu_chg_ur ?_ _ (by simp)) _ (by simp)
    iterate 9 refine pu_chg_u ?_ _ _ (by simp)
    exact pu_chg_rf S _
  · intro k hk
    rw [vx_ur_ne _ _ (by omega), vx_ur_ne _ _ (by omega)]
    simp only [vx_u_ne _ _ _ (show o ≠ d by omega), vx_u_row, hb6, hb7]
    simp only [upd]
    rcases (show k = 0 ∨ k = 1 ∨ k = 2 ∨ k = 3 ∨ k = 4 ∨ k = 5 ∨ k = 6 ∨ k = 7 ∨ k = 8 by omega) with rfl | rfl | rfl | rfl | rfl | rfl | rfl | rfl | rfl <;> simp
  · intro k hk
    rw [vx_ur_ne _ _ (by omega), vx_ur_eq]
    simp only [va_cpy, Nat.zero_le, Nat.zero_add, true_and, if_pos hk, Nat.sub_zero]
    simp only [vx_u_ne _ _ _ (show o + 1 ≠ d by omega)]
  · intro k hk
    rw [vx_ur_eq]
    simp only [va_cpy, Nat.zero_le, Nat.zero_add, true_and, if_pos hk, Nat.sub_zero]
    simp only [vx_ur_ne _ _ (show o + 2 ≠ d + 1 by omega), vx_u_ne _ _ _ (show o + 2 ≠ d by omega)]
theorem pu_rsh {r : Nat} (hr : r = 17 ∨ r = 32) : vx_SH[r]? = some vx_sRd ∧ vx_SH[r + 1]? = some vx_sA ∧ vx_SH[r + 2]? = some vx_sA := by
  rcases hr with rfl | rfl <;> exact ⟨rfl, rfl, rfl⟩
theorem yk_X3_copyFrom : vx_yV yX3_copyFrom cX3_copyFrom 2 none 1 := ⟨(tm_29 (List.mem_of_getElem? (i := 7) rfl)), (tm_2 (List.mem_of_getElem? (i := 3) rfl)), by decide +kernel, (tm_29 (List.mem_of_getElem? (i := 5) rfl)), (tm_29 (List.mem_of_getElem? (i := 6) rfl))⟩
set_option maxHeartbeats 4000000 in
set_option maxRecDepth 100000 in
theorem kk_X3_copyFrom (l : Launch) (g : vx_G) (S : vx_St) (r : Nat) (hr : r = 17 ∨ r = 32) (w : Nat) (hw : w = 17 ∨ w = 32) (hne : r ≠ w) : vx_M l g yX3_copyFrom cX3_copyFrom 2 none (vx_R 1 40) [.ref (g.2.2.1 r), .ref (g.2.2.1 w)] S (vx_pv (fun S' => pu_chg S S' [r, r + 1, r + 2] ∧ S'.1 r 0 = S.1 w 0 ∧ (∀ k, k < 8 → S'.1 (r + 1) k = S.1 (w + 1) k) ∧ (∀ k, k < 8 → S'.1 (r + 2) k = S.1 (w + 2) k))) := by
  obtain ⟨hr0, hr1, hr2⟩ := pu_rsh hr
  obtain ⟨hw0, hw1, hw2⟩ := pu_rsh hw
  refine vx_M.intro (by decide) (Nat.le_of_ble_eq_true rfl) ?_
  intro p e s m args below meth c C
  refine vv_aload_n C dX3_copyFrom_0 rfl 0 rfl ?_
  refine vv_aload_n C dX3_copyFrom_1 rfl 1 rfl ?_
  refine vv_getI C (a := w) (k := 0) (o := 0) inlX3 hw0 rfl rfl (by decide) rfl (tm_26 (List.mem_of_getElem? (i := 8) rfl)) dX3_copyFrom_2 ?_
  refine vv_putI C (a := r) (k := 0) inlX3 tyX3 tyX3_ok nmX3 hr0 rfl rfl (by decide) rfl rfl rfl (tm_26 (List.mem_of_getElem? (i := 8) rfl)) dX3_copyFrom_5 ?_
  refine vv_aload_n C dX3_copyFrom_8 rfl 1 rfl ?_
  refine vv_gR C (a := w) (k := 1) (b := w + 1) inlX3 hw0 rfl rfl rfl (by decide) rfl (tm_3 (List.mem_of_getElem? (i := 12) rfl)) dX3_copyFrom_9 ?_
  refine vv_iconst (v := (0)) C dX3_copyFrom_12 (by decide) ?_
  refine vv_aload_n C dX3_copyFrom_13 rfl 0 rfl ?_
  refine vv_gR C (a := r) (k := 1) (b := r + 1) inlX3 hr0 rfl rfl rfl (by decide) rfl (tm_3 (List.mem_of_getElem? (i := 12) rfl)) dX3_copyFrom_14 ?_
  refine vv_iconst (v := (0)) C dX3_copyFrom_17 (by decide) ?_
  refine vv_bipush (v := (8)) C dX3_copyFrom_18 (by decide) ?_
  refine vv_copy C (tm_29 (List.mem_of_getElem? (i := 8) rfl)) (tm_21 (List.mem_of_getElem? (i := 20) rfl)) (tm_21 (List.mem_of_getElem? (i := 21) rfl)) (tm_21 (List.mem_of_getElem? (i := 22) rfl)) hw1 hr1 (by decide) (by decide) dX3_copyFrom_20 ?_
  refine vv_aload_n C dX3_copyFrom_23 rfl 1 rfl ?_
  refine vv_gR C (a := w) (k := 2) (b := w + 2) inlX3 hw0 rfl rfl rfl (by decide) rfl (tm_3 (List.mem_of_getElem? (i := 13) rfl)) dX3_copyFrom_24 ?_
  refine vv_iconst (v := (0)) C dX3_copyFrom_27 (by decide) ?_
  refine vv_aload_n C dX3_copyFrom_28 rfl 0 rfl ?_
  refine vv_gR C (a := r) (k := 2) (b := r + 2) inlX3 hr0 rfl rfl rfl (by decide) rfl (tm_3 (List.mem_of_getElem? (i := 13) rfl)) dX3_copyFrom_29 ?_
  refine vv_iconst (v := (0)) C dX3_copyFrom_32 (by decide) ?_
  refine vv_bipush (v := (8)) C dX3_copyFrom_33 (by decide) ?_
  refine vv_copy C (tm_29 (List.mem_of_getElem? (i := 8) rfl)) (tm_21 (List.mem_of_getElem? (i := 20) rfl)) (tm_21 (List.mem_of_getElem? (i := 21) rfl)) (tm_21 (List.mem_of_getElem? (i := 22) rfl)) hw2 hr2 (by decide) (by decide) dX3_copyFrom_35 ?_
  refine vv_nret C dX3_copyFrom_38 ?_
  refine ⟨?_, ?_, ?_, ?_⟩
  · refine pu_chg_ur (pu_chg_ur (pu_chg_u (pu_chg_rf S _) _ _ (by simp)) _ (by simp)) _ (by simp)
  · rw [vx_ur_ne _ _ (by omega), vx_ur_ne _ _ (by omega), vx_u_row]
    simp [upd]
  · intro k hk
    rw [vx_ur_ne _ _ (by omega), vx_ur_eq]
    simp only [va_cpy, Nat.zero_le, Nat.zero_add, true_and, if_pos hk, Nat.sub_zero]
    simp only [vx_u_ne _ _ _ (show w + 1 ≠ r by omega)]
  · intro k hk
    rw [vx_ur_eq]
    simp only [va_cpy, Nat.zero_le, Nat.zero_add, true_and, if_pos hk, Nat.sub_zero]
    simp only [vx_ur_ne _ _ (show w + 2 ≠ r + 1 by omega), vx_u_ne _ _ _ (show w + 2 ≠ r by omega)]
theorem yk_X3_add : vx_yV yX3_add cX3_add 3 none 2 := ⟨(tm_26 (List.mem_of_getElem? (i := 7) rfl)), (tm_2 (List.mem_of_getElem? (i := 3) rfl)), by decide +kernel, (tm_26 (List.mem_of_getElem? (i := 5) rfl)), (tm_26 (List.mem_of_getElem? (i := 6) rfl))⟩
set_option maxHeartbeats 4000000 in
set_option maxRecDepth 100000 in
theorem kk_X3_add (l : Launch) (g : vx_G) (S : vx_St) (n : Nat) (hn : S.1 17 0 = nI n) (hn8 : n < 8) (x y : Int32) : vx_M l g yX3_add cX3_add 3 none (vx_R 0 0) [.ref (g.2.2.1 17), .int x, .int y] S (vx_pv (fun S' => S' = vx_u (vx_u (vx_u S 18 n x) 19 n y) 17 0 (nI (n + 1)))) := by
  refine vx_M.intro (by decide) (Nat.le_of_ble_eq_true rfl) ?_
  intro p e s m args below meth c C
  refine vv_aload_n C dX3_add_0 rfl 0 rfl ?_
  refine vv_getI C (a := 17) (k := 0) (o := 0) inlX3 rfl rfl rfl (by decide) rfl (tm_26 (List.mem_of_getElem? (i := 8) rfl)) dX3_add_1 ?_
  refine vv_bipush (v := (nI 8)) C dX3_add_4 (by decide) ?_
  refine vv_icmp_ge (tgt := 39) C dX3_add_6 (by decide) (fun h6 => ?_) (fun h6 => ?_)
  · exact absurd (pu_geT (i := n) (x := nI 8) rfl (by omega) (by omega) (by rw [← hn]; exact h6)) (by omega)
  · refine vv_aload_n C dX3_add_9 rfl 0 rfl ?_
    refine vv_gR C (a := 17) (k := 1) (b := 18) inlX3 rfl rfl rfl rfl (by decide) rfl (tm_3 (List.mem_of_getElem? (i := 12) rfl)) dX3_add_10 ?_
    refine vv_aload_n C dX3_add_13 rfl 0 rfl ?_
    refine vv_getI C (a := 17) (k := 0) (o := 0) inlX3 rfl rfl rfl (by decide) rfl (tm_26 (List.mem_of_getElem? (i := 8) rfl)) dX3_add_14 ?_
    rw [hn]
    refine vv_iload_n C dX3_add_17 rfl 1 rfl ?_
    refine vv_iastN C (a := 18) rfl (by omega) (by decide) dX3_add_18 ?_
    refine vv_aload_n C dX3_add_19 rfl 0 rfl ?_
    refine vv_gR C (a := 17) (k := 2) (b := 19) inlX3 rfl rfl rfl rfl (by decide) rfl (tm_3 (List.mem_of_getElem? (i := 13) rfl)) dX3_add_20 ?_
    refine vv_aload_n C dX3_add_23 rfl 0 rfl ?_
    refine vv_getI C (a := 17) (k := 0) (o := 0) inlX3 rfl rfl rfl (by decide) rfl (tm_26 (List.mem_of_getElem? (i := 8) rfl)) dX3_add_24 ?_
    rw [show (vx_u S 18 n x).1 17 0 = nI n from by rw [vx_u_ne _ _ _ (by decide)]; exact hn]
    refine vv_iload_n C dX3_add_27 rfl 2 rfl ?_
    refine vv_iastN C (a := 19) rfl (by omega) (by decide) dX3_add_28 ?_
    refine vv_aload_n C dX3_add_29 rfl 0 rfl ?_
    refine vv_dup C dX3_add_30 rfl ?_
    refine vv_getI C (a := 17) (k := 0) (o := 0) inlX3 rfl rfl rfl (by decide) rfl (tm_26 (List.mem_of_getElem? (i := 8) rfl)) dX3_add_31 ?_
    refine vv_iconst (v := (1)) C dX3_add_34 (by decide) ?_
    refine vv_iadd C dX3_add_35 ?_
    refine vv_putI C (a := 17) (k := 0) inlX3 tyX3 tyX3_ok nmX3 rfl rfl rfl (by decide) rfl rfl rfl (tm_26 (List.mem_of_getElem? (i := 8) rfl)) dX3_add_36 ?_
    refine vv_nret C dX3_add_39 ?_
    rw [vx_u_ne _ _ _ (by decide), vx_u_ne _ _ _ (by decide), hn, nI_1]
theorem yk_X0_greatestRest : vx_yV yX0_greatestRest cX0_greatestRest 4 (some .int) 1 := ⟨(tm_20 (List.mem_of_getElem? (i := 2) rfl)), (tm_1 (List.mem_of_getElem? (i := 23) rfl)), by decide +kernel, (tm_20 (List.mem_of_getElem? (i := 0) rfl)), (tm_20 (List.mem_of_getElem? (i := 1) rfl))⟩
set_option maxHeartbeats 4000000 in
set_option maxRecDepth 100000 in
theorem kk_X0_greatestRest (l : Launch) (g : vx_G) (S : vx_St) (d : Nat) (hd : d = 11 ∨ d = 20 ∨ d = 26) (n : Nat) (hn8 : n ≤ 8) : vx_M l g yX0_greatestRest cX0_greatestRest 4 (some .int) (vx_R 0 0) [.ref (g.2.2.1 d), .int (nI n)] S (vx_pf (nI (pu_gr (S.1 (d + 5)) n)) S) := by
  obtain ⟨hd0, hd1, hd2, hd3, hd4, hd5⟩ := pu_dsh hd
  refine vx_M.intro (by decide) (Nat.le_of_ble_eq_true rfl) ?_
  intro p e s m args below meth c C
  have lp4 : ∀ (fu : Nat) (i : Nat), (9 - i < fu ∧ 1 ≤ i ∧ (i ≤ n ∨ (i = 1 ∧ n = 0))) → vx_V p l e (vx_R 0 0) s m args below meth c (MQ below (vx_Q g (vx_pf (nI (pu_gr (S.1 (d + 5)) n)) S)) args s 0 0 (vx_A g)) g 4 4 [(0, .ref (g.2.2.1 d)), (1, .int (nI n)), (2, .int (nI (pu_gr (S.1 (d + 5)) i))), (3, .int (nI i))] [] (S) := by
    intro fu
    induction fu with
    | zero =>
      intro i hfu
      exact absurd hfu.1 (by omega)
    | succ fu ih =>
      intro i hfu
      obtain ⟨hf1, hf2, hf3⟩ := hfu
      have hb := pu_gr_lt (S.1 (d + 5)) i (by omega)
      refine vv_iload_n C dX0_greatestRest_4 rfl 3 rfl ?_
      refine vv_iload_n C dX0_greatestRest_5 rfl 1 rfl ?_
      refine vv_icmp_ge (tgt := 32) C dX0_greatestRest_6 (by decide) (fun h6 => ?_) (fun h6 => ?_)
      · have hge := pu_geT rfl (by omega) (by omega) h6
        refine vv_iload_n C dX0_greatestRest_32 rfl 2 rfl ?_
        refine vv_fret C dX0_greatestRest_33 ?_
        rcases hf3 with q | ⟨rfl, rfl⟩
        · rw [show i = n by omega]
        · rw [pu_gr_1]; rfl
      · have hlt := pu_geF rfl (by omega) (by omega) h6
        refine vv_aload_n C dX0_greatestRest_9 rfl 0 rfl ?_
        refine vv_gR C (a := d) (k := 13) (b := d + 5) inlX0 hd0 rfl rfl rfl (by decide) rfl (tm_3 (List.mem_of_getElem? (i := 8) rfl)) dX0_greatestRest_10 ?_
        refine vv_iload_n C dX0_greatestRest_13 rfl 3 rfl ?_
        refine vv_ialdN C (a := d + 5) hd5 (by omega) (by decide) dX0_greatestRest_14 ?_
        refine vv_aload_n C dX0_greatestRest_15 rfl 0 rfl ?_
        refine vv_gR C (a := d) (k := 13) (b := d + 5) inlX0 hd0 rfl rfl rfl (by decide) rfl (tm_3 (List.mem_of_getElem? (i := 8) rfl)) dX0_greatestRest_16 ?_
        refine vv_iload_n C dX0_greatestRest_19 rfl 2 rfl ?_
        refine vv_ialdN C (a := d + 5) hd5 (by omega) (by decide) dX0_greatestRest_20 ?_
        refine vv_icmp_le (tgt := 26) C dX0_greatestRest_21 (by decide) (fun h21 => ?_) (fun h21 => ?_)
        · refine vv_iincN (L' := [_, _, _, _]) (j := 3) C dX0_greatestRest_26 rfl (by decide) rfl ?_
          refine vv_goto (tgt := 4) C dX0_greatestRest_29 (by decide) ?_
          refine vv_sub (L' := [_, _, _, _]) [1, 2, 3, 0] rfl ?_
          have q := ih (i + 1) ⟨by omega, by omega, by omega⟩
          simp only [pu_gr] at q
          rw [if_pos h21] at q
          exact q
        · refine vv_iload_n C dX0_greatestRest_24 rfl 3 rfl ?_
          refine vv_istore_n (i := 2) (L' := [_, _, _, _]) C dX0_greatestRest_25 rfl (by decide) rfl ?_
          refine vv_iincN (L' := [_, _, _, _]) (j := 3) C dX0_greatestRest_26 rfl (by decide) rfl ?_
          refine vv_goto (tgt := 4) C dX0_greatestRest_29 (by decide) ?_
          refine vv_sub (L' := [_, _, _, _]) [2, 3, 1, 0] rfl ?_
          have q := ih (i + 1) ⟨by omega, by omega, by omega⟩
          simp only [pu_gr] at q
          rw [if_neg h21] at q
          exact q
  refine vv_iconst (v := (nI 0)) C dX0_greatestRest_0 (by decide) ?_
  refine vv_istore_n (i := 2) (L' := [_, _, _]) C dX0_greatestRest_1 rfl (by decide) rfl ?_
  refine vv_iconst (v := (nI 1)) C dX0_greatestRest_2 (by decide) ?_
  refine vv_istore_n (i := 3) (L' := [_, _, _, _]) C dX0_greatestRest_3 rfl (by decide) rfl ?_
  refine vv_sub (L' := [_, _, _, _]) [2, 3, 1, 0] rfl ?_
  have q := lp4 9 1 ⟨by omega, by omega, by omega⟩
  rw [pu_gr_1] at q
  exact q
theorem yk_X0_tellParts : vx_yV yX0_tellParts cX0_tellParts 6 none 1 := ⟨(tm_19 (List.mem_of_getElem? (i := 22) rfl)), (tm_1 (List.mem_of_getElem? (i := 23) rfl)), by decide +kernel, (tm_19 (List.mem_of_getElem? (i := 20) rfl)), (tm_19 (List.mem_of_getElem? (i := 21) rfl))⟩
set_option maxHeartbeats 4000000 in
set_option maxRecDepth 100000 in
theorem kk_X0_tellParts (l : Launch) (g : vx_G) (S : vx_St) (d : Nat) (hd : d = 11 ∨ d = 20 ∨ d = 26) (n : Nat) (hn8 : n ≤ 8) : vx_M l g yX0_tellParts cX0_tellParts 6 none (vx_R 1 23) [.ref (g.2.2.1 d), .int (nI n)] S (vx_pv (fun S' => pu_chg S S' [d + 4, d + 5] ∧ S'.1 (d + 4) = pu_pts (S.1 d 0 - S.1 d 1) (S.1 d 8) (S.1 (d + 1)) (S.1 (d + 4)) (S.1 (d + 5)) n)) := by
  obtain ⟨hd0, hd1, hd2, hd3, hd4, hd5⟩ := pu_dsh hd
  refine vx_M.intro (by decide) (Nat.le_of_ble_eq_true rfl) ?_
  intro p e s m args below meth c C
  have lp115 : ∀ (fu : Nat) (i : Nat) (lf : Int32) (S1 : vx_St), (n - i < fu ∧ i ≤ n ∧ pu_chg S S1 [d + 4, d + 5] ∧ pu_give n (n - i) (S1.1 (d + 4)) (S1.1 (d + 5)) lf = pu_pts (S.1 d 0 - S.1 d 1) (S.1 d 8) (S.1 (d + 1)) (S.1 (d + 4)) (S.1 (d + 5)) n) → vx_V p l e (vx_R 1 23) s m args below meth c (MQ below (vx_Q g (vx_pv (fun S' => pu_chg S S' [d + 4, d + 5] ∧ S'.1 (d + 4) = pu_pts (S.1 d 0 - S.1 d 1) (S.1 d 8) (S.1 (d + 1)) (S.1 (d + 4)) (S.1 (d + 5)) n))) args s 0 0 (vx_A g)) g 6 115 [(0, .ref (g.2.2.1 d)), (1, .int (nI n)), (3, .int lf), (4, .int (nI i))] [] (S1) := by
    intro fu
    induction fu with
    | zero =>
      intro i lf S1 hfu
      exact absurd hfu.1 (by omega)
    | succ fu ih =>
      intro i lf S1 hfu
      obtain ⟨hf1, hf2, hc, hst⟩ := hfu
      refine vv_iload C dX0_tellParts_115 3 rfl ?_
      refine vv_iload_n C dX0_tellParts_117 rfl 1 rfl ?_
      refine vv_icmp_ge (tgt := 160) C dX0_tellParts_118 (by decide) (fun h118 => ?_) (fun h118 => ?_)
      · have hge := pu_geT rfl (by omega) (by omega) h118
        refine vv_nret C dX0_tellParts_160 ?_
        exact ⟨hc, by rw [← hst, show n - i = 0 by omega, pu_give]⟩
      · have hlt := pu_geF rfl (by omega) (by omega) h118
        have hb := pu_gr_lt (S1.1 (d + 5)) n (by omega)
        refine vv_iload_n C dX0_tellParts_121 rfl 2 rfl ?_
        refine vv_if_le (tgt := 160) C dX0_tellParts_122 (by decide) (fun h122 => ?_) (fun h122 => ?_)
        · refine vv_nret C dX0_tellParts_160 ?_
          exact ⟨hc, by rw [← hst, show n - i = (n - (i + 1)) + 1 by omega, pu_give, if_pos h122]⟩
        · refine vv_aload_n C dX0_tellParts_125 rfl 0 rfl ?_
          refine vv_iload_n C dX0_tellParts_126 rfl 1 rfl ?_
          refine vv_cV_F C (a := d) (kk_X0_greatestRest l g _ _ hd n hn8) yk_X0_greatestRest (tm_19 (List.mem_of_getElem? (i := 23) rfl)) hd0 rfl rfl (by decide) rfl (Nat.le_of_ble_eq_true rfl) rfl dX0_tellParts_127 ?_
          refine vv_istore (L' := [_, _, _, _, _]) C dX0_tellParts_130 (by decide) rfl ?_
          refine vv_aload_n C dX0_tellParts_132 rfl 1 rfl ?_
          refine vv_gR C (a := d) (k := 12) (b := d + 4) inlX0 hd0 rfl rfl rfl (by decide) rfl (tm_3 (List.mem_of_getElem? (i := 7) rfl)) dX0_tellParts_133 ?_
          refine vv_iload C dX0_tellParts_136 0 rfl ?_
          refine vv_dup2 C dX0_tellParts_138 rfl rfl ?_
          refine vv_ialdN C (a := d + 4) hd4 (by omega) (by decide) dX0_tellParts_139 ?_
          refine vv_iconst (v := (1)) C dX0_tellParts_140 (by decide) ?_
          refine vv_iadd C dX0_tellParts_141 ?_
          refine vv_iastN C (a := d + 4) hd4 (by omega) (by decide) dX0_tellParts_142 ?_
          refine vv_aload_n C dX0_tellParts_143 rfl 1 rfl ?_
          refine vv_gR C (a := d) (k := 13) (b := d + 5) inlX0 hd0 rfl rfl rfl (by decide) rfl (tm_3 (List.mem_of_getElem? (i := 8) rfl)) dX0_tellParts_144 ?_
          refine vv_iload C dX0_tellParts_147 0 rfl ?_
          refine vv_iconst (v := (-1)) C dX0_tellParts_149 (by decide) ?_
          refine vv_iastN C (a := d + 5) hd5 (by omega) (by decide) dX0_tellParts_150 ?_
          refine vv_iinc (L' := [_, _, _, _, _]) (j := 3) (v := (lf - 1)) C dX0_tellParts_151 rfl (pu_m1 _) (by decide) rfl ?_
          refine vv_iincN (L' := [_, _, _, _, _]) (j := 4) C dX0_tellParts_154 rfl (by decide) rfl ?_
          refine vv_goto (tgt := 115) C dX0_tellParts_157 (by decide) ?_
          refine vv_sub (L' := [_, _, _, _]) [3, 4, 1, 0] rfl ?_
          refine ih (i + 1) _ _ ⟨by omega, by omega, pu_chg_u (pu_chg_u hc _ _ (by simp)) _ _ (by simp), ?_⟩
          rw [← hst, show n - i = (n - (i + 1)) + 1 by omega, pu_give, if_neg h122, vx_u_ne _ _ _ (show d + 4 ≠ d + 5 by omega), vx_u_row, vx_u_row, vx_u_ne _ _ _ (show d + 5 ≠ d + 4 by omega)]
  have lp26 : ∀ (fu : Nat) (i : Nat) (S1 : vx_St), (n - i < fu ∧ i ≤ n ∧ pu_chg S S1 [d + 4, d + 5] ∧ S1.1 (d + 4) = pu_fill (pu_p0 (S.1 d 0 - S.1 d 1) (S.1 d 8) (S.1 (d + 1))) (S.1 (d + 4)) i ∧ S1.1 (d + 5) = pu_fill (pu_r0 (S.1 d 0 - S.1 d 1) (S.1 d 8) (S.1 (d + 1))) (S.1 (d + 5)) i) → vx_V p l e (vx_R 1 23) s m args below meth c (MQ below (vx_Q g (vx_pv (fun S' => pu_chg S S' [d + 4, d + 5] ∧ S'.1 (d + 4) = pu_pts (S.1 d 0 - S.1 d 1) (S.1 d 8) (S.1 (d + 1)) (S.1 (d + 4)) (S.1 (d + 5)) n))) args s 0 0 (vx_A g)) g 6 26 [(0, .ref (g.2.2.1 d)), (1, .int (nI n)), (2, .int (S.1 d 0 - S.1 d 1)), (3, .int (pu_lf (S.1 d 0 - S.1 d 1) (S.1 d 8) (S.1 (d + 1)) i)), (4, .int (nI i))] [] (S1) := by
    intro fu
    induction fu with
    | zero =>
      intro i S1 hfu
      exact absurd hfu.1 (by omega)
    | succ fu ih =>
      intro i S1 hfu
      obtain ⟨hf1, hf2, hc, hr4, hr5⟩ := hfu
      have rd : S1.1 d = S.1 d := hc.2 _ (by simp only [List.mem_cons, List.not_mem_nil, or_false, not_or]; omega)
      have rt : S1.1 (d + 1) = S.1 (d + 1) := hc.2 _ (by simp only [List.mem_cons, List.not_mem_nil, or_false, not_or]; omega)
      refine vv_iload C dX0_tellParts_26 4 rfl ?_
      refine vv_iload_n C dX0_tellParts_28 rfl 1 rfl ?_
      refine vv_icmp_ge (tgt := 112) C dX0_tellParts_29 (by decide) (fun h29 => ?_) (fun h29 => ?_)
      · have hge := pu_geT rfl (by omega) (by omega) h29
        obtain rfl : n = i := by omega
        refine vv_iconst (v := (nI 0)) C dX0_tellParts_112 (by decide) ?_
        refine vv_istore (L' := [_, _, _, _, _]) C dX0_tellParts_113 (by decide) rfl ?_
        refine vv_sub (L' := [_, _, _, _]) [1, 2, 4, 0] rfl ?_
        refine lp115 (n + 1) 0 _ S1 ⟨by omega, by omega, hc, ?_⟩
        rw [hr4, hr5]
        rfl
      · have hlt := pu_geF rfl (by omega) (by omega) h29
        refine vv_aload_n C dX0_tellParts_32 rfl 0 rfl ?_
        refine vv_gR C (a := d) (k := 12) (b := d + 4) inlX0 hd0 rfl rfl rfl (by decide) rfl (tm_3 (List.mem_of_getElem? (i := 7) rfl)) dX0_tellParts_33 ?_
        refine vv_iload C dX0_tellParts_36 4 rfl ?_
        refine vv_aload_n C dX0_tellParts_38 rfl 0 rfl ?_
        refine vv_getI C (a := d) (k := 8) (o := 0) inlX0 hd0 rfl rfl (by decide) rfl (tm_18 (List.mem_of_getElem? (i := 12) rfl)) dX0_tellParts_39 ?_
        refine vv_if_le (tgt := 62) C dX0_tellParts_42 (by decide) (fun h42 => ?_) (fun h42 => ?_)
        · rw [rd] at h42
          refine vv_iconst (v := (0)) C dX0_tellParts_62 (by decide) ?_
          refine vv_iastN C (a := d + 4) hd4 (by omega) (by decide) dX0_tellParts_63 ?_
          refine vv_aload_n C dX0_tellParts_64 rfl 0 rfl ?_
          refine vv_gR C (a := d) (k := 13) (b := d + 5) inlX0 hd0 rfl rfl rfl (by decide) rfl (tm_3 (List.mem_of_getElem? (i := 8) rfl)) dX0_tellParts_65 ?_
          refine vv_iload C dX0_tellParts_68 4 rfl ?_
          refine vv_aload_n C dX0_tellParts_70 rfl 0 rfl ?_
          refine vv_getI C (a := d) (k := 8) (o := 0) inlX0 hd0 rfl rfl (by decide) rfl (tm_18 (List.mem_of_getElem? (i := 12) rfl)) dX0_tellParts_71 ?_
          refine vv_if_le (tgt := 94) C dX0_tellParts_74 (by decide) (fun h74 => ?_) (fun h74 => ?_)
          · rw [vx_u_ne _ _ _ (by omega), rd] at h74
            refine vv_iconst (v := (0)) C dX0_tellParts_94 (by decide) ?_
            refine vv_iastN C (a := d + 5) hd5 (by omega) (by decide) dX0_tellParts_95 ?_
            refine vv_iload_n C dX0_tellParts_96 rfl 3 rfl ?_
            refine vv_aload_n C dX0_tellParts_97 rfl 0 rfl ?_
            refine vv_gR C (a := d) (k := 12) (b := d + 4) inlX0 hd0 rfl rfl rfl (by decide) rfl (tm_3 (List.mem_of_getElem? (i := 7) rfl)) dX0_tellParts_98 ?_
            refine vv_iload C dX0_tellParts_101 4 rfl ?_
            refine vv_ialdN C (a := d + 4) hd4 (by omega) (by decide) dX0_tellParts_103 ?_
            refine vv_isub C dX0_tellParts_104 ?_
            refine vv_istore_n (i := 3) (L' := [_, _, _, _, _]) C dX0_tellParts_105 rfl (by decide) rfl ?_
            refine vv_iincN (L' := [_, _, _, _, _]) (j := 4) C dX0_tellParts_106 rfl (by decide) rfl ?_
            refine vv_goto (tgt := 26) C dX0_tellParts_109 (by decide) ?_
            refine vv_sub (L' := [_, _, _, _, _]) [2, 3, 4, 1, 0] rfl ?_
            have q := ih (i + 1) (vx_u (vx_u S1 (d + 4) i (pu_p0 (S.1 d 0 - S.1 d 1) (S.1 d 8) (S.1 (d + 1)) i)) (d + 5) i (pu_r0 (S.1 d 0 - S.1 d 1) (S.1 d 8) (S.1 (d + 1)) i)) ⟨by omega, by omega, pu_chg_u (pu_chg_u hc _ _ (by simp)) _ _ (by simp), (by rw [vx_u_ne _ _ _ (by omega), vx_u_row, hr4]; exact pu_fill_s _ _ i), (by rw [vx_u_row, vx_u_ne _ _ _ (by omega), hr5]; exact pu_fill_s _ _ i)⟩
            simp only [pu_p0, pu_r0, pu_lf, if_pos h42] at q
            simp only [vx_u_ne _ _ _ (show d ≠ d + 4 by omega), vx_u_ne _ _ _ (show d + 1 ≠ d + 4 by omega), vx_u_ne _ _ _ (show d ≠ d + 5 by omega), vx_u_ne _ _ _ (show d + 4 ≠ d + 5 by omega), rd, rt]
            simp only [vx_u_row, upd, if_true]
            exact q
          · rw [vx_u_ne _ _ _ (by omega), rd] at h74
            exact absurd h42 h74
        · rw [rd] at h42
          refine vv_iload_n C dX0_tellParts_45 rfl 2 rfl ?_
          refine vv_aload_n C dX0_tellParts_46 rfl 0 rfl ?_
          refine vv_gR C (a := d) (k := 9) (b := d + 1) inlX0 hd0 rfl rfl rfl (by decide) rfl (tm_3 (List.mem_of_getElem? (i := 4) rfl)) dX0_tellParts_47 ?_
          refine vv_iload C dX0_tellParts_50 4 rfl ?_
          refine vv_ialdN C (a := d + 1) hd1 (by omega) (by decide) dX0_tellParts_52 ?_
          refine vv_imul C dX0_tellParts_53 ?_
          refine vv_aload_n C dX0_tellParts_54 rfl 0 rfl ?_
          refine vv_getI C (a := d) (k := 8) (o := 0) inlX0 hd0 rfl rfl (by decide) rfl (tm_18 (List.mem_of_getElem? (i := 12) rfl)) dX0_tellParts_55 ?_
          refine vv_idiv C dX0_tellParts_58 (fun q => h42 (by rw [← rd, q]; decide)) ?_
          refine vv_goto (tgt := 63) C dX0_tellParts_59 (by decide) ?_
          refine vv_iastN C (a := d + 4) hd4 (by omega) (by decide) dX0_tellParts_63 ?_
          refine vv_aload_n C dX0_tellParts_64 rfl 0 rfl ?_
          refine vv_gR C (a := d) (k := 13) (b := d + 5) inlX0 hd0 rfl rfl rfl (by decide) rfl (tm_3 (List.mem_of_getElem? (i := 8) rfl)) dX0_tellParts_65 ?_
          refine vv_iload C dX0_tellParts_68 4 rfl ?_
          refine vv_aload_n C dX0_tellParts_70 rfl 0 rfl ?_
          refine vv_getI C (a := d) (k := 8) (o := 0) inlX0 hd0 rfl rfl (by decide) rfl (tm_18 (List.mem_of_getElem? (i := 12) rfl)) dX0_tellParts_71 ?_
          refine vv_if_le (tgt := 94) C dX0_tellParts_74 (by decide) (fun h74 => ?_) (fun h74 => ?_)
          · rw [vx_u_ne _ _ _ (by omega), rd] at h74
            exact absurd h74 h42
          · rw [vx_u_ne _ _ _ (by omega), rd] at h74
            refine vv_iload_n C dX0_tellParts_77 rfl 2 rfl ?_
            refine vv_aload_n C dX0_tellParts_78 rfl 0 rfl ?_
            refine vv_gR C (a := d) (k := 9) (b := d + 1) inlX0 hd0 rfl rfl rfl (by decide) rfl (tm_3 (List.mem_of_getElem? (i := 4) rfl)) dX0_tellParts_79 ?_
            refine vv_iload C dX0_tellParts_82 4 rfl ?_
            refine vv_ialdN C (a := d + 1) hd1 (by omega) (by decide) dX0_tellParts_84 ?_
            refine vv_imul C dX0_tellParts_85 ?_
            refine vv_aload_n C dX0_tellParts_86 rfl 0 rfl ?_
            refine vv_getI C (a := d) (k := 8) (o := 0) inlX0 hd0 rfl rfl (by decide) rfl (tm_18 (List.mem_of_getElem? (i := 12) rfl)) dX0_tellParts_87 ?_
            refine vv_irem C dX0_tellParts_90 (fun q => h74 (by rw [← rd]; rw [vx_u_ne _ _ _ (show d ≠ d + 4 by omega)] at q; rw [q]; decide)) ?_
            refine vv_goto (tgt := 95) C dX0_tellParts_91 (by decide) ?_
            refine vv_iastN C (a := d + 5) hd5 (by omega) (by decide) dX0_tellParts_95 ?_
            refine vv_iload_n C dX0_tellParts_96 rfl 3 rfl ?_
            refine vv_aload_n C dX0_tellParts_97 rfl 0 rfl ?_
            refine vv_gR C (a := d) (k := 12) (b := d + 4) inlX0 hd0 rfl rfl rfl (by decide) rfl (tm_3 (List.mem_of_getElem? (i := 7) rfl)) dX0_tellParts_98 ?_
            refine vv_iload C dX0_tellParts_101 4 rfl ?_
            refine vv_ialdN C (a := d + 4) hd4 (by omega) (by decide) dX0_tellParts_103 ?_
            refine vv_isub C dX0_tellParts_104 ?_
            refine vv_istore_n (i := 3) (L' := [_, _, _, _, _]) C dX0_tellParts_105 rfl (by decide) rfl ?_
            refine vv_iincN (L' := [_, _, _, _, _]) (j := 4) C dX0_tellParts_106 rfl (by decide) rfl ?_
            refine vv_goto (tgt := 26) C dX0_tellParts_109 (by decide) ?_
            refine vv_sub (L' := [_, _, _, _, _]) [2, 3, 4, 1, 0] rfl ?_
            have q := ih (i + 1) (vx_u (vx_u S1 (d + 4) i (pu_p0 (S.1 d 0 - S.1 d 1) (S.1 d 8) (S.1 (d + 1)) i)) (d + 5) i (pu_r0 (S.1 d 0 - S.1 d 1) (S.1 d 8) (S.1 (d + 1)) i)) ⟨by omega, by omega, pu_chg_u (pu_chg_u hc _ _ (by simp)) _ _ (by simp), (by rw [vx_u_ne _ _ _ (by omega), vx_u_row, hr4]; exact pu_fill_s _ _ i), (by rw [vx_u_row, vx_u_ne _ _ _ (by omega), hr5]; exact pu_fill_s _ _ i)⟩
            simp only [pu_p0, pu_r0, pu_lf, if_neg h42] at q
            simp only [vx_u_ne _ _ _ (show d ≠ d + 4 by omega), vx_u_ne _ _ _ (show d + 1 ≠ d + 4 by omega), vx_u_ne _ _ _ (show d ≠ d + 5 by omega), vx_u_ne _ _ _ (show d + 4 ≠ d + 5 by omega), rd, rt]
            simp only [vx_u_row, upd, if_true]
            exact q
  refine vv_aload_n C dX0_tellParts_0 rfl 0 rfl ?_
  refine vv_getI C (a := d) (k := 0) (o := 0) inlX0 hd0 rfl rfl (by decide) rfl (tm_3 (List.mem_of_getElem? (i := 2) rfl)) dX0_tellParts_1 ?_
  refine vv_aload_n C dX0_tellParts_4 rfl 0 rfl ?_
  refine vv_getI C (a := d) (k := 1) (o := 0) inlX0 hd0 rfl rfl (by decide) rfl (tm_3 (List.mem_of_getElem? (i := 3) rfl)) dX0_tellParts_5 ?_
  refine vv_isub C dX0_tellParts_8 ?_
  refine vv_istore_n (i := 2) (L' := [_, _, _]) C dX0_tellParts_9 rfl (by decide) rfl ?_
  refine vv_aload_n C dX0_tellParts_10 rfl 1 rfl ?_
  refine vv_getI C (a := d) (k := 8) (o := 0) inlX0 hd0 rfl rfl (by decide) rfl (tm_18 (List.mem_of_getElem? (i := 12) rfl)) dX0_tellParts_11 ?_
  refine vv_if_le (tgt := 21) C dX0_tellParts_14 (by decide) (fun h14 => ?_) (fun h14 => ?_)
  · refine vv_iconst (v := (0)) C dX0_tellParts_21 (by decide) ?_
    refine vv_istore_n (i := 3) (L' := [_, _, _, _]) C dX0_tellParts_22 rfl (by decide) rfl ?_
    refine vv_iconst (v := (nI 0)) C dX0_tellParts_23 (by decide) ?_
    refine vv_istore (L' := [_, _, _, _, _]) C dX0_tellParts_24 (by decide) rfl ?_
    refine vv_sub (L' := [_, _, _, _, _]) [3, 4, 2, 1, 0] rfl ?_
    have q := lp26 (n + 1) 0 S ⟨by omega, by omega, pu_chg_rf S _, rfl, rfl⟩
    simp only [pu_lf, if_pos h14] at q
    exact q
  · refine vv_iload_n C dX0_tellParts_17 rfl 0 rfl ?_
    refine vv_goto (tgt := 22) C dX0_tellParts_18 (by decide) ?_
    refine vv_istore_n (i := 3) (L' := [_, _, _, _]) C dX0_tellParts_22 rfl (by decide) rfl ?_
    refine vv_iconst (v := (nI 0)) C dX0_tellParts_23 (by decide) ?_
    refine vv_istore (L' := [_, _, _, _, _]) C dX0_tellParts_24 (by decide) rfl ?_
    refine vv_sub (L' := [_, _, _, _, _]) [3, 4, 2, 1, 0] rfl ?_
    have q := lp26 (n + 1) 0 S ⟨by omega, by omega, pu_chg_rf S _, rfl, rfl⟩
    simp only [pu_lf, if_neg h14] at q
    exact q
theorem yk_X0_passNight : vx_yV yX0_passNight cX0_passNight 4 (some .int) 1 := ⟨(tm_20 (List.mem_of_getElem? (i := 21) rfl)), (tm_1 (List.mem_of_getElem? (i := 23) rfl)), by decide +kernel, (tm_20 (List.mem_of_getElem? (i := 19) rfl)), (tm_20 (List.mem_of_getElem? (i := 20) rfl))⟩
set_option maxHeartbeats 4000000 in
set_option maxRecDepth 100000 in
theorem kk_X0_passNight (l : Launch) (g : vx_G) (S : vx_St) (d : Nat) (hd : d = 11 ∨ d = 20 ∨ d = 26) (n : Nat) (hn8 : n ≤ 8) : vx_M l g yX0_passNight cX0_passNight 4 (some .int) (vx_R 2 48) [.ref (g.2.2.1 d), .int (nI n)] S (vx_pi (fun r S' => r = (S.1 d 0 - S.1 d 1) ∧ pu_chg S S' [d, d + 1, d + 2, d + 4, d + 5] ∧ S'.1 d = pu_ngt (S.1 d) ∧ S'.1 (d + 1) = pu_fill (fun _ => 0) (S.1 (d + 1)) n ∧ S'.1 (d + 2) = pu_fill (fun h => pu_mn (S.1 (d + 2) h + pu_pts (S.1 d 0 - S.1 d 1) (S.1 d 8) (S.1 (d + 1)) (S.1 (d + 4)) (S.1 (d + 5)) n h)) (S.1 (d + 2)) n)) := by
  obtain ⟨hd0, hd1, hd2, hd3, hd4, hd5⟩ := pu_dsh hd
  refine vx_M.intro (by decide) (Nat.le_of_ble_eq_true rfl) ?_
  intro p e s m args below meth c C
  have lp17 : ∀ (fu : Nat) (i : Nat) (S1 : vx_St), (n - i < fu ∧ i ≤ n ∧ pu_chg S S1 [d, d + 1, d + 2, d + 4, d + 5] ∧ S1.1 d = S.1 d ∧ S1.1 (d + 1) = pu_fill (fun _ => 0) (S.1 (d + 1)) i ∧ S1.1 (d + 2) = pu_fill (fun h => pu_mn (S.1 (d + 2) h + pu_pts (S.1 d 0 - S.1 d 1) (S.1 d 8) (S.1 (d + 1)) (S.1 (d + 4)) (S.1 (d + 5)) n h)) (S.1 (d + 2)) i ∧ S1.1 (d + 4) = pu_pts (S.1 d 0 - S.1 d 1) (S.1 d 8) (S.1 (d + 1)) (S.1 (d + 4)) (S.1 (d + 5)) n) → vx_V p l e (vx_R 2 48) s m args below meth c (MQ below (vx_Q g (vx_pi (fun r S' => r = (S.1 d 0 - S.1 d 1) ∧ pu_chg S S' [d, d + 1, d + 2, d + 4, d + 5] ∧ S'.1 d = pu_ngt (S.1 d) ∧ S'.1 (d + 1) = pu_fill (fun _ => 0) (S.1 (d + 1)) n ∧ S'.1 (d + 2) = pu_fill (fun h => pu_mn (S.1 (d + 2) h + pu_pts (S.1 d 0 - S.1 d 1) (S.1 d 8) (S.1 (d + 1)) (S.1 (d + 4)) (S.1 (d + 5)) n h)) (S.1 (d + 2)) n))) args s 0 0 (vx_A g)) g 4 17 [(0, .ref (g.2.2.1 d)), (1, .int (nI n)), (2, .int (S.1 d 0 - S.1 d 1)), (3, .int (nI i))] [] (S1) := by
    intro fu
    induction fu with
    | zero =>
      intro i S1 hfu
      exact absurd hfu.1 (by omega)
    | succ fu ih =>
      intro i S1 hfu
      obtain ⟨hf1, hf2, hc, rd, r1, r2, r4⟩ := hfu
      refine vv_iload_n C dX0_passNight_17 rfl 3 rfl ?_
      refine vv_iload_n C dX0_passNight_18 rfl 1 rfl ?_
      refine vv_icmp_ge (tgt := 60) C dX0_passNight_19 (by decide) (fun h19 => ?_) (fun h19 => ?_)
      · have hge := pu_geT rfl (by omega) (by omega) h19
        obtain rfl : n = i := by omega
        refine vv_aload_n C dX0_passNight_60 rfl 0 rfl ?_
        refine vv_iconst (v := (0)) C dX0_passNight_61 (by decide) ?_
        refine vv_putI C (a := d) (k := 2) inlX0 tyX0 tyX0_ok nmX0 hd0 rfl rfl (by decide) rfl rfl rfl (tm_11 (List.mem_of_getElem? (i := 12) rfl)) dX0_passNight_62 ?_
        refine vv_aload_n C dX0_passNight_65 rfl 0 rfl ?_
        refine vv_aload_n C dX0_passNight_66 rfl 0 rfl ?_
        refine vv_getI C (a := d) (k := 0) (o := 0) inlX0 hd0 rfl rfl (by decide) rfl (tm_3 (List.mem_of_getElem? (i := 2) rfl)) dX0_passNight_67 ?_
        refine vv_putI C (a := d) (k := 1) inlX0 tyX0 tyX0_ok nmX0 hd0 rfl rfl (by decide) rfl rfl rfl (tm_3 (List.mem_of_getElem? (i := 3) rfl)) dX0_passNight_70 ?_
        refine vv_aload_n C dX0_passNight_73 rfl 0 rfl ?_
        refine vv_iconst (v := (0)) C dX0_passNight_74 (by decide) ?_
        refine vv_putI C (a := d) (k := 8) inlX0 tyX0 tyX0_ok nmX0 hd0 rfl rfl (by decide) rfl rfl rfl (tm_18 (List.mem_of_getElem? (i := 12) rfl)) dX0_passNight_75 ?_
        refine vv_aload_n C dX0_passNight_78 rfl 0 rfl ?_
        refine vv_iconst (v := (0)) C dX0_passNight_79 (by decide) ?_
        refine vv_putI C (a := d) (k := 3) inlX0 tyX0 tyX0_ok nmX0 hd0 rfl rfl (by decide) rfl rfl rfl (tm_18 (List.mem_of_getElem? (i := 13) rfl)) dX0_passNight_80 ?_
        refine vv_aload_n C dX0_passNight_83 rfl 0 rfl ?_
        refine vv_iconst (v := (0)) C dX0_passNight_84 (by decide) ?_
        refine vv_putI C (a := d) (k := 4) inlX0 tyX0 tyX0_ok nmX0 hd0 rfl rfl (by decide) rfl rfl rfl (tm_15 (List.mem_of_getElem? (i := 4) rfl)) dX0_passNight_85 ?_
        refine vv_aload_n C dX0_passNight_88 rfl 0 rfl ?_
        refine vv_iconst (v := (0)) C dX0_passNight_89 (by decide) ?_
        refine vv_putZ C (a := d) (k := 7) inlX0 tyX0 tyX0_ok nmX0 hd0 rfl rfl (by decide) rfl rfl rfl rfl (tm_18 (List.mem_of_getElem? (i := 2) rfl)) dX0_passNight_90 ?_
        refine vv_iload_n C dX0_passNight_93 rfl 2 rfl ?_
        refine vv_jret C dX0_passNight_94 ?_
        refine ⟨rfl, ?_, ?_, ?_, ?_⟩
        · iterate 6 refine pu_chg_u ?_ _ _ (by simp)
          exact hc
        · simp only [vx_u_row, rd, pu_ngt]
          simp [upd]
        · simp only [vx_u_ne _ _ _ (show d + 1 ≠ d by omega)]
          exact r1
        · simp only [vx_u_ne _ _ _ (show d + 2 ≠ d by omega)]
          exact r2
      · have hlt := pu_geF rfl (by omega) (by omega) h19
        refine vv_aload_n C dX0_passNight_22 rfl 0 rfl ?_
        refine vv_gR C (a := d) (k := 10) (b := d + 2) inlX0 hd0 rfl rfl rfl (by decide) rfl (tm_3 (List.mem_of_getElem? (i := 5) rfl)) dX0_passNight_23 ?_
        refine vv_iload_n C dX0_passNight_26 rfl 3 rfl ?_
        refine vv_sipush (v := (999)) C dX0_passNight_27 (by decide) ?_
        refine vv_aload_n C dX0_passNight_30 rfl 0 rfl ?_
        refine vv_gR C (a := d) (k := 10) (b := d + 2) inlX0 hd0 rfl rfl rfl (by decide) rfl (tm_3 (List.mem_of_getElem? (i := 5) rfl)) dX0_passNight_31 ?_
        refine vv_iload_n C dX0_passNight_34 rfl 3 rfl ?_
        refine vv_ialdN C (a := d + 2) hd2 (by omega) (by decide) dX0_passNight_35 ?_
        refine vv_aload_n C dX0_passNight_36 rfl 0 rfl ?_
        refine vv_gR C (a := d) (k := 12) (b := d + 4) inlX0 hd0 rfl rfl rfl (by decide) rfl (tm_3 (List.mem_of_getElem? (i := 7) rfl)) dX0_passNight_37 ?_
        refine vv_iload_n C dX0_passNight_40 rfl 3 rfl ?_
        refine vv_ialdN C (a := d + 4) hd4 (by omega) (by decide) dX0_passNight_41 ?_
        refine vv_iadd C dX0_passNight_42 ?_
        refine vv_mmin C (tm_20 (List.mem_of_getElem? (i := 22) rfl)) (tm_7 (List.mem_of_getElem? (i := 15) rfl)) (tm_7 (List.mem_of_getElem? (i := 12) rfl)) (tm_7 (List.mem_of_getElem? (i := 16) rfl)) (by decide) (Nat.le_of_ble_eq_true rfl) dX0_passNight_43 ?_
        refine vv_iastN C (a := d + 2) hd2 (by omega) (by decide) dX0_passNight_46 ?_
        refine vv_aload_n C dX0_passNight_47 rfl 0 rfl ?_
        refine vv_gR C (a := d) (k := 9) (b := d + 1) inlX0 hd0 rfl rfl rfl (by decide) rfl (tm_3 (List.mem_of_getElem? (i := 4) rfl)) dX0_passNight_48 ?_
        refine vv_iload_n C dX0_passNight_51 rfl 3 rfl ?_
        refine vv_iconst (v := (0)) C dX0_passNight_52 (by decide) ?_
        refine vv_iastN C (a := d + 1) hd1 (by omega) (by decide) dX0_passNight_53 ?_
        refine vv_iincN (L' := [_, _, _, _]) (j := 3) C dX0_passNight_54 rfl (by decide) rfl ?_
        refine vv_goto (tgt := 17) C dX0_passNight_57 (by decide) ?_
        refine vv_sub (L' := [_, _, _, _]) [1, 2, 3, 0] rfl ?_
        refine ih (i + 1) _ ⟨by omega, by omega, pu_chg_u (pu_chg_u hc _ _ (by simp)) _ _ (by simp), ?_, ?_, ?_, ?_⟩
        · rw [vx_u_ne _ _ _ (by omega), vx_u_ne _ _ _ (by omega)]; exact rd
        · rw [vx_u_row, vx_u_ne _ _ _ (by omega), r1]; exact pu_fill_s (fun _ => 0) _ i
        · rw [vx_u_ne _ _ _ (by omega), vx_u_row, r2, r4]
          have e : pu_fill (fun h => pu_mn (S.1 (d + 2) h + pu_pts (S.1 d 0 - S.1 d 1) (S.1 d 8) (S.1 (d + 1)) (S.1 (d + 4)) (S.1 (d + 5)) n h)) (S.1 (d + 2)) i i = S.1 (d + 2) i := if_neg (Nat.lt_irrefl i)
          rw [e]
          exact pu_fill_s (fun h => pu_mn (S.1 (d + 2) h + pu_pts (S.1 d 0 - S.1 d 1) (S.1 d 8) (S.1 (d + 1)) (S.1 (d + 4)) (S.1 (d + 5)) n h)) _ i
        · rw [vx_u_ne _ _ _ (by omega), vx_u_ne _ _ _ (by omega)]; exact r4
  refine vv_aload_n C dX0_passNight_0 rfl 0 rfl ?_
  refine vv_getI C (a := d) (k := 0) (o := 0) inlX0 hd0 rfl rfl (by decide) rfl (tm_3 (List.mem_of_getElem? (i := 2) rfl)) dX0_passNight_1 ?_
  refine vv_aload_n C dX0_passNight_4 rfl 0 rfl ?_
  refine vv_getI C (a := d) (k := 1) (o := 0) inlX0 hd0 rfl rfl (by decide) rfl (tm_3 (List.mem_of_getElem? (i := 3) rfl)) dX0_passNight_5 ?_
  refine vv_isub C dX0_passNight_8 ?_
  refine vv_istore_n (i := 2) (L' := [_, _, _]) C dX0_passNight_9 rfl (by decide) rfl ?_
  refine vv_aload_n C dX0_passNight_10 rfl 1 rfl ?_
  refine vv_iload_n C dX0_passNight_11 rfl 2 rfl ?_
  refine vv_cV_v C (a := d) (kk_X0_tellParts l g _ _ hd n hn8) yk_X0_tellParts (tm_20 (List.mem_of_getElem? (i := 23) rfl)) hd0 rfl rfl (by decide) rfl (Nat.le_of_ble_eq_true rfl) rfl dX0_passNight_12 (fun S12 h12 => ?_)
  obtain ⟨hc12, hp12⟩ := h12
  refine vv_iconst (v := (nI 0)) C dX0_passNight_15 (by decide) ?_
  refine vv_istore_n (i := 3) (L' := [_, _, _, _]) C dX0_passNight_16 rfl (by decide) rfl ?_
  refine vv_sub (L' := [_, _, _, _]) [2, 3, 1, 0] rfl ?_
  exact lp17 (n + 1) 0 S12 ⟨by omega, by omega, pu_chg_tr (pu_chg_rf S _) hc12 (by simp), hc12.2 _ (by simp only [List.mem_cons, List.not_mem_nil, or_false, not_or]; omega), hc12.2 _ (by simp only [List.mem_cons, List.not_mem_nil, or_false, not_or]; omega), hc12.2 _ (by simp only [List.mem_cons, List.not_mem_nil, or_false, not_or]; omega), hp12⟩
