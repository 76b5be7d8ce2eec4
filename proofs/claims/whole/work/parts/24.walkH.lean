theorem yk_X5_goHour : vx_yV yX5_goHour cX5_goHour 5 (some .int) 0 := ⟨(tm_19 (List.mem_of_getElem? (i := 2) rfl)), (tm_1 (List.mem_of_getElem? (i := 5) rfl)), by decide +kernel, (tm_19 (List.mem_of_getElem? (i := 0) rfl)), (tm_19 (List.mem_of_getElem? (i := 1) rfl))⟩
set_option maxHeartbeats 4000000 in
set_option maxRecDepth 100000 in
theorem kk_X5_goHour (l : Launch) (g : vx_G) (S : vx_St) (n : Nat) (hn : S.1 35 0 = nI n) (hn8 : n ≤ 8) : vx_M l g yX5_goHour cX5_goHour 5 (some .int) (vx_R 5 115) [.ref (g.2.2.1 35)] S (vx_pi (fun r S' => r = pm_feetH (pu_hm S) (S.1 35 16) (S.1 35 11) (S.1 35 12) (S.1 35 9) (S.1 35 14) n ∧ pu_chg S S' [35, 42] ∧ S'.1 35 = pm_nx (pu_hm S) (S.1 35) n ∧ S'.1 42 = (if pm_dn (pu_hm S) (S.1 35 16) (S.1 35 11) (S.1 35 12) (S.1 35 9) (S.1 35 14) n = true then S.1 42 else pm_took (S.1 42) (pm_W (pu_hm S) (S.1 35 12) (S.1 35 9) (S.1 35 14)) (pm_set (pu_hm S) (S.1 35 16) (S.1 35 11) (S.1 35 12) (S.1 35 9) (S.1 35 14) n) n))) := by
  refine vx_M.intro (by decide) (Nat.le_of_ble_eq_true rfl) ?_
  intro p e s m args below meth c C
  have lp82 : ∀ (fu : Nat) (i : Nat) (S1 : vx_St), (n - i < fu ∧ i ≤ n ∧ pm_dn (pu_hm S) (S.1 35 16) (S.1 35 11) (S.1 35 12) (S.1 35 9) (S.1 35 14) n = false ∧ pu_chg S S1 [35, 42] ∧ S1.1 35 = upd (S.1 35) 13 (S.1 35 13 + (pm_G (pu_hm S) (S.1 35 16) (S.1 35 12) (S.1 35 9) (S.1 35 14) n (pm_set (pu_hm S) (S.1 35 16) (S.1 35 11) (S.1 35 12) (S.1 35 9) (S.1 35 14) n) - pu_sum (pm_W (pu_hm S) (S.1 35 12) (S.1 35 9) (S.1 35 14)) (pm_set (pu_hm S) (S.1 35 16) (S.1 35 11) (S.1 35 12) (S.1 35 9) (S.1 35 14) n) n)) ∧ S1.1 42 = pm_took (S.1 42) (pm_W (pu_hm S) (S.1 35 12) (S.1 35 9) (S.1 35 14)) (pm_set (pu_hm S) (S.1 35 16) (S.1 35 11) (S.1 35 12) (S.1 35 9) (S.1 35 14) n) i) → vx_V p l e (vx_R 5 115) s m args below meth c (MQ below (vx_Q g (vx_pi (fun r S' => r = pm_feetH (pu_hm S) (S.1 35 16) (S.1 35 11) (S.1 35 12) (S.1 35 9) (S.1 35 14) n ∧ pu_chg S S' [35, 42] ∧ S'.1 35 = pm_nx (pu_hm S) (S.1 35) n ∧ S'.1 42 = (if pm_dn (pu_hm S) (S.1 35 16) (S.1 35 11) (S.1 35 12) (S.1 35 9) (S.1 35 14) n = true then S.1 42 else pm_took (S.1 42) (pm_W (pu_hm S) (S.1 35 12) (S.1 35 9) (S.1 35 14)) (pm_set (pu_hm S) (S.1 35 16) (S.1 35 11) (S.1 35 12) (S.1 35 9) (S.1 35 14) n) n)))) args s 0 0 (vx_A g)) g 5 82 [(0, .ref (g.2.2.1 35)), (1, .int (pm_set (pu_hm S) (S.1 35 16) (S.1 35 11) (S.1 35 12) (S.1 35 9) (S.1 35 14) n)), (2, .int (pm_G (pu_hm S) (S.1 35 16) (S.1 35 12) (S.1 35 9) (S.1 35 14) n (pm_set (pu_hm S) (S.1 35 16) (S.1 35 11) (S.1 35 12) (S.1 35 9) (S.1 35 14) n))), (4, .int (nI i))] [] (S1) := by
    intro fu
    induction fu with
    | zero =>
      intro i S1 hfu
      exact absurd hfu.1 (by omega)
    | succ fu ih =>
      intro i S1 hfu
      obtain ⟨hf1, hf2, hdn, hc, r35, r42⟩ := hfu
      have hn1 : S1.1 35 0 = nI n := by rw [r35]; simp [upd, hn]
      have w1 : ∀ k, pm_W (pu_hm S1) (S1.1 35 12) (S1.1 35 9) (S1.1 35 14) k = pm_W (pu_hm S) (S.1 35 12) (S.1 35 9) (S.1 35 14) k := fun k => by rw [pu_hm_c (fun c h1 h2 => hc.2 c (by simp only [List.mem_cons, List.not_mem_nil, or_false, not_or]; omega)), r35]; simp [upd]
      refine vv_iload C dX5_goHour_82 3 rfl ?_
      refine vv_aload_n C dX5_goHour_84 rfl 0 rfl ?_
      refine vv_getI C (a := 35) (k := 0) (o := 0) inlX5 rfl rfl rfl (by decide) rfl (tm_10 (List.mem_of_getElem? (i := 18) rfl)) dX5_goHour_85 ?_
      refine vv_icmp_ge (tgt := 126) C dX5_goHour_88 (by decide) (fun h88 => ?_) (fun h88 => ?_)
      · have hge := pu_geT hn1 (by omega) (by omega) h88
        obtain rfl : n = i := by omega
        refine vv_aload_n C dX5_goHour_126 rfl 0 rfl ?_
        refine vv_dup C dX5_goHour_127 rfl ?_
        refine vv_getI C (a := 35) (k := 11) (o := 0) inlX5 rfl rfl rfl (by decide) rfl (tm_4 (List.mem_of_getElem? (i := 3) rfl)) dX5_goHour_128 ?_
        refine vv_iload_n C dX5_goHour_131 rfl 2 rfl ?_
        refine vv_isub C dX5_goHour_132 ?_
        refine vv_putI C (a := 35) (k := 11) inlX5 tyX5 tyX5_ok nmX5 rfl rfl rfl (by decide) rfl rfl rfl (tm_4 (List.mem_of_getElem? (i := 3) rfl)) dX5_goHour_133 ?_
        refine vv_aload_n C dX5_goHour_136 rfl 0 rfl ?_
        refine vv_iload_n C dX5_goHour_137 rfl 1 rfl ?_
        refine vv_putI C (a := 35) (k := 14) inlX5 tyX5 tyX5_ok nmX5 rfl rfl rfl (by decide) rfl rfl rfl (tm_15 (List.mem_of_getElem? (i := 16) rfl)) dX5_goHour_138 ?_
        refine vv_aload_n C dX5_goHour_141 rfl 0 rfl ?_
        refine vv_dup C dX5_goHour_142 rfl ?_
        refine vv_getI C (a := 35) (k := 12) (o := 0) inlX5 rfl rfl rfl (by decide) rfl (tm_12 (List.mem_of_getElem? (i := 3) rfl)) dX5_goHour_143 ?_
        refine vv_iconst (v := (1)) C dX5_goHour_146 (by decide) ?_
        refine vv_iadd C dX5_goHour_147 ?_
        refine vv_putI C (a := 35) (k := 12) inlX5 tyX5 tyX5_ok nmX5 rfl rfl rfl (by decide) rfl rfl rfl (tm_12 (List.mem_of_getElem? (i := 3) rfl)) dX5_goHour_148 ?_
        refine vv_iload_n C dX5_goHour_151 rfl 2 rfl ?_
        refine vv_jret C dX5_goHour_152 ?_
        have hd2 : ¬ pm_dn (pu_hm S) (S.1 35 16) (S.1 35 11) (S.1 35 12) (S.1 35 9) (S.1 35 14) n = true := by rw [hdn]; decide
        refine ⟨by rw [pm_feetH, if_neg hd2], ?_, ?_, ?_⟩
        · iterate 3 refine pu_chg_u ?_ _ _ (by simp)
          exact hc
        · rw [pm_nx, if_neg hd2]
          simp only [vx_u_row, r35]
          simp [vx_u_if, upd, r35]
        · rw [if_neg hd2]
          simp only [vx_u_ne _ _ _ (show (42 : Nat) ≠ 35 by decide)]
          exact r42
      · have hlt := pu_geF hn1 (by omega) (by omega) h88
        refine vv_aload_n C dX5_goHour_91 rfl 0 rfl ?_
        refine vv_gR C (a := 35) (k := 7) (b := 42) inlX5 rfl rfl rfl rfl (by decide) rfl (tm_4 (List.mem_of_getElem? (i := 0) rfl)) dX5_goHour_92 ?_
        refine vv_iload C dX5_goHour_95 3 rfl ?_
        refine vv_dup2 C dX5_goHour_97 rfl rfl ?_
        refine vv_ialdN C (a := 42) rfl (by omega) (by decide) dX5_goHour_98 ?_
        refine vv_iload_n C dX5_goHour_99 rfl 1 rfl ?_
        refine vv_iload C dX5_goHour_100 3 rfl ?_
        refine vv_cS_F C (kk_X5_has l g _ _ _) yk_X5_has (tm_13 (List.mem_of_getElem? (i := 3) rfl)) (by decide) rfl (Nat.le_of_ble_eq_true rfl) rfl dX5_goHour_102 ?_
        refine vv_ifb_eq (tgt := 117) C dX5_goHour_105 (by decide) (fun h105 => ?_) (fun h105 => ?_)
        · refine vv_iconst (v := (0)) C dX5_goHour_117 (by decide) ?_
          refine vv_iadd C dX5_goHour_118 ?_
          refine vv_iastN C (a := 42) rfl (by omega) (by decide) dX5_goHour_119 ?_
          refine vv_iincN (L' := [_, _, _, _]) (j := 3) C dX5_goHour_120 rfl (by decide) rfl ?_
          refine vv_goto (tgt := 82) C dX5_goHour_123 (by decide) ?_
          refine vv_sub (L' := [_, _, _, _]) [1, 2, 3, 0] rfl ?_
          refine ih (i + 1) _ ⟨by omega, by omega, hdn, pu_chg_u hc _ _ (by simp), ?_, ?_⟩
          · rw [vx_u_ne _ _ _ (by decide)]; exact r35
          · rw [vx_u_row, r42, pm_took_at, ← pm_took_s, if_neg (by rw [h105]; decide)]
        · refine vv_aload_n C dX5_goHour_108 rfl 0 rfl ?_
          refine vv_iload C dX5_goHour_109 3 rfl ?_
          refine vv_cV_F C (a := 35) (kk_X5_wantsNow l g _ i (by omega)) yk_X5_wantsNow (tm_15 (List.mem_of_getElem? (i := 12) rfl)) rfl rfl rfl (by decide) rfl (Nat.le_of_ble_eq_true rfl) rfl dX5_goHour_111 ?_
          rw [w1]
          refine vv_goto (tgt := 118) C dX5_goHour_114 (by decide) ?_
          refine vv_iadd C dX5_goHour_118 ?_
          refine vv_iastN C (a := 42) rfl (by omega) (by decide) dX5_goHour_119 ?_
          refine vv_iincN (L' := [_, _, _, _]) (j := 3) C dX5_goHour_120 rfl (by decide) rfl ?_
          refine vv_goto (tgt := 82) C dX5_goHour_123 (by decide) ?_
          refine vv_sub (L' := [_, _, _, _]) [1, 2, 3, 0] rfl ?_
          refine ih (i + 1) _ ⟨by omega, by omega, hdn, pu_chg_u hc _ _ (by simp), ?_, ?_⟩
          · rw [vx_u_ne _ _ _ (by decide)]; exact r35
          · rw [vx_u_row, r42, pm_took_at, ← pm_took_s, if_pos h105]
  refine vv_aload_n C dX5_goHour_0 rfl 0 rfl ?_
  refine vv_cV_F C (a := 35) (kk_X5_working l g _ n hn hn8) yk_X5_working (tm_19 (List.mem_of_getElem? (i := 4) rfl)) rfl rfl rfl (by decide) rfl (Nat.le_of_ble_eq_true rfl) rfl dX5_goHour_1 ?_
  refine vv_istore_n (i := 1) (L' := [_, _]) C dX5_goHour_4 rfl (by decide) rfl ?_
  refine vv_aload_n C dX5_goHour_5 rfl 1 rfl ?_
  refine vv_iload_n C dX5_goHour_6 rfl 0 rfl ?_
  refine vv_cV_F C (a := 35) (kk_X5_goesBy l g _ _ n hn hn8) yk_X5_goesBy (tm_17 (List.mem_of_getElem? (i := 3) rfl)) rfl rfl rfl (by decide) rfl (Nat.le_of_ble_eq_true rfl) rfl dX5_goHour_7 ?_
  refine vv_istore_n (i := 2) (L' := [_, _, _]) C dX5_goHour_10 rfl (by decide) rfl ?_
  refine vv_iload_n C dX5_goHour_11 rfl 0 rfl ?_
  refine vv_aload_n C dX5_goHour_12 rfl 2 rfl ?_
  refine vv_getI C (a := 35) (k := 11) (o := 0) inlX5 rfl rfl rfl (by decide) rfl (tm_4 (List.mem_of_getElem? (i := 3) rfl)) dX5_goHour_13 ?_
  refine vv_icmp_le (tgt := 61) C dX5_goHour_16 (by decide) (fun h16 => ?_) (fun h16 => ?_)
  · refine vv_aload_n C dX5_goHour_61 rfl 2 rfl ?_
    refine vv_iload_n C dX5_goHour_62 rfl 1 rfl ?_
    refine vv_cV_F C (a := 35) (kk_X5_takesBy l g _ _ n hn hn8) yk_X5_takesBy (tm_17 (List.mem_of_getElem? (i := 15) rfl)) rfl rfl rfl (by decide) rfl (Nat.le_of_ble_eq_true rfl) rfl dX5_goHour_63 ?_
    refine vv_istore_n (i := 3) (L' := [_, _, _, _]) C dX5_goHour_66 rfl (by decide) rfl ?_
    refine vv_aload_n C dX5_goHour_67 rfl 3 rfl ?_
    refine vv_dup C dX5_goHour_68 rfl ?_
    refine vv_getI C (a := 35) (k := 13) (o := 0) inlX5 rfl rfl rfl (by decide) rfl (tm_19 (List.mem_of_getElem? (i := 3) rfl)) dX5_goHour_69 ?_
    refine vv_iload_n C dX5_goHour_72 rfl 1 rfl ?_
    refine vv_iload_n C dX5_goHour_73 rfl 0 rfl ?_
    refine vv_isub C dX5_goHour_74 ?_
    refine vv_iadd C dX5_goHour_75 ?_
    refine vv_putI C (a := 35) (k := 13) inlX5 tyX5 tyX5_ok nmX5 rfl rfl rfl (by decide) rfl rfl rfl (tm_19 (List.mem_of_getElem? (i := 3) rfl)) dX5_goHour_76 ?_
    refine vv_iconst (v := (nI 0)) C dX5_goHour_79 (by decide) ?_
    refine vv_istore (L' := [_, _, _, _, _]) C dX5_goHour_80 (by decide) rfl ?_
    refine vv_sub (L' := [_, _, _, _]) [4, 3, 2, 0] rfl ?_
    refine lp82 (n + 1) 0 _ ⟨by omega, by omega, by simp [pm_dn, h16], pu_chg_u (pu_chg_rf S _) _ _ (by simp), vx_u_row _ _ _ _, ?_⟩
    rw [vx_u_ne _ _ _ (by decide), pm_took_0]
  · refine vv_aload_n C dX5_goHour_19 rfl 2 rfl ?_
    refine vv_getI C (a := 35) (k := 11) (o := 0) inlX5 rfl rfl rfl (by decide) rfl (tm_4 (List.mem_of_getElem? (i := 3) rfl)) dX5_goHour_20 ?_
    refine vv_istore_n (i := 3) (L' := [_, _, _, _]) C dX5_goHour_23 rfl (by decide) rfl ?_
    refine vv_aload_n C dX5_goHour_24 rfl 3 rfl ?_
    refine vv_dup C dX5_goHour_25 rfl ?_
    refine vv_getI C (a := 35) (k := 13) (o := 0) inlX5 rfl rfl rfl (by decide) rfl (tm_19 (List.mem_of_getElem? (i := 3) rfl)) dX5_goHour_26 ?_
    refine vv_iload_n C dX5_goHour_29 rfl 0 rfl ?_
    refine vv_iadd C dX5_goHour_30 ?_
    refine vv_putI C (a := 35) (k := 13) inlX5 tyX5 tyX5_ok nmX5 rfl rfl rfl (by decide) rfl rfl rfl (tm_19 (List.mem_of_getElem? (i := 3) rfl)) dX5_goHour_31 ?_
    refine vv_aload_n C dX5_goHour_34 rfl 3 rfl ?_
    refine vv_iconst (v := (0)) C dX5_goHour_35 (by decide) ?_
    refine vv_putI C (a := 35) (k := 11) inlX5 tyX5 tyX5_ok nmX5 rfl rfl rfl (by decide) rfl rfl rfl (tm_4 (List.mem_of_getElem? (i := 3) rfl)) dX5_goHour_36 ?_
    refine vv_aload_n C dX5_goHour_39 rfl 3 rfl ?_
    refine vv_iconst (v := (1)) C dX5_goHour_40 (by decide) ?_
    refine vv_putZ C (a := 35) (k := 15) inlX5 tyX5 tyX5_ok nmX5 rfl rfl rfl (by decide) rfl rfl rfl rfl (tm_18 (List.mem_of_getElem? (i := 22) rfl)) dX5_goHour_41 ?_
    refine vv_aload_n C dX5_goHour_44 rfl 3 rfl ?_
    refine vv_iconst (v := (0)) C dX5_goHour_45 (by decide) ?_
    refine vv_putI C (a := 35) (k := 14) inlX5 tyX5 tyX5_ok nmX5 rfl rfl rfl (by decide) rfl rfl rfl (tm_15 (List.mem_of_getElem? (i := 16) rfl)) dX5_goHour_46 ?_
    refine vv_aload_n C dX5_goHour_49 rfl 3 rfl ?_
    refine vv_dup C dX5_goHour_50 rfl ?_
    refine vv_getI C (a := 35) (k := 12) (o := 0) inlX5 rfl rfl rfl (by decide) rfl (tm_12 (List.mem_of_getElem? (i := 3) rfl)) dX5_goHour_51 ?_
    refine vv_iconst (v := (1)) C dX5_goHour_54 (by decide) ?_
    refine vv_iadd C dX5_goHour_55 ?_
    refine vv_putI C (a := 35) (k := 12) inlX5 tyX5 tyX5_ok nmX5 rfl rfl rfl (by decide) rfl rfl rfl (tm_12 (List.mem_of_getElem? (i := 3) rfl)) dX5_goHour_56 ?_
    refine vv_iload_n C dX5_goHour_59 rfl 0 rfl ?_
    refine vv_jret C dX5_goHour_60 ?_
    have hdn : pm_dn (pu_hm S) (S.1 35 16) (S.1 35 11) (S.1 35 12) (S.1 35 9) (S.1 35 14) n = true := by simp only [pm_dn, h16, not_false_eq_true, decide_true]
    refine ⟨by rw [pm_feetH, if_pos hdn], ?_, ?_, ?_⟩
    · iterate 5 refine pu_chg_u ?_ _ _ (by simp)
      exact pu_chg_rf S _
    · rw [pm_nx, if_pos hdn]
      simp [vx_u_if, upd]
    · rw [if_pos hdn]
      simp [vx_u_if]
theorem yk_X5_hour : vx_yV yX5_hour cX5_hour 1 (some .int) 0 := ⟨(tm_18 (List.mem_of_getElem? (i := 17) rfl)), (tm_1 (List.mem_of_getElem? (i := 5) rfl)), by decide +kernel, (tm_18 (List.mem_of_getElem? (i := 15) rfl)), (tm_18 (List.mem_of_getElem? (i := 16) rfl))⟩
set_option maxHeartbeats 4000000 in
set_option maxRecDepth 100000 in
theorem kk_X5_hour (l : Launch) (g : vx_G) (S : vx_St) (n : Nat) (hn : S.1 35 0 = nI n) (hn8 : n ≤ 8) : vx_M l g yX5_hour cX5_hour 1 (some .int) (vx_R 6 139) [.ref (g.2.2.1 35)] S (vx_pi (fun r S' => r = (if aw_goB (S.1 35 12) (S.1 35 15) = true then pm_feetH (pu_hm S) (S.1 35 16) (S.1 35 11) (S.1 35 12) (S.1 35 9) (S.1 35 14) n else -103) ∧ pu_chg S S' [35, 42] ∧ S'.1 35 = (if aw_goB (S.1 35 12) (S.1 35 15) = true then pm_nx (pu_hm S) (S.1 35) n else S.1 35) ∧ S'.1 42 = (if aw_goB (S.1 35 12) (S.1 35 15) = true then (if pm_dn (pu_hm S) (S.1 35 16) (S.1 35 11) (S.1 35 12) (S.1 35 9) (S.1 35 14) n = true then S.1 42 else pm_took (S.1 42) (pm_W (pu_hm S) (S.1 35 12) (S.1 35 9) (S.1 35 14)) (pm_set (pu_hm S) (S.1 35 16) (S.1 35 11) (S.1 35 12) (S.1 35 9) (S.1 35 14) n) n) else S.1 42))) := by
  refine vx_M.intro (by decide) (Nat.le_of_ble_eq_true rfl) ?_
  intro p e s m args below meth c C
  refine vv_aload_n C dX5_hour_0 rfl 0 rfl ?_
  refine vv_cV_F C (a := 35) (kk_X5_isOver l g _) yk_X5_isOver (tm_18 (List.mem_of_getElem? (i := 18) rfl)) rfl rfl rfl (by decide) rfl (Nat.le_of_ble_eq_true rfl) rfl dX5_hour_1 ?_
  refine vv_ifb_eq (tgt := 12) C dX5_hour_4 (by decide) (fun h4 => ?_) (fun h4 => ?_)
  · rw [Bool.not_eq_false'] at h4
    refine vv_aload_n C dX5_hour_12 rfl 0 rfl ?_
    refine vv_cV_i C (a := 35) (kk_X5_goHour l g _ n hn hn8) yk_X5_goHour (tm_18 (List.mem_of_getElem? (i := 23) rfl)) rfl rfl rfl (by decide) rfl (Nat.le_of_ble_eq_true rfl) rfl dX5_hour_13 (fun r13 S13 h13 => ?_)
    obtain ⟨k1, k2, k3, k4⟩ := h13
    refine vv_jret C dX5_hour_16 ?_
    exact ⟨by rw [if_pos h4]; exact k1, k2, by rw [if_pos h4]; exact k3, by rw [if_pos h4]; exact k4⟩
  · rw [Bool.not_eq_true'] at h4
    refine vv_bipush (v := (-103)) C dX5_hour_7 (by decide) ?_
    refine vv_goto (tgt := 16) C dX5_hour_9 (by decide) ?_
    refine vv_jret C dX5_hour_16 ?_
    have hg : ¬ aw_goB (S.1 35 12) (S.1 35 15) = true := by rw [h4]; decide
    exact ⟨by rw [if_neg hg], pu_chg_rf S _, by rw [if_neg hg], by rw [if_neg hg]⟩
theorem yk_X5_partOf : vx_yV yX5_partOf cX5_partOf 9 (some .int) 1 := ⟨(tm_20 (List.mem_of_getElem? (i := 10) rfl)), (tm_1 (List.mem_of_getElem? (i := 5) rfl)), by decide +kernel, (tm_20 (List.mem_of_getElem? (i := 8) rfl)), (tm_20 (List.mem_of_getElem? (i := 9) rfl))⟩
set_option maxHeartbeats 4000000 in
set_option maxRecDepth 100000 in
theorem kk_X5_partOf (l : Launch) (g : vx_G) (S : vx_St) (k : Nat) (n : Nat) (hn : S.1 35 0 = nI n) (hn8 : n ≤ 8) (hk : k < n) : vx_M l g yX5_partOf cX5_partOf 9 (some .int) (vx_R 1 22) [.ref (g.2.2.1 35), .int (nI k)] S (vx_pf (pm_part (S.1 35 10 - S.1 35 11) (S.1 42) n k) S) := by
  refine vx_M.intro (by decide) (Nat.le_of_ble_eq_true rfl) ?_
  intro p e s m args below meth c C
  have lp30 : ∀ (fu : Nat) (i : Nat), (n - i < fu ∧ i ≤ n ∧ ¬ (pm_sm (S.1 42) n) = 0) → vx_V p l e (vx_R 1 22) s m args below meth c (MQ below (vx_Q g (vx_pf (pm_part (S.1 35 10 - S.1 35 11) (S.1 42) n k) S)) args s 0 0 (vx_A g)) g 9 30 [(0, .ref (g.2.2.1 35)), (1, .int (nI k)), (2, .int (pm_sm (S.1 42) n)), (3, .int (S.1 35 10 - S.1 35 11)), (4, .int (pm_sm (pm_q (S.1 35 10 - S.1 35 11) (pm_sm (S.1 42) n) (S.1 42)) i)), (5, .int (nI (pm_ahd (S.1 35 10 - S.1 35 11) (pm_sm (S.1 42) n) (S.1 42) k i))), (6, .int (nI i))] [] (S) := by
    intro fu
    induction fu with
    | zero =>
      intro i hfu
      exact absurd hfu.1 (by omega)
    | succ fu ih =>
      intro i hfu
      obtain ⟨hf1, hf2, hal⟩ := hfu
      refine vv_iload C dX5_partOf_30 6 rfl ?_
      refine vv_aload_n C dX5_partOf_32 rfl 0 rfl ?_
      refine vv_getI C (a := 35) (k := 0) (o := 0) inlX5 rfl rfl rfl (by decide) rfl (tm_10 (List.mem_of_getElem? (i := 18) rfl)) dX5_partOf_33 ?_
      refine vv_icmp_ge (tgt := 116) C dX5_partOf_36 (by decide) (fun h36 => ?_) (fun h36 => ?_)
      · have hge := pu_geT hn (by omega) (by omega) h36
        obtain rfl : n = i := by omega
        refine vv_iload_n C dX5_partOf_116 rfl 3 rfl ?_
        refine vv_aload_n C dX5_partOf_117 rfl 0 rfl ?_
        refine vv_gR C (a := 35) (k := 7) (b := 42) inlX5 rfl rfl rfl rfl (by decide) rfl (tm_4 (List.mem_of_getElem? (i := 0) rfl)) dX5_partOf_118 ?_
        refine vv_iload_n C dX5_partOf_121 rfl 1 rfl ?_
        refine vv_ialdN C (a := 42) rfl (by omega) (by decide) dX5_partOf_122 ?_
        refine vv_imul C dX5_partOf_123 ?_
        refine vv_iload_n C dX5_partOf_124 rfl 2 rfl ?_
        refine vv_idiv C dX5_partOf_125 hal ?_
        refine vv_iload C dX5_partOf_126 5 rfl ?_
        refine vv_iload_n C dX5_partOf_128 rfl 3 rfl ?_
        refine vv_iload C dX5_partOf_129 4 rfl ?_
        refine vv_isub C dX5_partOf_131 ?_
        refine vv_icmp_ge (tgt := 139) C dX5_partOf_132 (by decide) (fun h132 => ?_) (fun h132 => ?_)
        · refine vv_iconst (v := (0)) C dX5_partOf_139 (by decide) ?_
          refine vv_iadd C dX5_partOf_140 ?_
          refine vv_fret C dX5_partOf_141 ?_
          rw [pm_part, if_neg hal, if_neg (fun z => pu_lt z h132)]
          rfl
        · refine vv_iconst (v := (1)) C dX5_partOf_135 (by decide) ?_
          refine vv_goto (tgt := 140) C dX5_partOf_136 (by decide) ?_
          refine vv_iadd C dX5_partOf_140 ?_
          refine vv_fret C dX5_partOf_141 ?_
          rw [pm_part, if_neg hal, if_pos (pu_nle h132)]
          rfl
      · have hlt := pu_geF hn (by omega) (by omega) h36
        refine vv_iload C dX5_partOf_39 4 rfl ?_
        refine vv_iload_n C dX5_partOf_41 rfl 3 rfl ?_
        refine vv_aload_n C dX5_partOf_42 rfl 0 rfl ?_
        refine vv_gR C (a := 35) (k := 7) (b := 42) inlX5 rfl rfl rfl rfl (by decide) rfl (tm_4 (List.mem_of_getElem? (i := 0) rfl)) dX5_partOf_43 ?_
        refine vv_iload C dX5_partOf_46 6 rfl ?_
        refine vv_ialdN C (a := 42) rfl (by omega) (by decide) dX5_partOf_48 ?_
        refine vv_imul C dX5_partOf_49 ?_
        refine vv_iload_n C dX5_partOf_50 rfl 2 rfl ?_
        refine vv_idiv C dX5_partOf_51 hal ?_
        refine vv_iadd C dX5_partOf_52 ?_
        refine vv_istore (L' := [_, _, _, _, _, _, _]) C dX5_partOf_53 (by decide) rfl ?_
        refine vv_iload_n C dX5_partOf_55 rfl 4 rfl ?_
        refine vv_aload_n C dX5_partOf_56 rfl 1 rfl ?_
        refine vv_gR C (a := 35) (k := 7) (b := 42) inlX5 rfl rfl rfl rfl (by decide) rfl (tm_4 (List.mem_of_getElem? (i := 0) rfl)) dX5_partOf_57 ?_
        refine vv_iload C dX5_partOf_60 6 rfl ?_
        refine vv_ialdN C (a := 42) rfl (by omega) (by decide) dX5_partOf_62 ?_
        refine vv_imul C dX5_partOf_63 ?_
        refine vv_iload_n C dX5_partOf_64 rfl 3 rfl ?_
        refine vv_irem C dX5_partOf_65 hal ?_
        refine vv_istore (L' := [_, _, _, _, _, _, _, _]) C dX5_partOf_66 (by decide) rfl ?_
        refine vv_iload_n C dX5_partOf_68 rfl 5 rfl ?_
        refine vv_aload_n C dX5_partOf_69 rfl 2 rfl ?_
        refine vv_gR C (a := 35) (k := 7) (b := 42) inlX5 rfl rfl rfl rfl (by decide) rfl (tm_4 (List.mem_of_getElem? (i := 0) rfl)) dX5_partOf_70 ?_
        refine vv_iload_n C dX5_partOf_73 rfl 3 rfl ?_
        refine vv_ialdN C (a := 42) rfl (by omega) (by decide) dX5_partOf_74 ?_
        refine vv_imul C dX5_partOf_75 ?_
        refine vv_iload_n C dX5_partOf_76 rfl 4 rfl ?_
        refine vv_irem C dX5_partOf_77 hal ?_
        refine vv_istore (L' := [_, _, _, _, _, _, _, _, _]) C dX5_partOf_78 (by decide) rfl ?_
        refine vv_iload C dX5_partOf_80 7 rfl ?_
        refine vv_iload C dX5_partOf_82 1 rfl ?_
        refine vv_iload C dX5_partOf_84 0 rfl ?_
        refine vv_icmp_gt (tgt := 102) C dX5_partOf_86 (by decide) (fun h86 => ?_) (fun h86 => ?_)
        · refine vv_iconst (v := (1)) C dX5_partOf_102 (by decide) ?_
          refine vv_goto (tgt := 107) C dX5_partOf_103 (by decide) ?_
          refine vv_iadd C dX5_partOf_107 ?_
          refine vv_istore (L' := [_, _, _, _, _, _, _, _, _]) C dX5_partOf_108 (by decide) rfl ?_
          refine vv_iincN (L' := [_, _, _, _, _, _, _, _, _]) (j := 8) C dX5_partOf_110 rfl (by decide) rfl ?_
          refine vv_goto (tgt := 30) C dX5_partOf_113 (by decide) ?_
          refine vv_sub (L' := [_, _, _, _, _, _, _]) [5, 6, 7, 8, 4, 1, 0] rfl ?_
          have q := ih (i + 1) ⟨by omega, by omega, hal⟩
          rw [pm_ahd, if_pos (Or.inl (show pm_r (S.1 35 10 - S.1 35 11) (pm_sm (S.1 42) n) (S.1 42) k < pm_r (S.1 35 10 - S.1 35 11) (pm_sm (S.1 42) n) (S.1 42) i from h86)), ← nI_1] at q
          exact q
        · refine vv_iload C dX5_partOf_89 1 rfl ?_
          refine vv_iload C dX5_partOf_91 0 rfl ?_
          refine vv_icmp_ne (tgt := 106) C dX5_partOf_93 (by decide) (fun h93 => ?_) (fun h93 => ?_)
          · refine vv_iconst (v := (0)) C dX5_partOf_106 (by decide) ?_
            refine vv_iadd C dX5_partOf_107 ?_
            refine vv_istore (L' := [_, _, _, _, _, _, _, _, _]) C dX5_partOf_108 (by decide) rfl ?_
            refine vv_iincN (L' := [_, _, _, _, _, _, _, _, _]) (j := 8) C dX5_partOf_110 rfl (by decide) rfl ?_
            refine vv_goto (tgt := 30) C dX5_partOf_113 (by decide) ?_
            refine vv_sub (L' := [_, _, _, _, _, _, _]) [5, 6, 7, 8, 4, 1, 0] rfl ?_
            have q := ih (i + 1) ⟨by omega, by omega, hal⟩
            rw [pm_ahd, if_neg (fun z => z.elim h86 (fun z => h93 z.1))] at q
            rw [pm_add0]
            exact q
          · refine vv_iload C dX5_partOf_96 8 rfl ?_
            refine vv_iload_n C dX5_partOf_98 rfl 4 rfl ?_
            refine vv_icmp_ge (tgt := 106) C dX5_partOf_99 (by decide) (fun h99 => ?_) (fun h99 => ?_)
            · have hge99 := pu_geT rfl (by omega) (by omega) h99
              refine vv_iconst (v := (0)) C dX5_partOf_106 (by decide) ?_
              refine vv_iadd C dX5_partOf_107 ?_
              refine vv_istore (L' := [_, _, _, _, _, _, _, _, _]) C dX5_partOf_108 (by decide) rfl ?_
              refine vv_iincN (L' := [_, _, _, _, _, _, _, _, _]) (j := 8) C dX5_partOf_110 rfl (by decide) rfl ?_
              refine vv_goto (tgt := 30) C dX5_partOf_113 (by decide) ?_
              refine vv_sub (L' := [_, _, _, _, _, _, _]) [5, 6, 7, 8, 4, 1, 0] rfl ?_
              have q := ih (i + 1) ⟨by omega, by omega, hal⟩
              rw [pm_ahd, if_neg (fun z => z.elim h86 (fun z => absurd z.2 (by omega)))] at q
              rw [pm_add0]
              exact q
            · have hlt99 := pu_geF rfl (by omega) (by omega) h99
              refine vv_iconst (v := (1)) C dX5_partOf_102 (by decide) ?_
              refine vv_goto (tgt := 107) C dX5_partOf_103 (by decide) ?_
              refine vv_iadd C dX5_partOf_107 ?_
              refine vv_istore (L' := [_, _, _, _, _, _, _, _, _]) C dX5_partOf_108 (by decide) rfl ?_
              refine vv_iincN (L' := [_, _, _, _, _, _, _, _, _]) (j := 8) C dX5_partOf_110 rfl (by decide) rfl ?_
              refine vv_goto (tgt := 30) C dX5_partOf_113 (by decide) ?_
              refine vv_sub (L' := [_, _, _, _, _, _, _]) [5, 6, 7, 8, 4, 1, 0] rfl ?_
              have q := ih (i + 1) ⟨by omega, by omega, hal⟩
              rw [pm_ahd, if_pos (Or.inr ⟨h93, hlt99⟩), ← nI_1] at q
              exact q
  refine vv_aload_n C dX5_partOf_0 rfl 0 rfl ?_
  refine vv_cV_F C (a := 35) (kk_X5_takenAll l g _ n hn hn8) yk_X5_takenAll (tm_20 (List.mem_of_getElem? (i := 11) rfl)) rfl rfl rfl (by decide) rfl (Nat.le_of_ble_eq_true rfl) rfl dX5_partOf_1 ?_
  refine vv_istore_n (i := 2) (L' := [_, _, _]) C dX5_partOf_4 rfl (by decide) rfl ?_
  refine vv_aload_n C dX5_partOf_5 rfl 1 rfl ?_
  refine vv_getI C (a := 35) (k := 10) (o := 0) inlX5 rfl rfl rfl (by decide) rfl (tm_4 (List.mem_of_getElem? (i := 2) rfl)) dX5_partOf_6 ?_
  refine vv_aload_n C dX5_partOf_9 rfl 1 rfl ?_
  refine vv_getI C (a := 35) (k := 11) (o := 0) inlX5 rfl rfl rfl (by decide) rfl (tm_4 (List.mem_of_getElem? (i := 3) rfl)) dX5_partOf_10 ?_
  refine vv_isub C dX5_partOf_13 ?_
  refine vv_istore_n (i := 3) (L' := [_, _, _, _]) C dX5_partOf_14 rfl (by decide) rfl ?_
  refine vv_iload_n C dX5_partOf_15 rfl 1 rfl ?_
  refine vv_if_ne (tgt := 21) C dX5_partOf_16 (by decide) (fun h16 => ?_) (fun h16 => ?_)
  · refine vv_iconst (v := (0)) C dX5_partOf_21 (by decide) ?_
    refine vv_istore (L' := [_, _, _, _, _]) C dX5_partOf_22 (by decide) rfl ?_
    refine vv_iconst (v := (nI 0)) C dX5_partOf_24 (by decide) ?_
    refine vv_istore (L' := [_, _, _, _, _, _]) C dX5_partOf_25 (by decide) rfl ?_
    refine vv_iconst (v := (nI 0)) C dX5_partOf_27 (by decide) ?_
    refine vv_istore (L' := [_, _, _, _, _, _, _]) C dX5_partOf_28 (by decide) rfl ?_
    refine vv_sub (L' := [_, _, _, _, _, _, _]) [5, 6, 4, 3, 2, 1, 0] rfl ?_
    exact lp30 (n + 1) 0 ⟨by omega, by omega, h16⟩
  · refine vv_iconst (v := (0)) C dX5_partOf_19 (by decide) ?_
    refine vv_fret C dX5_partOf_20 ?_
    rw [pm_part, if_pos h16]
theorem yk_X5_part : vx_yV yX5_part cX5_part 2 (some .int) 1 := ⟨(tm_20 (List.mem_of_getElem? (i := 6) rfl)), (tm_1 (List.mem_of_getElem? (i := 5) rfl)), by decide +kernel, (tm_20 (List.mem_of_getElem? (i := 4) rfl)), (tm_20 (List.mem_of_getElem? (i := 5) rfl))⟩
set_option maxHeartbeats 4000000 in
set_option maxRecDepth 100000 in
theorem kk_X5_part (l : Launch) (g : vx_G) (S : vx_St) (h : Int32) (n : Nat) (hn : S.1 35 0 = nI n) (hn8 : n ≤ 8) : vx_M l g yX5_part cX5_part 2 (some .int) (vx_R 2 50) [.ref (g.2.2.1 35), .int h] S (vx_pf (if pu_hq h (S.1 35 0) = true then pm_part (S.1 35 10 - S.1 35 11) (S.1 42) n h.toNatClampNeg else -101) S) := by
  refine vx_M.intro (by decide) (Nat.le_of_ble_eq_true rfl) ?_
  intro p e s m args below meth c C
  refine vv_aload_n C dX5_part_0 rfl 0 rfl ?_
  refine vv_iload_n C dX5_part_1 rfl 1 rfl ?_
  refine vv_cV_F C (a := 35) (kk_X5_isHouse l g _ _ n hn hn8) yk_X5_isHouse (tm_12 (List.mem_of_getElem? (i := 19) rfl)) rfl rfl rfl (by decide) rfl (Nat.le_of_ble_eq_true rfl) rfl dX5_part_2 ?_
  refine vv_ifb_eq (tgt := 16) C dX5_part_5 (by decide) (fun h5 => ?_) (fun h5 => ?_)
  · refine vv_bipush (v := (-101)) C dX5_part_16 (by decide) ?_
    refine vv_fret C dX5_part_18 ?_
    rw [if_neg (by rw [h5]; decide)]
  · have hq := h5
    obtain ⟨k, hk, rfl⟩ := pu_hq_k hn (by omega) h5
    refine vv_aload_n C dX5_part_8 rfl 0 rfl ?_
    refine vv_iload_n C dX5_part_9 rfl 1 rfl ?_
    refine vv_cV_F C (a := 35) (kk_X5_partOf l g _ k n hn hn8 hk) yk_X5_partOf (tm_20 (List.mem_of_getElem? (i := 7) rfl)) rfl rfl rfl (by decide) rfl (Nat.le_of_ble_eq_true rfl) rfl dX5_part_10 ?_
    refine vv_goto (tgt := 18) C dX5_part_13 (by decide) ?_
    refine vv_fret C dX5_part_18 ?_
    rw [if_pos hq, nI_clamp (by omega)]
theorem yk_X5_night : vx_yV yX5_night cX5_night 4 (some .int) 0 := ⟨(tm_21 (List.mem_of_getElem? (i := 3) rfl)), (tm_1 (List.mem_of_getElem? (i := 5) rfl)), by decide +kernel, (tm_21 (List.mem_of_getElem? (i := 1) rfl)), (tm_21 (List.mem_of_getElem? (i := 2) rfl))⟩
set_option maxHeartbeats 4000000 in
set_option maxRecDepth 100000 in
theorem kk_X5_night (l : Launch) (g : vx_G) (S : vx_St) (n : Nat) (hn : S.1 35 0 = nI n) (hn8 : n ≤ 8) : vx_M l g yX5_night cX5_night 4 (some .int) (vx_R 2 50) [.ref (g.2.2.1 35)] S (vx_pi (fun r S' => r = (S.1 35 10 - S.1 35 11) ∧ pu_chg S S' [35, 42, 43] ∧ S'.1 35 = pm_ngt (S.1 35) ∧ S'.1 42 = pu_fill (fun _ => 0) (S.1 42) n ∧ S'.1 43 = pu_fill (fun h => pm_mn (S.1 43 h + pm_part (S.1 35 10 - S.1 35 11) (S.1 42) n h)) (S.1 43) n)) := by
  refine vx_M.intro (by decide) (Nat.le_of_ble_eq_true rfl) ?_
  intro p e s m args below meth c C
  have lp61 : ∀ (fu : Nat) (i : Nat) (S1 : vx_St), (n - i < fu ∧ i ≤ n ∧ pu_chg S S1 [35, 42, 43] ∧ S1.1 35 = S.1 35 ∧ S1.1 42 = pu_fill (fun _ => 0) (S.1 42) i ∧ S1.1 43 = pu_fill (fun h => pm_mn (S.1 43 h + pm_part (S.1 35 10 - S.1 35 11) (S.1 42) n h)) (S.1 43) n) → vx_V p l e (vx_R 2 50) s m args below meth c (MQ below (vx_Q g (vx_pi (fun r S' => r = (S.1 35 10 - S.1 35 11) ∧ pu_chg S S' [35, 42, 43] ∧ S'.1 35 = pm_ngt (S.1 35) ∧ S'.1 42 = pu_fill (fun _ => 0) (S.1 42) n ∧ S'.1 43 = pu_fill (fun h => pm_mn (S.1 43 h + pm_part (S.1 35 10 - S.1 35 11) (S.1 42) n h)) (S.1 43) n))) args s 0 0 (vx_A g)) g 4 61 [(0, .ref (g.2.2.1 35)), (1, .int (S.1 35 10 - S.1 35 11)), (2, .int (nI i))] [] (S1) := by
    intro fu
    induction fu with
    | zero =>
      intro i S1 hfu
      exact absurd hfu.1 (by omega)
    | succ fu ih =>
      intro i S1 hfu
      obtain ⟨hf1, hf2, hc, r35, r42, r43⟩ := hfu
      have hn1 : S1.1 35 0 = nI n := by rw [r35]; exact hn
      refine vv_iload_n C dX5_night_61 rfl 2 rfl ?_
      refine vv_aload_n C dX5_night_62 rfl 0 rfl ?_
      refine vv_getI C (a := 35) (k := 0) (o := 0) inlX5 rfl rfl rfl (by decide) rfl (tm_10 (List.mem_of_getElem? (i := 18) rfl)) dX5_night_63 ?_
      refine vv_icmp_ge (tgt := 82) C dX5_night_66 (by decide) (fun h66 => ?_) (fun h66 => ?_)
      · have g66 := pu_le h66
        have hge := pu_geT hn1 (by omega) (by omega) h66
        obtain rfl : n = i := by omega
        refine vv_aload_n C dX5_night_82 rfl 0 rfl ?_
        refine vv_iconst (v := (0)) C dX5_night_83 (by decide) ?_
        refine vv_putI C (a := 35) (k := 12) inlX5 tyX5 tyX5_ok nmX5 rfl rfl rfl (by decide) rfl rfl rfl (tm_12 (List.mem_of_getElem? (i := 3) rfl)) dX5_night_84 ?_
        refine vv_aload_n C dX5_night_87 rfl 0 rfl ?_
        refine vv_aload_n C dX5_night_88 rfl 0 rfl ?_
        refine vv_getI C (a := 35) (k := 10) (o := 0) inlX5 rfl rfl rfl (by decide) rfl (tm_4 (List.mem_of_getElem? (i := 2) rfl)) dX5_night_89 ?_
        refine vv_putI C (a := 35) (k := 11) inlX5 tyX5 tyX5_ok nmX5 rfl rfl rfl (by decide) rfl rfl rfl (tm_4 (List.mem_of_getElem? (i := 3) rfl)) dX5_night_92 ?_
        refine vv_aload_n C dX5_night_95 rfl 0 rfl ?_
        refine vv_iconst (v := (0)) C dX5_night_96 (by decide) ?_
        refine vv_putI C (a := 35) (k := 13) inlX5 tyX5 tyX5_ok nmX5 rfl rfl rfl (by decide) rfl rfl rfl (tm_19 (List.mem_of_getElem? (i := 3) rfl)) dX5_night_97 ?_
        refine vv_aload_n C dX5_night_100 rfl 0 rfl ?_
        refine vv_iconst (v := (0)) C dX5_night_101 (by decide) ?_
        refine vv_putI C (a := 35) (k := 14) inlX5 tyX5 tyX5_ok nmX5 rfl rfl rfl (by decide) rfl rfl rfl (tm_15 (List.mem_of_getElem? (i := 16) rfl)) dX5_night_102 ?_
        refine vv_aload_n C dX5_night_105 rfl 0 rfl ?_
        refine vv_iconst (v := (0)) C dX5_night_106 (by decide) ?_
        refine vv_putZ C (a := 35) (k := 15) inlX5 tyX5 tyX5_ok nmX5 rfl rfl rfl (by decide) rfl rfl rfl rfl (tm_18 (List.mem_of_getElem? (i := 22) rfl)) dX5_night_107 ?_
        refine vv_iload_n C dX5_night_110 rfl 1 rfl ?_
        refine vv_jret C dX5_night_111 ?_
        refine ⟨rfl, ?_, ?_, ?_, ?_⟩
        · iterate 5 refine pu_chg_u ?_ _ _ (by simp)
          exact hc
        · simp only [vx_u_row, r35, pm_ngt]
          simp [upd]
        · simp only [vx_u_ne _ _ _ (show (42 : Nat) ≠ 35 by decide)]
          exact r42
        · simp only [vx_u_ne _ _ _ (show (43 : Nat) ≠ 35 by decide)]
          exact r43
      · have g66 := pu_nle h66
        have hlt := pu_geF hn1 (by omega) (by omega) h66
        refine vv_aload_n C dX5_night_69 rfl 0 rfl ?_
        refine vv_gR C (a := 35) (k := 7) (b := 42) inlX5 rfl rfl rfl rfl (by decide) rfl (tm_4 (List.mem_of_getElem? (i := 0) rfl)) dX5_night_70 ?_
        refine vv_iload_n C dX5_night_73 rfl 2 rfl ?_
        refine vv_iconst (v := (0)) C dX5_night_74 (by decide) ?_
        refine vv_iastN C (a := 42) rfl (by omega) (by decide) dX5_night_75 ?_
        refine vv_iincN (L' := [_, _, _]) (j := 2) C dX5_night_76 rfl (by decide) rfl ?_
        refine vv_goto (tgt := 61) C dX5_night_79 (by decide) ?_
        refine vv_sub (L' := [_, _, _]) [1, 2, 0] rfl ?_
        refine ih (i + 1) _ ⟨by omega, by omega, pu_chg_u hc _ _ (by simp), ?_, ?_, ?_⟩
        · rw [vx_u_ne _ _ _ (by decide)]; exact r35
        · rw [vx_u_row, r42]; exact pu_fill_s (fun _ => 0) _ i
        · rw [vx_u_ne _ _ _ (by decide)]; exact r43
  have lp12 : ∀ (fu : Nat) (i : Nat) (S1 : vx_St), (n - i < fu ∧ i ≤ n ∧ pu_chg S S1 [35, 42, 43] ∧ S1.1 35 = S.1 35 ∧ S1.1 42 = S.1 42 ∧ S1.1 43 = pu_fill (fun h => pm_mn (S.1 43 h + pm_part (S.1 35 10 - S.1 35 11) (S.1 42) n h)) (S.1 43) i) → vx_V p l e (vx_R 2 50) s m args below meth c (MQ below (vx_Q g (vx_pi (fun r S' => r = (S.1 35 10 - S.1 35 11) ∧ pu_chg S S' [35, 42, 43] ∧ S'.1 35 = pm_ngt (S.1 35) ∧ S'.1 42 = pu_fill (fun _ => 0) (S.1 42) n ∧ S'.1 43 = pu_fill (fun h => pm_mn (S.1 43 h + pm_part (S.1 35 10 - S.1 35 11) (S.1 42) n h)) (S.1 43) n))) args s 0 0 (vx_A g)) g 4 12 [(0, .ref (g.2.2.1 35)), (1, .int (S.1 35 10 - S.1 35 11)), (2, .int (nI i))] [] (S1) := by
    intro fu
    induction fu with
    | zero =>
      intro i S1 hfu
      exact absurd hfu.1 (by omega)
    | succ fu ih =>
      intro i S1 hfu
      obtain ⟨hf1, hf2, hc, r35, r42, r43⟩ := hfu
      have hn1 : S1.1 35 0 = nI n := by rw [r35]; exact hn
      have e43 : S1.1 43 i = S.1 43 i := by rw [r43]; exact if_neg (Nat.lt_irrefl i)
      refine vv_iload_n C dX5_night_12 rfl 2 rfl ?_
      refine vv_aload_n C dX5_night_13 rfl 0 rfl ?_
      refine vv_getI C (a := 35) (k := 0) (o := 0) inlX5 rfl rfl rfl (by decide) rfl (tm_10 (List.mem_of_getElem? (i := 18) rfl)) dX5_night_14 ?_
      refine vv_icmp_ge (tgt := 59) C dX5_night_17 (by decide) (fun h17 => ?_) (fun h17 => ?_)
      · have g17 := pu_le h17
        have hge := pu_geT hn1 (by omega) (by omega) h17
        obtain rfl : n = i := by omega
        refine vv_iconst (v := (nI 0)) C dX5_night_59 (by decide) ?_
        refine vv_istore_n (i := 2) (L' := [_, _, _]) C dX5_night_60 rfl (by decide) rfl ?_
        refine vv_sub (L' := [_, _, _]) [1, 2, 0] rfl ?_
        exact lp61 (n + 1) 0 S1 ⟨by omega, by omega, hc, r35, r42, r43⟩
      · have g17 := pu_nle h17
        have hlt := pu_geF hn1 (by omega) (by omega) h17
        refine vv_aload_n C dX5_night_20 rfl 0 rfl ?_
        refine vv_gR C (a := 35) (k := 8) (b := 43) inlX5 rfl rfl rfl rfl (by decide) rfl (tm_4 (List.mem_of_getElem? (i := 1) rfl)) dX5_night_21 ?_
        refine vv_iload_n C dX5_night_24 rfl 2 rfl ?_
        refine vv_ialdN C (a := 43) rfl (by omega) (by decide) dX5_night_25 ?_
        refine vv_aload_n C dX5_night_26 rfl 0 rfl ?_
        refine vv_iload_n C dX5_night_27 rfl 2 rfl ?_
        refine vv_cV_F C (a := 35) (kk_X5_partOf l g _ i n hn1 hn8 hlt) yk_X5_partOf (tm_20 (List.mem_of_getElem? (i := 7) rfl)) rfl rfl rfl (by decide) rfl (Nat.le_of_ble_eq_true rfl) rfl dX5_night_28 ?_
        rw [r35, r42]
        refine vv_iadd C dX5_night_31 ?_
        refine vv_istore_n (i := 3) (L' := [_, _, _, _]) C dX5_night_32 rfl (by decide) rfl ?_
        refine vv_aload_n C dX5_night_33 rfl 1 rfl ?_
        refine vv_gR C (a := 35) (k := 8) (b := 43) inlX5 rfl rfl rfl rfl (by decide) rfl (tm_4 (List.mem_of_getElem? (i := 1) rfl)) dX5_night_34 ?_
        refine vv_iload_n C dX5_night_37 rfl 3 rfl ?_
        refine vv_iload_n C dX5_night_38 rfl 0 rfl ?_
        refine vv_sipush (v := (999)) C dX5_night_39 (by decide) ?_
        refine vv_icmp_le (tgt := 51) C dX5_night_42 (by decide) (fun h42 => ?_) (fun h42 => ?_)
        · have g42 := pu_le h42
          refine vv_iload_n C dX5_night_51 rfl 0 rfl ?_
          refine vv_iastN C (a := 43) rfl (by omega) (by decide) dX5_night_52 ?_
          refine vv_iincN (L' := [_, _, _, _]) (j := 3) C dX5_night_53 rfl (by decide) rfl ?_
          refine vv_goto (tgt := 12) C dX5_night_56 (by decide) ?_
          refine vv_sub (L' := [_, _, _]) [2, 3, 0] rfl ?_
          refine ih (i + 1) _ ⟨by omega, by omega, pu_chg_u hc _ _ (by simp), ?_, ?_, ?_⟩
          · rw [vx_u_ne _ _ _ (by decide)]; exact r35
          · rw [vx_u_ne _ _ _ (by decide)]; exact r42
          · rw [vx_u_row, e43, r43, ← pu_fill_s]
            congr 1
            simp only [pm_mn]
            rw [e43] at h42
            rw [if_pos h42]
        · have g42 := pu_nle h42
          refine vv_sipush (v := (999)) C dX5_night_45 (by decide) ?_
          refine vv_goto (tgt := 52) C dX5_night_48 (by decide) ?_
          refine vv_iastN C (a := 43) rfl (by omega) (by decide) dX5_night_52 ?_
          refine vv_iincN (L' := [_, _, _, _]) (j := 3) C dX5_night_53 rfl (by decide) rfl ?_
          refine vv_goto (tgt := 12) C dX5_night_56 (by decide) ?_
          refine vv_sub (L' := [_, _, _]) [2, 3, 0] rfl ?_
          refine ih (i + 1) _ ⟨by omega, by omega, pu_chg_u hc _ _ (by simp), ?_, ?_, ?_⟩
          · rw [vx_u_ne _ _ _ (by decide)]; exact r35
          · rw [vx_u_ne _ _ _ (by decide)]; exact r42
          · rw [vx_u_row, r43, ← pu_fill_s]
            congr 1
            simp only [pm_mn]
            rw [e43] at h42
            rw [if_neg h42]
  refine vv_aload_n C dX5_night_0 rfl 0 rfl ?_
  refine vv_getI C (a := 35) (k := 10) (o := 0) inlX5 rfl rfl rfl (by decide) rfl (tm_4 (List.mem_of_getElem? (i := 2) rfl)) dX5_night_1 ?_
  refine vv_aload_n C dX5_night_4 rfl 0 rfl ?_
  refine vv_getI C (a := 35) (k := 11) (o := 0) inlX5 rfl rfl rfl (by decide) rfl (tm_4 (List.mem_of_getElem? (i := 3) rfl)) dX5_night_5 ?_
  refine vv_isub C dX5_night_8 ?_
  refine vv_istore_n (i := 1) (L' := [_, _]) C dX5_night_9 rfl (by decide) rfl ?_
  refine vv_iconst (v := (nI 0)) C dX5_night_10 (by decide) ?_
  refine vv_istore_n (i := 2) (L' := [_, _, _]) C dX5_night_11 rfl (by decide) rfl ?_
  refine vv_sub (L' := [_, _, _]) [2, 1, 0] rfl ?_
  exact lp12 (n + 1) 0 S ⟨by omega, by omega, pu_chg_rf S _, rfl, rfl, rfl⟩
theorem yk_X5_feetBy : vx_yV yX5_feetBy cX5_feetBy 5 (some .int) 1 := ⟨(tm_28 (List.mem_of_getElem? (i := 0) rfl)), (tm_1 (List.mem_of_getElem? (i := 5) rfl)), by decide +kernel, (tm_27 (List.mem_of_getElem? (i := 22) rfl)), (tm_27 (List.mem_of_getElem? (i := 23) rfl))⟩
set_option maxHeartbeats 4000000 in
set_option maxRecDepth 100000 in
theorem kk_X5_feetBy (l : Launch) (g : vx_G) (S : vx_St) (t : Int32) (n : Nat) (hn : S.1 35 0 = nI n) (hn8 : n ≤ 8) : vx_M l g yX5_feetBy cX5_feetBy 5 (some .int) (vx_R 2 44) [.ref (g.2.2.1 35), .int t] S (vx_pf (pm_feet (pu_hm S) n t) S) := by
  refine vx_M.intro (by decide) (Nat.le_of_ble_eq_true rfl) ?_
  intro p e s m args below meth c C
  have lp15 : ∀ (fu : Nat) (i : Nat), (n - i < fu ∧ i ≤ n) → vx_V p l e (vx_R 2 44) s m args below meth c (MQ below (vx_Q g (vx_pf (pm_feet (pu_hm S) n t) S)) args s 0 0 (vx_A g)) g 5 15 [(0, .ref (g.2.2.1 35)), (2, .int (pm_sh (S.1 37) n t)), (3, .int (pm_gl (fun _ => 0) (S.1 41) 0 (pm_sh (S.1 37) n t) (pu_sum (S.1 40) t n) i)), (4, .int (nI i))] [] (S) := by
    intro fu
    induction fu with
    | zero =>
      intro i hfu
      exact absurd hfu.1 (by omega)
    | succ fu ih =>
      intro i hfu
      obtain ⟨hf1, hf2⟩ := hfu
      refine vv_iload C dX5_feetBy_15 3 rfl ?_
      refine vv_aload_n C dX5_feetBy_17 rfl 0 rfl ?_
      refine vv_getI C (a := 35) (k := 0) (o := 0) inlX5 rfl rfl rfl (by decide) rfl (tm_10 (List.mem_of_getElem? (i := 18) rfl)) dX5_feetBy_18 ?_
      refine vv_icmp_ge (tgt := 53) C dX5_feetBy_21 (by decide) (fun h21 => ?_) (fun h21 => ?_)
      · have hge := pu_geT hn (by omega) (by omega) h21
        obtain rfl : n = i := by omega
        refine vv_iload_n C dX5_feetBy_53 rfl 2 rfl ?_
        refine vv_fret C dX5_feetBy_54 ?_
        rfl
      · have hlt := pu_geF hn (by omega) (by omega) h21
        refine vv_iload_n C dX5_feetBy_24 rfl 2 rfl ?_
        refine vv_iload_n C dX5_feetBy_25 rfl 1 rfl ?_
        refine vv_iload C dX5_feetBy_26 3 rfl ?_
        refine vv_cS_F C (kk_X5_has l g _ _ _) yk_X5_has (tm_13 (List.mem_of_getElem? (i := 3) rfl)) (by decide) rfl (Nat.le_of_ble_eq_true rfl) rfl dX5_feetBy_28 ?_
        refine vv_ifb_eq (tgt := 44) C dX5_feetBy_31 (by decide) (fun h31 => ?_) (fun h31 => ?_)
        · refine vv_iconst (v := (0)) C dX5_feetBy_44 (by decide) ?_
          refine vv_iadd C dX5_feetBy_45 ?_
          refine vv_istore_n (i := 3) (L' := [_, _, _, _]) C dX5_feetBy_46 rfl (by decide) rfl ?_
          refine vv_iincN (L' := [_, _, _, _]) (j := 3) C dX5_feetBy_47 rfl (by decide) rfl ?_
          refine vv_goto (tgt := 15) C dX5_feetBy_50 (by decide) ?_
          refine vv_sub (L' := [_, _, _, _]) [2, 3, 1, 0] rfl ?_
          have q := ih (i + 1) ⟨by omega, by omega⟩
          rw [pm_gl, if_neg (fun z => by rw [h31] at z; cases z.1)] at q
          rw [pm_add0]
          exact q
        · refine vv_aload_n C dX5_feetBy_34 rfl 0 rfl ?_
          refine vv_gR C (a := 35) (k := 6) (b := 41) inlX5 rfl rfl rfl rfl (by decide) rfl (tm_3 (List.mem_of_getElem? (i := 23) rfl)) dX5_feetBy_35 ?_
          refine vv_iload C dX5_feetBy_38 3 rfl ?_
          refine vv_ialdN C (a := 41) rfl (by omega) (by decide) dX5_feetBy_40 ?_
          refine vv_goto (tgt := 45) C dX5_feetBy_41 (by decide) ?_
          refine vv_iadd C dX5_feetBy_45 ?_
          refine vv_istore_n (i := 3) (L' := [_, _, _, _]) C dX5_feetBy_46 rfl (by decide) rfl ?_
          refine vv_iincN (L' := [_, _, _, _]) (j := 3) C dX5_feetBy_47 rfl (by decide) rfl ?_
          refine vv_goto (tgt := 15) C dX5_feetBy_50 (by decide) ?_
          refine vv_sub (L' := [_, _, _, _]) [2, 3, 1, 0] rfl ?_
          have q := ih (i + 1) ⟨by omega, by omega⟩
          rw [pm_gl, if_pos ⟨h31, by decide⟩, if_pos rfl, pm_add0] at q
          exact q
  refine vv_aload_n C dX5_feetBy_0 rfl 0 rfl ?_
  refine vv_iload_n C dX5_feetBy_1 rfl 1 rfl ?_
  refine vv_cV_F C (a := 35) (kk_X5_shafts l g _ _ n hn hn8) yk_X5_shafts (tm_17 (List.mem_of_getElem? (i := 11) rfl)) rfl rfl rfl (by decide) rfl (Nat.le_of_ble_eq_true rfl) rfl dX5_feetBy_2 ?_
  refine vv_istore_n (i := 2) (L' := [_, _, _]) C dX5_feetBy_5 rfl (by decide) rfl ?_
  refine vv_aload_n C dX5_feetBy_6 rfl 1 rfl ?_
  refine vv_iload_n C dX5_feetBy_7 rfl 2 rfl ?_
  refine vv_cV_F C (a := 35) (kk_X5_sumOf l g _ _ n hn hn8) yk_X5_sumOf (tm_24 (List.mem_of_getElem? (i := 15) rfl)) rfl rfl rfl (by decide) rfl (Nat.le_of_ble_eq_true rfl) rfl dX5_feetBy_8 ?_
  refine vv_istore_n (i := 3) (L' := [_, _, _, _]) C dX5_feetBy_11 rfl (by decide) rfl ?_
  refine vv_iconst (v := (nI 0)) C dX5_feetBy_12 (by decide) ?_
  refine vv_istore (L' := [_, _, _, _, _]) C dX5_feetBy_13 (by decide) rfl ?_
  refine vv_sub (L' := [_, _, _, _]) [3, 2, 1, 0] rfl ?_
  exact lp15 (n + 1) 0 ⟨by omega, by omega⟩
theorem yk_X5_leakNow : vx_yV yX5_leakNow cX5_leakNow 6 (some .int) 1 := ⟨(tm_27 (List.mem_of_getElem? (i := 20) rfl)), (tm_1 (List.mem_of_getElem? (i := 5) rfl)), by decide +kernel, (tm_27 (List.mem_of_getElem? (i := 18) rfl)), (tm_27 (List.mem_of_getElem? (i := 19) rfl))⟩
set_option maxHeartbeats 4000000 in
set_option maxRecDepth 100000 in
theorem kk_X5_leakNow (l : Launch) (g : vx_G) (S : vx_St) (sh : Int32) (n : Nat) (hn : S.1 35 0 = nI n) (hn8 : n ≤ 8) (mr : Nat) (hm : S.1 35 17 = nI mr) (hm8 : mr ≤ 8) : vx_M l g yX5_leakNow cX5_leakNow 6 (some .int) (vx_R 3 68) [.ref (g.2.2.1 35), .int sh] S (vx_pf (pm_leak (pu_hm S) n (S.1 44) (S.1 45) mr sh 9) S) := by
  refine vx_M.intro (by decide) (Nat.le_of_ble_eq_true rfl) ?_
  intro p e s m args below meth c C
  have lp2 : ∀ (fu : Nat) (e9 : Nat), (10 - e9 < fu ∧ 1 ≤ e9 ∧ e9 ≤ 10 ∧ pm_leak (pu_hm S) n (S.1 44) (S.1 45) mr sh 9 = pm_leak (pu_hm S) n (S.1 44) (S.1 45) mr sh (10 - e9)) → vx_V p l e (vx_R 3 68) s m args below meth c (MQ below (vx_Q g (vx_pf (pm_leak (pu_hm S) n (S.1 44) (S.1 45) mr sh 9) S)) args s 0 0 (vx_A g)) g 6 2 [(0, .ref (g.2.2.1 35)), (1, .int sh), (2, .int (nI e9))] [] (S) := by
    intro fu
    induction fu with
    | zero =>
      intro e9 hfu
      exact absurd hfu.1 (by omega)
    | succ fu ih =>
      intro e9 hfu
      obtain ⟨hf1, hf2, hf3, hf4⟩ := hfu
      have lp13 : ∀ (fu : Nat) (i : Nat), (mr - i < fu ∧ i ≤ mr ∧ e9 ≤ 9) → vx_V p l e (vx_R 3 68) s m args below meth c (MQ below (vx_Q g (vx_pf (pm_leak (pu_hm S) n (S.1 44) (S.1 45) mr sh 9) S)) args s 0 0 (vx_A g)) g 6 13 [(0, .ref (g.2.2.1 35)), (1, .int sh), (2, .int (nI e9)), (3, .int (vx_i (pm_gives (pu_hm S) n (S.1 44) (S.1 45) sh (nI e9) i))), (4, .int (nI i))] [] (S) := by
        intro fv
        induction fv with
        | zero =>
          intro i hfu
          exact absurd hfu.1 (by omega)
        | succ fv ih2 =>
          intro i hfu
          obtain ⟨hw1, hw2, hd9⟩ := hfu
          refine vv_iload C dX5_leakNow_13 4 rfl ?_
          refine vv_aload_n C dX5_leakNow_15 rfl 0 rfl ?_
          refine vv_getI C (a := 35) (k := 17) (o := 0) inlX5 rfl rfl rfl (by decide) rfl (tm_26 (List.mem_of_getElem? (i := 13) rfl)) dX5_leakNow_16 ?_
          refine vv_icmp_ge (tgt := 87) C dX5_leakNow_19 (by decide) (fun h19 => ?_) (fun h19 => ?_)
          · have hge2 := pu_geT hm (by omega) (by omega) h19
            obtain rfl : mr = i := by omega
            refine vv_iload_n C dX5_leakNow_87 rfl 3 rfl ?_
            refine vv_ifb_eq (tgt := 93) C dX5_leakNow_88 (by decide) (fun h88 => ?_) (fun h88 => ?_)
            · refine vv_iincN (L' := [_, _, _, _, _]) (j := 2) C dX5_leakNow_93 rfl (by decide) rfl ?_
              refine vv_goto (tgt := 2) C dX5_leakNow_96 (by decide) ?_
              refine vv_sub (L' := [_, _, _]) [1, 2, 0] rfl ?_
              exact ih (e9 + 1) ⟨by omega, by omega, by omega, by rw [hf4, pm_leak_step _ _ _ _ _ _ hf2 (by omega), if_neg (by rw [h88]; decide)]⟩
            · refine vv_iload_n C dX5_leakNow_91 rfl 2 rfl ?_
              refine vv_fret C dX5_leakNow_92 ?_
              rw [hf4, pm_leak_step _ _ _ _ _ _ hf2 (by omega), if_pos h88]
          · have hlt2 := pu_geF hm (by omega) (by omega) h19
            refine vv_aload_n C dX5_leakNow_22 rfl 0 rfl ?_
            refine vv_aload_n C dX5_leakNow_23 rfl 0 rfl ?_
            refine vv_gR C (a := 35) (k := 18) (b := 44) inlX5 rfl rfl rfl rfl (by decide) rfl (tm_4 (List.mem_of_getElem? (i := 4) rfl)) dX5_leakNow_24 ?_
            refine vv_iload C dX5_leakNow_27 4 rfl ?_
            refine vv_ialdN C (a := 44) rfl (by omega) (by decide) dX5_leakNow_29 ?_
            refine vv_cV_F C (a := 35) (kk_X5_shafts l g _ _ n hn hn8) yk_X5_shafts (tm_17 (List.mem_of_getElem? (i := 11) rfl)) rfl rfl rfl (by decide) rfl (Nat.le_of_ble_eq_true rfl) rfl dX5_leakNow_30 ?_
            refine vv_iload_n C dX5_leakNow_33 rfl 1 rfl ?_
            refine vv_cS_F C (kk_X5_has l g _ _ _) yk_X5_has (tm_13 (List.mem_of_getElem? (i := 3) rfl)) (by decide) rfl (Nat.le_of_ble_eq_true rfl) rfl dX5_leakNow_34 ?_
            refine vv_ifb_eq (tgt := 44) C dX5_leakNow_37 (by decide) (fun h37 => ?_) (fun h37 => ?_)
            · refine vv_iconst (v := (0)) C dX5_leakNow_44 (by decide) ?_
              refine vv_istore (L' := [_, _, _, _, _, _]) C dX5_leakNow_45 (by decide) rfl ?_
              refine vv_iload_n C dX5_leakNow_47 rfl 4 rfl ?_
              refine vv_ifb_eq (tgt := 79) C dX5_leakNow_48 (by decide) (fun h48 => ?_) (fun h48 => ?_)
              · refine vv_iconst (v := (0)) C dX5_leakNow_79 (by decide) ?_
                refine vv_istore_n (i := 3) (L' := [_, _, _, _, _, _]) C dX5_leakNow_80 rfl (by decide) rfl ?_
                refine vv_iincN (L' := [_, _, _, _, _, _]) (j := 5) C dX5_leakNow_81 rfl (by decide) rfl ?_
                refine vv_goto (tgt := 13) C dX5_leakNow_84 (by decide) ?_
                refine vv_sub (L' := [_, _, _, _, _]) [3, 4, 5, 1, 0] rfl ?_
                have hv : pm_gives (pu_hm S) n (S.1 44) (S.1 45) sh (nI e9) (i + 1) = false := by rw [pm_gives, h48]; rfl
                have q := ih2 (i + 1) ⟨by omega, by omega, hd9⟩
                rw [hv] at q
                exact q
              · refine vv_aload_n C dX5_leakNow_51 rfl 1 rfl ?_
                refine vv_aload_n C dX5_leakNow_52 rfl 1 rfl ?_
                refine vv_gR C (a := 35) (k := 18) (b := 44) inlX5 rfl rfl rfl rfl (by decide) rfl (tm_4 (List.mem_of_getElem? (i := 4) rfl)) dX5_leakNow_53 ?_
                refine vv_iload C dX5_leakNow_56 5 rfl ?_
                refine vv_ialdN C (a := 44) rfl (by omega) (by decide) dX5_leakNow_58 ?_
                refine vv_cV_F C (a := 35) (kk_X5_feetBy l g _ _ n hn hn8) yk_X5_feetBy (tm_27 (List.mem_of_getElem? (i := 21) rfl)) rfl rfl rfl (by decide) rfl (Nat.le_of_ble_eq_true rfl) rfl dX5_leakNow_59 ?_
                refine vv_iload C dX5_leakNow_62 0 rfl ?_
                refine vv_iadd C dX5_leakNow_64 ?_
                refine vv_aload_n C dX5_leakNow_65 rfl 1 rfl ?_
                refine vv_gR C (a := 35) (k := 19) (b := 45) inlX5 rfl rfl rfl rfl (by decide) rfl (tm_4 (List.mem_of_getElem? (i := 5) rfl)) dX5_leakNow_66 ?_
                refine vv_iload C dX5_leakNow_69 5 rfl ?_
                refine vv_ialdN C (a := 45) rfl (by omega) (by decide) dX5_leakNow_71 ?_
                refine vv_icmp_ne (tgt := 79) C dX5_leakNow_72 (by decide) (fun h72 => ?_) (fun h72 => ?_)
                · refine vv_iconst (v := (0)) C dX5_leakNow_79 (by decide) ?_
                  refine vv_istore_n (i := 3) (L' := [_, _, _, _, _, _]) C dX5_leakNow_80 rfl (by decide) rfl ?_
                  refine vv_iincN (L' := [_, _, _, _, _, _]) (j := 5) C dX5_leakNow_81 rfl (by decide) rfl ?_
                  refine vv_goto (tgt := 13) C dX5_leakNow_84 (by decide) ?_
                  refine vv_sub (L' := [_, _, _, _, _]) [3, 4, 5, 1, 0] rfl ?_
                  have hv : pm_gives (pu_hm S) n (S.1 44) (S.1 45) sh (nI e9) (i + 1) = false := by rw [pm_gives, h48]; rw [show (if pu_in (pm_sh (pu_hm S 1) n (S.1 44 i)) sh = true then nI e9 else 0) = 0 from if_neg (show ¬ pu_in (pm_sh (pu_hm S 1) n (S.1 44 i)) sh = true by rw [show pu_in (pm_sh (pu_hm S 1) n (S.1 44 i)) sh = false from h37]; decide)]; rw [decide_eq_false h72]; rfl
                  have q := ih2 (i + 1) ⟨by omega, by omega, hd9⟩
                  rw [hv] at q
                  exact q
                · refine vv_iconst (v := (1)) C dX5_leakNow_75 (by decide) ?_
                  refine vv_goto (tgt := 80) C dX5_leakNow_76 (by decide) ?_
                  refine vv_istore_n (i := 3) (L' := [_, _, _, _, _, _]) C dX5_leakNow_80 rfl (by decide) rfl ?_
                  refine vv_iincN (L' := [_, _, _, _, _, _]) (j := 5) C dX5_leakNow_81 rfl (by decide) rfl ?_
                  refine vv_goto (tgt := 13) C dX5_leakNow_84 (by decide) ?_
                  refine vv_sub (L' := [_, _, _, _, _]) [3, 4, 5, 1, 0] rfl ?_
                  have hv : pm_gives (pu_hm S) n (S.1 44) (S.1 45) sh (nI e9) (i + 1) = true := by rw [pm_gives, h48]; rw [show (if pu_in (pm_sh (pu_hm S 1) n (S.1 44 i)) sh = true then nI e9 else 0) = 0 from if_neg (show ¬ pu_in (pm_sh (pu_hm S 1) n (S.1 44 i)) sh = true by rw [show pu_in (pm_sh (pu_hm S 1) n (S.1 44 i)) sh = false from h37]; decide)]; rw [decide_eq_true h72]; rfl
                  have q := ih2 (i + 1) ⟨by omega, by omega, hd9⟩
                  rw [hv] at q
                  exact q
            · refine vv_iload_n C dX5_leakNow_40 rfl 2 rfl ?_
              refine vv_goto (tgt := 45) C dX5_leakNow_41 (by decide) ?_
              refine vv_istore (L' := [_, _, _, _, _, _]) C dX5_leakNow_45 (by decide) rfl ?_
              refine vv_iload_n C dX5_leakNow_47 rfl 4 rfl ?_
              refine vv_ifb_eq (tgt := 79) C dX5_leakNow_48 (by decide) (fun h48 => ?_) (fun h48 => ?_)
              · refine vv_iconst (v := (0)) C dX5_leakNow_79 (by decide) ?_
                refine vv_istore_n (i := 3) (L' := [_, _, _, _, _, _]) C dX5_leakNow_80 rfl (by decide) rfl ?_
                refine vv_iincN (L' := [_, _, _, _, _, _]) (j := 5) C dX5_leakNow_81 rfl (by decide) rfl ?_
                refine vv_goto (tgt := 13) C dX5_leakNow_84 (by decide) ?_
                refine vv_sub (L' := [_, _, _, _, _]) [3, 4, 5, 1, 0] rfl ?_
                have hv : pm_gives (pu_hm S) n (S.1 44) (S.1 45) sh (nI e9) (i + 1) = false := by rw [pm_gives, h48]; rfl
                have q := ih2 (i + 1) ⟨by omega, by omega, hd9⟩
                rw [hv] at q
                exact q
              · refine vv_aload_n C dX5_leakNow_51 rfl 1 rfl ?_
                refine vv_aload_n C dX5_leakNow_52 rfl 1 rfl ?_
                refine vv_gR C (a := 35) (k := 18) (b := 44) inlX5 rfl rfl rfl rfl (by decide) rfl (tm_4 (List.mem_of_getElem? (i := 4) rfl)) dX5_leakNow_53 ?_
                refine vv_iload C dX5_leakNow_56 5 rfl ?_
                refine vv_ialdN C (a := 44) rfl (by omega) (by decide) dX5_leakNow_58 ?_
                refine vv_cV_F C (a := 35) (kk_X5_feetBy l g _ _ n hn hn8) yk_X5_feetBy (tm_27 (List.mem_of_getElem? (i := 21) rfl)) rfl rfl rfl (by decide) rfl (Nat.le_of_ble_eq_true rfl) rfl dX5_leakNow_59 ?_
                refine vv_iload C dX5_leakNow_62 0 rfl ?_
                refine vv_iadd C dX5_leakNow_64 ?_
                refine vv_aload_n C dX5_leakNow_65 rfl 1 rfl ?_
                refine vv_gR C (a := 35) (k := 19) (b := 45) inlX5 rfl rfl rfl rfl (by decide) rfl (tm_4 (List.mem_of_getElem? (i := 5) rfl)) dX5_leakNow_66 ?_
                refine vv_iload C dX5_leakNow_69 5 rfl ?_
                refine vv_ialdN C (a := 45) rfl (by omega) (by decide) dX5_leakNow_71 ?_
                refine vv_icmp_ne (tgt := 79) C dX5_leakNow_72 (by decide) (fun h72 => ?_) (fun h72 => ?_)
                · refine vv_iconst (v := (0)) C dX5_leakNow_79 (by decide) ?_
                  refine vv_istore_n (i := 3) (L' := [_, _, _, _, _, _]) C dX5_leakNow_80 rfl (by decide) rfl ?_
                  refine vv_iincN (L' := [_, _, _, _, _, _]) (j := 5) C dX5_leakNow_81 rfl (by decide) rfl ?_
                  refine vv_goto (tgt := 13) C dX5_leakNow_84 (by decide) ?_
                  refine vv_sub (L' := [_, _, _, _, _]) [3, 4, 5, 1, 0] rfl ?_
                  have hv : pm_gives (pu_hm S) n (S.1 44) (S.1 45) sh (nI e9) (i + 1) = false := by rw [pm_gives, h48]; rw [show (if pu_in (pm_sh (pu_hm S 1) n (S.1 44 i)) sh = true then nI e9 else 0) = nI e9 from if_pos h37]; rw [decide_eq_false h72]; rfl
                  have q := ih2 (i + 1) ⟨by omega, by omega, hd9⟩
                  rw [hv] at q
                  exact q
                · refine vv_iconst (v := (1)) C dX5_leakNow_75 (by decide) ?_
                  refine vv_goto (tgt := 80) C dX5_leakNow_76 (by decide) ?_
                  refine vv_istore_n (i := 3) (L' := [_, _, _, _, _, _]) C dX5_leakNow_80 rfl (by decide) rfl ?_
                  refine vv_iincN (L' := [_, _, _, _, _, _]) (j := 5) C dX5_leakNow_81 rfl (by decide) rfl ?_
                  refine vv_goto (tgt := 13) C dX5_leakNow_84 (by decide) ?_
                  refine vv_sub (L' := [_, _, _, _, _]) [3, 4, 5, 1, 0] rfl ?_
                  have hv : pm_gives (pu_hm S) n (S.1 44) (S.1 45) sh (nI e9) (i + 1) = true := by rw [pm_gives, h48]; rw [show (if pu_in (pm_sh (pu_hm S 1) n (S.1 44 i)) sh = true then nI e9 else 0) = nI e9 from if_pos h37]; rw [decide_eq_true h72]; rfl
                  have q := ih2 (i + 1) ⟨by omega, by omega, hd9⟩
                  rw [hv] at q
                  exact q
      refine vv_iload_n C dX5_leakNow_2 rfl 2 rfl ?_
      refine vv_bipush (v := (nI 10)) C dX5_leakNow_3 (by decide) ?_
      refine vv_icmp_ge (tgt := 99) C dX5_leakNow_5 (by decide) (fun h5 => ?_) (fun h5 => ?_)
      · have hge := pu_geT rfl (by omega) (by omega) h5
        refine vv_iconst (v := (-1)) C dX5_leakNow_99 (by decide) ?_
        refine vv_fret C dX5_leakNow_100 ?_
        rw [hf4, show 10 - e9 = 0 from by omega]; rfl
      · have hlt := pu_geF rfl (by omega) (by omega) h5
        refine vv_iconst (v := (1)) C dX5_leakNow_8 (by decide) ?_
        refine vv_istore_n (i := 3) (L' := [_, _, _, _]) C dX5_leakNow_9 rfl (by decide) rfl ?_
        refine vv_iconst (v := (nI 0)) C dX5_leakNow_10 (by decide) ?_
        refine vv_istore (L' := [_, _, _, _, _]) C dX5_leakNow_11 (by decide) rfl ?_
        refine vv_sub (L' := [_, _, _, _, _]) [2, 3, 4, 1, 0] rfl ?_
        exact lp13 (mr + 1) 0 ⟨by omega, by omega, by omega⟩
  refine vv_iconst (v := (nI 1)) C dX5_leakNow_0 (by decide) ?_
  refine vv_istore_n (i := 2) (L' := [_, _, _]) C dX5_leakNow_1 rfl (by decide) rfl ?_
  refine vv_sub (L' := [_, _, _]) [1, 2, 0] rfl ?_
  exact lp2 10 1 ⟨by omega, by omega, by omega, rfl⟩
theorem yk_X5_leak : vx_yV yX5_leak cX5_leak 2 (some .int) 1 := ⟨(tm_28 (List.mem_of_getElem? (i := 8) rfl)), (tm_1 (List.mem_of_getElem? (i := 5) rfl)), by decide +kernel, (tm_28 (List.mem_of_getElem? (i := 6) rfl)), (tm_28 (List.mem_of_getElem? (i := 7) rfl))⟩
set_option maxHeartbeats 4000000 in
set_option maxRecDepth 100000 in
theorem kk_X5_leak (l : Launch) (g : vx_G) (S : vx_St) (h : Int32) (n : Nat) (hn : S.1 35 0 = nI n) (hn8 : n ≤ 8) (mr : Nat) (hm : S.1 35 17 = nI mr) (hm8 : mr ≤ 8) : vx_M l g yX5_leak cX5_leak 2 (some .int) (vx_R 4 93) [.ref (g.2.2.1 35), .int h] S (vx_pf (if pu_hq h (S.1 35 0) = true then pm_leak (pu_hm S) n (S.1 44) (S.1 45) mr h 9 else -101) S) := by
  refine vx_M.intro (by decide) (Nat.le_of_ble_eq_true rfl) ?_
  intro p e s m args below meth c C
  refine vv_aload_n C dX5_leak_0 rfl 0 rfl ?_
  refine vv_iload_n C dX5_leak_1 rfl 1 rfl ?_
  refine vv_cV_F C (a := 35) (kk_X5_isHouse l g _ _ n hn hn8) yk_X5_isHouse (tm_12 (List.mem_of_getElem? (i := 19) rfl)) rfl rfl rfl (by decide) rfl (Nat.le_of_ble_eq_true rfl) rfl dX5_leak_2 ?_
  refine vv_ifb_eq (tgt := 16) C dX5_leak_5 (by decide) (fun h5 => ?_) (fun h5 => ?_)
  · refine vv_bipush (v := (-101)) C dX5_leak_16 (by decide) ?_
    refine vv_fret C dX5_leak_18 ?_
    rw [if_neg (by rw [h5]; decide)]
  · refine vv_aload_n C dX5_leak_8 rfl 0 rfl ?_
    refine vv_iload_n C dX5_leak_9 rfl 1 rfl ?_
    refine vv_cV_F C (a := 35) (kk_X5_leakNow l g _ _ n hn hn8 mr hm hm8) yk_X5_leakNow (tm_27 (List.mem_of_getElem? (i := 17) rfl)) rfl rfl rfl (by decide) rfl (Nat.le_of_ble_eq_true rfl) rfl dX5_leak_10 ?_
    refine vv_goto (tgt := 18) C dX5_leak_13 (by decide) ?_
    refine vv_fret C dX5_leak_18 ?_
    rw [if_pos h5]
theorem yk_X5_leaksNow : vx_yV yX5_leaksNow cX5_leaksNow 3 (some .int) 0 := ⟨(tm_27 (List.mem_of_getElem? (i := 16) rfl)), (tm_1 (List.mem_of_getElem? (i := 5) rfl)), by decide +kernel, (tm_27 (List.mem_of_getElem? (i := 14) rfl)), (tm_27 (List.mem_of_getElem? (i := 15) rfl))⟩
set_option maxHeartbeats 4000000 in
set_option maxRecDepth 100000 in
theorem kk_X5_leaksNow (l : Launch) (g : vx_G) (S : vx_St) (n : Nat) (hn : S.1 35 0 = nI n) (hn8 : n ≤ 8) (mr : Nat) (hm : S.1 35 17 = nI mr) (hm8 : mr ≤ 8) : vx_M l g yX5_leaksNow cX5_leaksNow 3 (some .int) (vx_R 4 93) [.ref (g.2.2.1 35)] S (vx_pf (pm_leaks (fun i => pm_leak (pu_hm S) n (S.1 44) (S.1 45) mr (nI i) 9) n) S) := by
  refine vx_M.intro (by decide) (Nat.le_of_ble_eq_true rfl) ?_
  intro p e s m args below meth c C
  have lp4 : ∀ (fu : Nat) (i : Nat), (n - i < fu ∧ i ≤ n) → vx_V p l e (vx_R 4 93) s m args below meth c (MQ below (vx_Q g (vx_pf (pm_leaks (fun i => pm_leak (pu_hm S) n (S.1 44) (S.1 45) mr (nI i) 9) n) S)) args s 0 0 (vx_A g)) g 3 4 [(0, .ref (g.2.2.1 35)), (1, .int (pm_leaks (fun i => pm_leak (pu_hm S) n (S.1 44) (S.1 45) mr (nI i) 9) i)), (2, .int (nI i))] [] (S) := by
    intro fu
    induction fu with
    | zero =>
      intro i hfu
      exact absurd hfu.1 (by omega)
    | succ fu ih =>
      intro i hfu
      obtain ⟨hf1, hf2⟩ := hfu
      refine vv_iload_n C dX5_leaksNow_4 rfl 2 rfl ?_
      refine vv_aload_n C dX5_leaksNow_5 rfl 0 rfl ?_
      refine vv_getI C (a := 35) (k := 0) (o := 0) inlX5 rfl rfl rfl (by decide) rfl (tm_10 (List.mem_of_getElem? (i := 18) rfl)) dX5_leaksNow_6 ?_
      refine vv_icmp_ge (tgt := 37) C dX5_leaksNow_9 (by decide) (fun h9 => ?_) (fun h9 => ?_)
      · have hge := pu_geT hn (by omega) (by omega) h9
        obtain rfl : n = i := by omega
        refine vv_iload_n C dX5_leaksNow_37 rfl 1 rfl ?_
        refine vv_fret C dX5_leaksNow_38 ?_
        rfl
      · have hlt := pu_geF hn (by omega) (by omega) h9
        refine vv_iload_n C dX5_leaksNow_12 rfl 1 rfl ?_
        refine vv_aload_n C dX5_leaksNow_13 rfl 0 rfl ?_
        refine vv_iload_n C dX5_leaksNow_14 rfl 2 rfl ?_
        refine vv_cV_F C (a := 35) (kk_X5_leakNow l g _ _ n hn hn8 mr hm hm8) yk_X5_leakNow (tm_27 (List.mem_of_getElem? (i := 17) rfl)) rfl rfl rfl (by decide) rfl (Nat.le_of_ble_eq_true rfl) rfl dX5_leaksNow_15 ?_
        refine vv_iconst (v := (-1)) C dX5_leaksNow_18 (by decide) ?_
        refine vv_icmp_eq (tgt := 28) C dX5_leaksNow_19 (by decide) (fun h19 => ?_) (fun h19 => ?_)
        · refine vv_iconst (v := (0)) C dX5_leaksNow_28 (by decide) ?_
          refine vv_ior C dX5_leaksNow_29 ?_
          refine vv_istore_n (i := 1) (L' := [_, _, _]) C dX5_leaksNow_30 rfl (by decide) rfl ?_
          refine vv_iincN (L' := [_, _, _]) (j := 2) C dX5_leaksNow_31 rfl (by decide) rfl ?_
          refine vv_goto (tgt := 4) C dX5_leaksNow_34 (by decide) ?_
          refine vv_sub (L' := [_, _, _]) [2, 1, 0] rfl ?_
          have q := ih (i + 1) ⟨by omega, by omega⟩
          rw [pm_leaks, if_pos h19] at q
          rw [pm_or0]
          exact q
        · refine vv_iconst (v := (1)) C dX5_leaksNow_22 (by decide) ?_
          refine vv_iload_n C dX5_leaksNow_23 rfl 2 rfl ?_
          refine vv_ishl C dX5_leaksNow_24 ?_
          refine vv_goto (tgt := 29) C dX5_leaksNow_25 (by decide) ?_
          refine vv_ior C dX5_leaksNow_29 ?_
          refine vv_istore_n (i := 1) (L' := [_, _, _]) C dX5_leaksNow_30 rfl (by decide) rfl ?_
          refine vv_iincN (L' := [_, _, _]) (j := 2) C dX5_leaksNow_31 rfl (by decide) rfl ?_
          refine vv_goto (tgt := 4) C dX5_leaksNow_34 (by decide) ?_
          refine vv_sub (L' := [_, _, _]) [2, 1, 0] rfl ?_
          have q := ih (i + 1) ⟨by omega, by omega⟩
          rw [pm_leaks, if_neg h19] at q
          exact q
  refine vv_iconst (v := (0)) C dX5_leaksNow_0 (by decide) ?_
  refine vv_istore_n (i := 1) (L' := [_, _]) C dX5_leaksNow_1 rfl (by decide) rfl ?_
  refine vv_iconst (v := (nI 0)) C dX5_leaksNow_2 (by decide) ?_
  refine vv_istore_n (i := 2) (L' := [_, _, _]) C dX5_leaksNow_3 rfl (by decide) rfl ?_
  refine vv_sub (L' := [_, _, _]) [2, 1, 0] rfl ?_
  exact lp4 (n + 1) 0 ⟨by omega, by omega⟩
theorem yk_X5_leaks : vx_yV yX5_leaks cX5_leaks 1 (some .int) 0 := ⟨(tm_27 (List.mem_of_getElem? (i := 12) rfl)), (tm_1 (List.mem_of_getElem? (i := 5) rfl)), by decide +kernel, (tm_27 (List.mem_of_getElem? (i := 10) rfl)), (tm_27 (List.mem_of_getElem? (i := 11) rfl))⟩
set_option maxHeartbeats 4000000 in
set_option maxRecDepth 100000 in
theorem kk_X5_leaks (l : Launch) (g : vx_G) (S : vx_St) (n : Nat) (hn : S.1 35 0 = nI n) (hn8 : n ≤ 8) (mr : Nat) (hm : S.1 35 17 = nI mr) (hm8 : mr ≤ 8) : vx_M l g yX5_leaks cX5_leaks 1 (some .int) (vx_R 5 115) [.ref (g.2.2.1 35)] S (vx_pf (pm_leaks (fun i => pm_leak (pu_hm S) n (S.1 44) (S.1 45) mr (nI i) 9) n) S) := by
  refine vx_M.intro (by decide) (Nat.le_of_ble_eq_true rfl) ?_
  intro p e s m args below meth c C
  refine vv_aload_n C dX5_leaks_0 rfl 0 rfl ?_
  refine vv_cV_F C (a := 35) (kk_X5_leaksNow l g _ n hn hn8 mr hm hm8) yk_X5_leaksNow (tm_27 (List.mem_of_getElem? (i := 13) rfl)) rfl rfl rfl (by decide) rfl (Nat.le_of_ble_eq_true rfl) rfl dX5_leaks_1 ?_
  refine vv_fret C dX5_leaks_4 ?_
  rfl
theorem yk_X5_lookNow : vx_yV yX5_lookNow cX5_lookNow 8 (some .int) 0 := ⟨(tm_28 (List.mem_of_getElem? (i := 22) rfl)), (tm_1 (List.mem_of_getElem? (i := 5) rfl)), by decide +kernel, (tm_28 (List.mem_of_getElem? (i := 20) rfl)), (tm_28 (List.mem_of_getElem? (i := 21) rfl))⟩
set_option maxHeartbeats 4000000 in
set_option maxRecDepth 100000 in
theorem kk_X5_lookNow (l : Launch) (g : vx_G) (S : vx_St) (n : Nat) (hn : S.1 35 0 = nI n) (hn8 : n ≤ 8) (mr : Nat) (hm : S.1 35 17 = nI mr) (hm8 : mr ≤ 8) : vx_M l g yX5_lookNow cX5_lookNow 8 (some .int) (vx_R 5 115) [.ref (g.2.2.1 35)] S (vx_pf (am_look (pm_leaks (fun i => pm_leak (pu_hm S) n (S.1 44) (S.1 45) mr (nI i) 9) n) (S.1 37) n) S) := by
  refine vx_M.intro (by decide) (Nat.le_of_ble_eq_true rfl) ?_
  intro p e s m args below meth c C
  have lp19 : ∀ (fu : Nat) (i : Nat), (2 ^ n - 1 - i < fu ∧ i ≤ 2 ^ n - 1 ∧ ¬ (pm_leaks (fun i => pm_leak (pu_hm S) n (S.1 44) (S.1 45) mr (nI i) 9) n) = 0) → vx_V p l e (vx_R 5 115) s m args below meth c (MQ below (vx_Q g (vx_pf (am_look (pm_leaks (fun i => pm_leak (pu_hm S) n (S.1 44) (S.1 45) mr (nI i) 9) n) (S.1 37) n) S)) args s 0 0 (vx_A g)) g 8 19 [(0, .ref (g.2.2.1 35)), (1, .int (pm_leaks (fun i => pm_leak (pu_hm S) n (S.1 44) (S.1 45) mr (nI i) 9) n)), (2, .int (pm_look (pm_leaks (fun i => pm_leak (pu_hm S) n (S.1 44) (S.1 45) mr (nI i) 9) n) (S.1 37) n i).1), (3, .int (pm_look (pm_leaks (fun i => pm_leak (pu_hm S) n (S.1 44) (S.1 45) mr (nI i) 9) n) (S.1 37) n i).2), (4, .int (nI (i + 1)))] [] (S) := by
    intro fu
    induction fu with
    | zero =>
      intro i hfu
      exact absurd hfu.1 (by omega)
    | succ fu ih =>
      intro i hfu
      obtain ⟨hf1, hf2, hsu⟩ := hfu
      have h2n := pu_2n n hn8
      refine vv_iload C dX5_lookNow_19 4 rfl ?_
      refine vv_aload_n C dX5_lookNow_21 rfl 0 rfl ?_
      refine vv_cV_F C (a := 35) (kk_X5_everybody l g _) yk_X5_everybody (tm_16 (List.mem_of_getElem? (i := 23) rfl)) rfl rfl rfl (by decide) rfl (Nat.le_of_ble_eq_true rfl) rfl dX5_lookNow_22 ?_
      rw [hn, pu_all_nI n hn8]
      refine vv_icmp_gt (tgt := 98) C dX5_lookNow_25 (by decide) (fun h25 => ?_) (fun h25 => ?_)
      · have hgt := pu_gtT rfl (by omega) (by omega) h25
        refine vv_iload_n C dX5_lookNow_98 rfl 2 rfl ?_
        refine vv_fret C dX5_lookNow_99 ?_
        rw [am_look, if_neg hsu, show 2 ^ n - 1 = i by omega]
      · have hle := pu_gtF rfl (by omega) (by omega) h25
        refine vv_iload_n C dX5_lookNow_28 rfl 1 rfl ?_
        refine vv_aload_n C dX5_lookNow_29 rfl 0 rfl ?_
        refine vv_iload C dX5_lookNow_30 4 rfl ?_
        refine vv_cV_F C (a := 35) (kk_X5_shafts l g _ _ n hn hn8) yk_X5_shafts (tm_17 (List.mem_of_getElem? (i := 11) rfl)) rfl rfl rfl (by decide) rfl (Nat.le_of_ble_eq_true rfl) rfl dX5_lookNow_32 ?_
        refine vv_iand C dX5_lookNow_35 ?_
        refine vv_cS_F C (kk_X5_size l g _ _) yk_X5_size (tm_23 (List.mem_of_getElem? (i := 9) rfl)) (by decide) rfl (Nat.le_of_ble_eq_true rfl) rfl dX5_lookNow_36 ?_
        refine vv_istore (L' := [_, _, _, _, _, _]) C dX5_lookNow_39 (by decide) rfl ?_
        refine vv_iload_n C dX5_lookNow_41 rfl 2 rfl ?_
        refine vv_cS_F C (kk_X5_size l g _ _) yk_X5_size (tm_23 (List.mem_of_getElem? (i := 9) rfl)) (by decide) rfl (Nat.le_of_ble_eq_true rfl) rfl dX5_lookNow_42 ?_
        refine vv_iload C dX5_lookNow_45 0 rfl ?_
        refine vv_isub C dX5_lookNow_47 ?_
        refine vv_istore (L' := [_, _, _, _, _, _, _]) C dX5_lookNow_48 (by decide) rfl ?_
        refine vv_iload C dX5_lookNow_50 1 rfl ?_
        refine vv_iload C dX5_lookNow_52 0 rfl ?_
        refine vv_icmp_le (tgt := 62) C dX5_lookNow_54 (by decide) (fun h54 => ?_) (fun h54 => ?_)
        · refine vv_iload C dX5_lookNow_62 0 rfl ?_
          refine vv_istore (L' := [_, _, _, _, _, _, _, _]) C dX5_lookNow_64 (by decide) rfl ?_
          refine vv_iload C dX5_lookNow_66 0 rfl ?_
          refine vv_iload_n C dX5_lookNow_68 rfl 6 rfl ?_
          refine vv_icmp_ge (tgt := 77) C dX5_lookNow_69 (by decide) (fun h69 => ?_) (fun h69 => ?_)
          · refine vv_iload_n C dX5_lookNow_77 rfl 5 rfl ?_
            refine vv_istore_n (i := 2) (L' := [_, _, _, _, _, _, _, _]) C dX5_lookNow_78 rfl (by decide) rfl ?_
            refine vv_iload C dX5_lookNow_79 1 rfl ?_
            refine vv_iload_n C dX5_lookNow_81 rfl 6 rfl ?_
            refine vv_icmp_ge (tgt := 90) C dX5_lookNow_82 (by decide) (fun h82 => ?_) (fun h82 => ?_)
            · refine vv_iload_n C dX5_lookNow_90 rfl 6 rfl ?_
              refine vv_istore_n (i := 3) (L' := [_, _, _, _, _, _, _, _]) C dX5_lookNow_91 rfl (by decide) rfl ?_
              refine vv_iincN (L' := [_, _, _, _, _, _, _, _]) (j := 7) C dX5_lookNow_92 rfl (by decide) rfl ?_
              refine vv_goto (tgt := 19) C dX5_lookNow_95 (by decide) ?_
              refine vv_sub (L' := [_, _, _, _, _]) [6, 7, 2, 1, 0] rfl ?_
              have hl : pm_lf (pm_leaks (fun i => pm_leak (pu_hm S) n (S.1 44) (S.1 45) mr (nI i) 9) n) (pm_sh (S.1 37) n (nI (i + 1))) = _ := if_pos h54
              have q := ih (i + 1) ⟨by omega, by omega, hsu⟩
              rw [pm_look, if_pos (by rw [hl]; exact h69)] at q
              exact q
            · exact absurd h69 h82
          · refine vv_iload C dX5_lookNow_72 7 rfl ?_
            refine vv_goto (tgt := 78) C dX5_lookNow_74 (by decide) ?_
            refine vv_istore_n (i := 2) (L' := [_, _, _, _, _, _, _, _]) C dX5_lookNow_78 rfl (by decide) rfl ?_
            refine vv_iload C dX5_lookNow_79 1 rfl ?_
            refine vv_iload_n C dX5_lookNow_81 rfl 6 rfl ?_
            refine vv_icmp_ge (tgt := 90) C dX5_lookNow_82 (by decide) (fun h82 => ?_) (fun h82 => ?_)
            · exact absurd h82 h69
            · refine vv_iload C dX5_lookNow_85 1 rfl ?_
              refine vv_goto (tgt := 91) C dX5_lookNow_87 (by decide) ?_
              refine vv_istore_n (i := 3) (L' := [_, _, _, _, _, _, _, _]) C dX5_lookNow_91 rfl (by decide) rfl ?_
              refine vv_iincN (L' := [_, _, _, _, _, _, _, _]) (j := 7) C dX5_lookNow_92 rfl (by decide) rfl ?_
              refine vv_goto (tgt := 19) C dX5_lookNow_95 (by decide) ?_
              refine vv_sub (L' := [_, _, _, _, _]) [6, 7, 2, 1, 0] rfl ?_
              have hl : pm_lf (pm_leaks (fun i => pm_leak (pu_hm S) n (S.1 44) (S.1 45) mr (nI i) 9) n) (pm_sh (S.1 37) n (nI (i + 1))) = _ := if_pos h54
              have q := ih (i + 1) ⟨by omega, by omega, hsu⟩
              rw [pm_look, if_neg (by rw [hl]; exact h69), hl] at q
              exact q
        · refine vv_iload C dX5_lookNow_57 1 rfl ?_
          refine vv_goto (tgt := 64) C dX5_lookNow_59 (by decide) ?_
          refine vv_istore (L' := [_, _, _, _, _, _, _, _]) C dX5_lookNow_64 (by decide) rfl ?_
          refine vv_iload C dX5_lookNow_66 0 rfl ?_
          refine vv_iload_n C dX5_lookNow_68 rfl 6 rfl ?_
          refine vv_icmp_ge (tgt := 77) C dX5_lookNow_69 (by decide) (fun h69 => ?_) (fun h69 => ?_)
          · refine vv_iload_n C dX5_lookNow_77 rfl 5 rfl ?_
            refine vv_istore_n (i := 2) (L' := [_, _, _, _, _, _, _, _]) C dX5_lookNow_78 rfl (by decide) rfl ?_
            refine vv_iload C dX5_lookNow_79 1 rfl ?_
            refine vv_iload_n C dX5_lookNow_81 rfl 6 rfl ?_
            refine vv_icmp_ge (tgt := 90) C dX5_lookNow_82 (by decide) (fun h82 => ?_) (fun h82 => ?_)
            · refine vv_iload_n C dX5_lookNow_90 rfl 6 rfl ?_
              refine vv_istore_n (i := 3) (L' := [_, _, _, _, _, _, _, _]) C dX5_lookNow_91 rfl (by decide) rfl ?_
              refine vv_iincN (L' := [_, _, _, _, _, _, _, _]) (j := 7) C dX5_lookNow_92 rfl (by decide) rfl ?_
              refine vv_goto (tgt := 19) C dX5_lookNow_95 (by decide) ?_
              refine vv_sub (L' := [_, _, _, _, _]) [6, 7, 2, 1, 0] rfl ?_
              have hl : pm_lf (pm_leaks (fun i => pm_leak (pu_hm S) n (S.1 44) (S.1 45) mr (nI i) 9) n) (pm_sh (S.1 37) n (nI (i + 1))) = _ := if_neg h54
              have q := ih (i + 1) ⟨by omega, by omega, hsu⟩
              rw [pm_look, if_pos (by rw [hl]; exact h69)] at q
              exact q
            · exact absurd h69 h82
          · refine vv_iload C dX5_lookNow_72 7 rfl ?_
            refine vv_goto (tgt := 78) C dX5_lookNow_74 (by decide) ?_
            refine vv_istore_n (i := 2) (L' := [_, _, _, _, _, _, _, _]) C dX5_lookNow_78 rfl (by decide) rfl ?_
            refine vv_iload C dX5_lookNow_79 1 rfl ?_
            refine vv_iload_n C dX5_lookNow_81 rfl 6 rfl ?_
            refine vv_icmp_ge (tgt := 90) C dX5_lookNow_82 (by decide) (fun h82 => ?_) (fun h82 => ?_)
            · exact absurd h82 h69
            · refine vv_iload C dX5_lookNow_85 1 rfl ?_
              refine vv_goto (tgt := 91) C dX5_lookNow_87 (by decide) ?_
              refine vv_istore_n (i := 3) (L' := [_, _, _, _, _, _, _, _]) C dX5_lookNow_91 rfl (by decide) rfl ?_
              refine vv_iincN (L' := [_, _, _, _, _, _, _, _]) (j := 7) C dX5_lookNow_92 rfl (by decide) rfl ?_
              refine vv_goto (tgt := 19) C dX5_lookNow_95 (by decide) ?_
              refine vv_sub (L' := [_, _, _, _, _]) [6, 7, 2, 1, 0] rfl ?_
              have hl : pm_lf (pm_leaks (fun i => pm_leak (pu_hm S) n (S.1 44) (S.1 45) mr (nI i) 9) n) (pm_sh (S.1 37) n (nI (i + 1))) = _ := if_neg h54
              have q := ih (i + 1) ⟨by omega, by omega, hsu⟩
              rw [pm_look, if_neg (by rw [hl]; exact h69), hl] at q
              exact q
  refine vv_aload_n C dX5_lookNow_0 rfl 0 rfl ?_
  refine vv_cV_F C (a := 35) (kk_X5_leaksNow l g _ n hn hn8 mr hm hm8) yk_X5_leaksNow (tm_27 (List.mem_of_getElem? (i := 13) rfl)) rfl rfl rfl (by decide) rfl (Nat.le_of_ble_eq_true rfl) rfl dX5_lookNow_1 ?_
  refine vv_istore_n (i := 1) (L' := [_, _]) C dX5_lookNow_4 rfl (by decide) rfl ?_
  refine vv_iload_n C dX5_lookNow_5 rfl 0 rfl ?_
  refine vv_if_ne (tgt := 11) C dX5_lookNow_6 (by decide) (fun h6 => ?_) (fun h6 => ?_)
  · refine vv_iconst (v := (-1)) C dX5_lookNow_11 (by decide) ?_
    refine vv_istore_n (i := 2) (L' := [_, _, _]) C dX5_lookNow_12 rfl (by decide) rfl ?_
    refine vv_bipush (v := (9)) C dX5_lookNow_13 (by decide) ?_
    refine vv_istore_n (i := 3) (L' := [_, _, _, _]) C dX5_lookNow_15 rfl (by decide) rfl ?_
    refine vv_iconst (v := (nI 1)) C dX5_lookNow_16 (by decide) ?_
    refine vv_istore (L' := [_, _, _, _, _]) C dX5_lookNow_17 (by decide) rfl ?_
    refine vv_sub (L' := [_, _, _, _, _]) [4, 3, 2, 1, 0] rfl ?_
    have h2n := pu_2n n hn8
    exact lp19 (2 ^ n) 0 ⟨by omega, by omega, h6⟩
  · refine vv_iconst (v := (-1)) C dX5_lookNow_9 (by decide) ?_
    refine vv_fret C dX5_lookNow_10 ?_
    rw [am_look, if_pos h6]
theorem yk_X5_look : vx_yV yX5_look cX5_look 1 (some .int) 0 := ⟨(tm_28 (List.mem_of_getElem? (i := 18) rfl)), (tm_1 (List.mem_of_getElem? (i := 5) rfl)), by decide +kernel, (tm_28 (List.mem_of_getElem? (i := 16) rfl)), (tm_28 (List.mem_of_getElem? (i := 17) rfl))⟩
set_option maxHeartbeats 4000000 in
set_option maxRecDepth 100000 in
theorem kk_X5_look (l : Launch) (g : vx_G) (S : vx_St) (n : Nat) (hn : S.1 35 0 = nI n) (hn8 : n ≤ 8) (mr : Nat) (hm : S.1 35 17 = nI mr) (hm8 : mr ≤ 8) : vx_M l g yX5_look cX5_look 1 (some .int) (vx_R 6 142) [.ref (g.2.2.1 35)] S (vx_pf (am_look (pm_leaks (fun i => pm_leak (pu_hm S) n (S.1 44) (S.1 45) mr (nI i) 9) n) (S.1 37) n) S) := by
  refine vx_M.intro (by decide) (Nat.le_of_ble_eq_true rfl) ?_
  intro p e s m args below meth c C
  refine vv_aload_n C dX5_look_0 rfl 0 rfl ?_
  refine vv_cV_F C (a := 35) (kk_X5_lookNow l g _ n hn hn8 mr hm hm8) yk_X5_lookNow (tm_28 (List.mem_of_getElem? (i := 19) rfl)) rfl rfl rfl (by decide) rfl (Nat.le_of_ble_eq_true rfl) rfl dX5_look_1 ?_
  refine vv_fret C dX5_look_4 ?_
  rfl
theorem yk_X5_howMany : vx_yV yX5_howMany cX5_howMany 2 (some .int) 1 := ⟨(tm_30 (List.mem_of_getElem? (i := 19) rfl)), (tm_1 (List.mem_of_getElem? (i := 5) rfl)), by decide +kernel, (tm_30 (List.mem_of_getElem? (i := 17) rfl)), (tm_30 (List.mem_of_getElem? (i := 18) rfl))⟩
set_option maxHeartbeats 4000000 in
set_option maxRecDepth 100000 in
theorem kk_X5_howMany (l : Launch) (g : vx_G) (S : vx_St) (w : Int32) (n : Nat) (hn : S.1 35 0 = nI n) (hn8 : n ≤ 8) : vx_M l g yX5_howMany cX5_howMany 2 (some .int) (vx_R 1 22) [.ref (g.2.2.1 35), .int w] S (vx_pf (aw_cnt (S.1 35 0) (S.1 35 10) (S.1 35 11) (S.1 35 12) (pm_sm (S.1 42) n) (S.1 35 13) (S.1 35 15) (S.1 35 16) (S.1 35 17) (S.1 35 20) w) S) := by
  refine vx_M.intro (by decide) (Nat.le_of_ble_eq_true rfl) ?_
  intro p e s m args below meth c C
  refine vv_iload_n C dX5_howMany_0 rfl 1 rfl ?_
  rcases pu_sw w 10 (by omega) with ⟨j, hj, hw⟩ | hw
  rcases (show j = 0 ∨ j = 1 ∨ j = 2 ∨ j = 3 ∨ j = 4 ∨ j = 5 ∨ j = 6 ∨ j = 7 ∨ j = 8 ∨ j = 9 by omega) with rfl | rfl | rfl | rfl | rfl | rfl | rfl | rfl | rfl | rfl
  · subst hw
    refine vv_tableIn (tgt := 56) C dX5_howMany_1 (by decide) (by decide) rfl (by decide) ?_
    refine vv_aload_n C dX5_howMany_56 rfl 0 rfl ?_
    refine vv_getI C (a := 35) (k := 0) (o := 0) inlX5 rfl rfl rfl (by decide) rfl (tm_10 (List.mem_of_getElem? (i := 18) rfl)) dX5_howMany_57 ?_
    refine vv_fret C dX5_howMany_60 ?_
    rw [aw_cnt, if_pos rfl]
  · subst hw
    refine vv_tableIn (tgt := 61) C dX5_howMany_1 (by decide) (by decide) rfl (by decide) ?_
    refine vv_aload_n C dX5_howMany_61 rfl 0 rfl ?_
    refine vv_getI C (a := 35) (k := 10) (o := 0) inlX5 rfl rfl rfl (by decide) rfl (tm_4 (List.mem_of_getElem? (i := 2) rfl)) dX5_howMany_62 ?_
    refine vv_fret C dX5_howMany_65 ?_
    rw [aw_cnt, if_neg (show ¬ nI 1 = nI 0 by decide), if_pos rfl]
  · subst hw
    refine vv_tableIn (tgt := 66) C dX5_howMany_1 (by decide) (by decide) rfl (by decide) ?_
    refine vv_aload_n C dX5_howMany_66 rfl 0 rfl ?_
    refine vv_getI C (a := 35) (k := 11) (o := 0) inlX5 rfl rfl rfl (by decide) rfl (tm_4 (List.mem_of_getElem? (i := 3) rfl)) dX5_howMany_67 ?_
    refine vv_fret C dX5_howMany_70 ?_
    rw [aw_cnt, if_neg (show ¬ nI 2 = nI 0 by decide), if_neg (show ¬ nI 2 = nI 1 by decide), if_pos rfl]
  · subst hw
    refine vv_tableIn (tgt := 71) C dX5_howMany_1 (by decide) (by decide) rfl (by decide) ?_
    refine vv_aload_n C dX5_howMany_71 rfl 0 rfl ?_
    refine vv_getI C (a := 35) (k := 12) (o := 0) inlX5 rfl rfl rfl (by decide) rfl (tm_12 (List.mem_of_getElem? (i := 3) rfl)) dX5_howMany_72 ?_
    refine vv_fret C dX5_howMany_75 ?_
    rw [aw_cnt, if_neg (show ¬ nI 3 = nI 0 by decide), if_neg (show ¬ nI 3 = nI 1 by decide), if_neg (show ¬ nI 3 = nI 2 by decide), if_pos rfl]
  · subst hw
    refine vv_tableIn (tgt := 76) C dX5_howMany_1 (by decide) (by decide) rfl (by decide) ?_
    refine vv_aload_n C dX5_howMany_76 rfl 0 rfl ?_
    refine vv_cV_F C (a := 35) (kk_X5_takenAll l g _ n hn hn8) yk_X5_takenAll (tm_20 (List.mem_of_getElem? (i := 11) rfl)) rfl rfl rfl (by decide) rfl (Nat.le_of_ble_eq_true rfl) rfl dX5_howMany_77 ?_
    refine vv_fret C dX5_howMany_80 ?_
    rw [aw_cnt, if_neg (show ¬ nI 4 = nI 0 by decide), if_neg (show ¬ nI 4 = nI 1 by decide), if_neg (show ¬ nI 4 = nI 2 by decide), if_neg (show ¬ nI 4 = nI 3 by decide), if_pos rfl]
  · subst hw
    refine vv_tableIn (tgt := 81) C dX5_howMany_1 (by decide) (by decide) rfl (by decide) ?_
    refine vv_aload_n C dX5_howMany_81 rfl 0 rfl ?_
    refine vv_getI C (a := 35) (k := 13) (o := 0) inlX5 rfl rfl rfl (by decide) rfl (tm_19 (List.mem_of_getElem? (i := 3) rfl)) dX5_howMany_82 ?_
    refine vv_fret C dX5_howMany_85 ?_
    rw [aw_cnt, if_neg (show ¬ nI 5 = nI 0 by decide), if_neg (show ¬ nI 5 = nI 1 by decide), if_neg (show ¬ nI 5 = nI 2 by decide), if_neg (show ¬ nI 5 = nI 3 by decide), if_neg (show ¬ nI 5 = nI 4 by decide), if_pos rfl]
  · subst hw
    refine vv_tableIn (tgt := 86) C dX5_howMany_1 (by decide) (by decide) rfl (by decide) ?_
    refine vv_aload_n C dX5_howMany_86 rfl 0 rfl ?_
    refine vv_getZ C (a := 35) (k := 15) (o := 0) inlX5 rfl rfl rfl (by decide) rfl (tm_18 (List.mem_of_getElem? (i := 22) rfl)) dX5_howMany_87 ?_
    refine vv_ifz_eq (tgt := 97) C dX5_howMany_90 (by decide) (fun h90 => ?_) (fun h90 => ?_)
    · refine vv_iconst (v := (0)) C dX5_howMany_97 (by decide) ?_
      refine vv_fret C dX5_howMany_98 ?_
      rw [aw_cnt, if_neg (show ¬ nI 6 = nI 0 by decide), if_neg (show ¬ nI 6 = nI 1 by decide), if_neg (show ¬ nI 6 = nI 2 by decide), if_neg (show ¬ nI 6 = nI 3 by decide), if_neg (show ¬ nI 6 = nI 4 by decide), if_neg (show ¬ nI 6 = nI 5 by decide), if_pos rfl]
      simp [vx_b01, h90]
    · refine vv_iconst (v := (1)) C dX5_howMany_93 (by decide) ?_
      refine vv_goto (tgt := 98) C dX5_howMany_94 (by decide) ?_
      refine vv_fret C dX5_howMany_98 ?_
      rw [aw_cnt, if_neg (show ¬ nI 6 = nI 0 by decide), if_neg (show ¬ nI 6 = nI 1 by decide), if_neg (show ¬ nI 6 = nI 2 by decide), if_neg (show ¬ nI 6 = nI 3 by decide), if_neg (show ¬ nI 6 = nI 4 by decide), if_neg (show ¬ nI 6 = nI 5 by decide), if_pos rfl]
      simp [vx_b01, h90]
  · subst hw
    refine vv_tableIn (tgt := 99) C dX5_howMany_1 (by decide) (by decide) rfl (by decide) ?_
    refine vv_aload_n C dX5_howMany_99 rfl 0 rfl ?_
    refine vv_getZ C (a := 35) (k := 16) (o := 0) inlX5 rfl rfl rfl (by decide) rfl (tm_14 (List.mem_of_getElem? (i := 19) rfl)) dX5_howMany_100 ?_
    refine vv_ifz_eq (tgt := 110) C dX5_howMany_103 (by decide) (fun h103 => ?_) (fun h103 => ?_)
    · refine vv_iconst (v := (0)) C dX5_howMany_110 (by decide) ?_
      refine vv_fret C dX5_howMany_111 ?_
      rw [aw_cnt, if_neg (show ¬ nI 7 = nI 0 by decide), if_neg (show ¬ nI 7 = nI 1 by decide), if_neg (show ¬ nI 7 = nI 2 by decide), if_neg (show ¬ nI 7 = nI 3 by decide), if_neg (show ¬ nI 7 = nI 4 by decide), if_neg (show ¬ nI 7 = nI 5 by decide), if_neg (show ¬ nI 7 = nI 6 by decide), if_pos rfl]
      simp [vx_b01, h103]
    · refine vv_iconst (v := (1)) C dX5_howMany_106 (by decide) ?_
      refine vv_goto (tgt := 111) C dX5_howMany_107 (by decide) ?_
      refine vv_fret C dX5_howMany_111 ?_
      rw [aw_cnt, if_neg (show ¬ nI 7 = nI 0 by decide), if_neg (show ¬ nI 7 = nI 1 by decide), if_neg (show ¬ nI 7 = nI 2 by decide), if_neg (show ¬ nI 7 = nI 3 by decide), if_neg (show ¬ nI 7 = nI 4 by decide), if_neg (show ¬ nI 7 = nI 5 by decide), if_neg (show ¬ nI 7 = nI 6 by decide), if_pos rfl]
      simp [vx_b01, h103]
  · subst hw
    refine vv_tableIn (tgt := 112) C dX5_howMany_1 (by decide) (by decide) rfl (by decide) ?_
    refine vv_aload_n C dX5_howMany_112 rfl 0 rfl ?_
    refine vv_getI C (a := 35) (k := 17) (o := 0) inlX5 rfl rfl rfl (by decide) rfl (tm_26 (List.mem_of_getElem? (i := 13) rfl)) dX5_howMany_113 ?_
    refine vv_fret C dX5_howMany_116 ?_
    rw [aw_cnt, if_neg (show ¬ nI 8 = nI 0 by decide), if_neg (show ¬ nI 8 = nI 1 by decide), if_neg (show ¬ nI 8 = nI 2 by decide), if_neg (show ¬ nI 8 = nI 3 by decide), if_neg (show ¬ nI 8 = nI 4 by decide), if_neg (show ¬ nI 8 = nI 5 by decide), if_neg (show ¬ nI 8 = nI 6 by decide), if_neg (show ¬ nI 8 = nI 7 by decide), if_pos rfl]
  · subst hw
    refine vv_tableIn (tgt := 117) C dX5_howMany_1 (by decide) (by decide) rfl (by decide) ?_
    refine vv_aload_n C dX5_howMany_117 rfl 0 rfl ?_
    refine vv_getI C (a := 35) (k := 20) (o := 0) inlX5 rfl rfl rfl (by decide) rfl (tm_5 (List.mem_of_getElem? (i := 7) rfl)) dX5_howMany_118 ?_
    refine vv_fret C dX5_howMany_121 ?_
    rw [aw_cnt, if_neg (show ¬ nI 9 = nI 0 by decide), if_neg (show ¬ nI 9 = nI 1 by decide), if_neg (show ¬ nI 9 = nI 2 by decide), if_neg (show ¬ nI 9 = nI 3 by decide), if_neg (show ¬ nI 9 = nI 4 by decide), if_neg (show ¬ nI 9 = nI 5 by decide), if_neg (show ¬ nI 9 = nI 6 by decide), if_neg (show ¬ nI 9 = nI 7 by decide), if_neg (show ¬ nI 9 = nI 8 by decide), if_pos rfl]
  · refine vv_tableOut (tgt := 122) C dX5_howMany_1 hw (by decide) ?_
    refine vv_bipush (v := (-102)) C dX5_howMany_122 (by decide) ?_
    refine vv_fret C dX5_howMany_124 ?_
    have ne : ∀ j : Nat, j < 10 → ¬ w = nI j := fun j hj e => by rw [e, nI_toInt (by omega)] at hw; omega
    simp only [aw_cnt, ne 0 (by decide), ne 1 (by decide), ne 2 (by decide), ne 3 (by decide), ne 4 (by decide), ne 5 (by decide), ne 6 (by decide), ne 7 (by decide), ne 8 (by decide), ne 9 (by decide), if_false]
theorem yk_X5_count : vx_yV yX5_count cX5_count 2 (some .int) 1 := ⟨(tm_30 (List.mem_of_getElem? (i := 15) rfl)), (tm_1 (List.mem_of_getElem? (i := 5) rfl)), by decide +kernel, (tm_30 (List.mem_of_getElem? (i := 13) rfl)), (tm_30 (List.mem_of_getElem? (i := 14) rfl))⟩
set_option maxHeartbeats 4000000 in
set_option maxRecDepth 100000 in
theorem kk_X5_count (l : Launch) (g : vx_G) (S : vx_St) (w : Int32) (n : Nat) (hn : S.1 35 0 = nI n) (hn8 : n ≤ 8) : vx_M l g yX5_count cX5_count 2 (some .int) (vx_R 2 43) [.ref (g.2.2.1 35), .int w] S (vx_pf (aw_cnt (S.1 35 0) (S.1 35 10) (S.1 35 11) (S.1 35 12) (pm_sm (S.1 42) n) (S.1 35 13) (S.1 35 15) (S.1 35 16) (S.1 35 17) (S.1 35 20) w) S) := by
  refine vx_M.intro (by decide) (Nat.le_of_ble_eq_true rfl) ?_
  intro p e s m args below meth c C
  refine vv_aload_n C dX5_count_0 rfl 0 rfl ?_
  refine vv_iload_n C dX5_count_1 rfl 1 rfl ?_
  refine vv_cV_F C (a := 35) (kk_X5_howMany l g _ _ n hn hn8) yk_X5_howMany (tm_30 (List.mem_of_getElem? (i := 16) rfl)) rfl rfl rfl (by decide) rfl (Nat.le_of_ble_eq_true rfl) rfl dX5_count_2 ?_
  refine vv_fret C dX5_count_5 ?_
  rfl
theorem yk_X5_blank : vx_yV yX5_blank cX5_blank 2 (some .int) 0 := ⟨(tm_5 (List.mem_of_getElem? (i := 15) rfl)), (tm_1 (List.mem_of_getElem? (i := 5) rfl)), by decide +kernel, (tm_5 (List.mem_of_getElem? (i := 13) rfl)), (tm_5 (List.mem_of_getElem? (i := 14) rfl))⟩
set_option maxHeartbeats 4000000 in
set_option maxRecDepth 100000 in
theorem kk_X5_blank (l : Launch) (g : vx_G) (S : vx_St)  : vx_M l g yX5_blank cX5_blank 2 (some .int) (vx_R 0 0) [.ref (g.2.2.1 35)] S (vx_pi (fun r S' => r = S.1 35 20 ∧ S' = vx_u S 35 20 0)) := by
  refine vx_M.intro (by decide) (Nat.le_of_ble_eq_true rfl) ?_
  intro p e s m args below meth c C
  refine vv_aload_n C dX5_blank_0 rfl 0 rfl ?_
  refine vv_getI C (a := 35) (k := 20) (o := 0) inlX5 rfl rfl rfl (by decide) rfl (tm_5 (List.mem_of_getElem? (i := 7) rfl)) dX5_blank_1 ?_
  refine vv_istore_n (i := 1) (L' := [_, _]) C dX5_blank_4 rfl (by decide) rfl ?_
  refine vv_aload_n C dX5_blank_5 rfl 1 rfl ?_
  refine vv_iconst (v := (0)) C dX5_blank_6 (by decide) ?_
  refine vv_putI C (a := 35) (k := 20) inlX5 tyX5 tyX5_ok nmX5 rfl rfl rfl (by decide) rfl rfl rfl (tm_5 (List.mem_of_getElem? (i := 7) rfl)) dX5_blank_7 ?_
  refine vv_iload_n C dX5_blank_10 rfl 0 rfl ?_
  refine vv_jret C dX5_blank_11 ?_
  exact ⟨rfl, rfl⟩
theorem yk_X5_wipe : vx_yV yX5_wipe cX5_wipe 2 (some .int) 0 := ⟨(tm_26 (List.mem_of_getElem? (i := 21) rfl)), (tm_1 (List.mem_of_getElem? (i := 5) rfl)), by decide +kernel, (tm_26 (List.mem_of_getElem? (i := 19) rfl)), (tm_26 (List.mem_of_getElem? (i := 20) rfl))⟩
set_option maxHeartbeats 4000000 in
set_option maxRecDepth 100000 in
theorem kk_X5_wipe (l : Launch) (g : vx_G) (S : vx_St)  : vx_M l g yX5_wipe cX5_wipe 2 (some .int) (vx_R 0 0) [.ref (g.2.2.1 35)] S (vx_pi (fun r S' => r = S.1 35 17 ∧ S' = vx_u S 35 17 0)) := by
  refine vx_M.intro (by decide) (Nat.le_of_ble_eq_true rfl) ?_
  intro p e s m args below meth c C
  refine vv_aload_n C dX5_wipe_0 rfl 0 rfl ?_
  refine vv_getI C (a := 35) (k := 17) (o := 0) inlX5 rfl rfl rfl (by decide) rfl (tm_26 (List.mem_of_getElem? (i := 13) rfl)) dX5_wipe_1 ?_
  refine vv_istore_n (i := 1) (L' := [_, _]) C dX5_wipe_4 rfl (by decide) rfl ?_
  refine vv_aload_n C dX5_wipe_5 rfl 1 rfl ?_
  refine vv_iconst (v := (0)) C dX5_wipe_6 (by decide) ?_
  refine vv_putI C (a := 35) (k := 17) inlX5 tyX5 tyX5_ok nmX5 rfl rfl rfl (by decide) rfl rfl rfl (tm_26 (List.mem_of_getElem? (i := 13) rfl)) dX5_wipe_7 ?_
  refine vv_iload_n C dX5_wipe_10 rfl 0 rfl ?_
  refine vv_jret C dX5_wipe_11 ?_
  exact ⟨rfl, rfl⟩
theorem yk_X5_read : vx_yV yX5_read cX5_read 3 (some .int) 2 := ⟨(tm_26 (List.mem_of_getElem? (i := 12) rfl)), (tm_1 (List.mem_of_getElem? (i := 5) rfl)), by decide +kernel, (tm_26 (List.mem_of_getElem? (i := 10) rfl)), (tm_26 (List.mem_of_getElem? (i := 11) rfl))⟩
set_option maxHeartbeats 4000000 in
set_option maxRecDepth 100000 in
theorem kk_X5_read (l : Launch) (g : vx_G) (S : vx_St) (t f : Int32) (n : Nat) (hn : S.1 35 0 = nI n) (hn8 : n ≤ 8) (mr : Nat) (hm : S.1 35 17 = nI mr) (hm8 : mr ≤ 8) : vx_M l g yX5_read cX5_read 3 (some .int) (vx_R 1 22) [.ref (g.2.2.1 35), .int t, .int f] S (vx_pi (fun r S' => r = aw_read t f (S.1 35 0) mr ∧ S' = if aw_rdB t f (S.1 35 0) = true ∧ mr < 8 then vx_u (vx_u (vx_u S 44 mr t) 45 mr f) 35 17 (nI (mr + 1)) else S)) := by
  refine vx_M.intro (by decide) (Nat.le_of_ble_eq_true rfl) ?_
  intro p e s m args below meth c C
  refine vv_iload_n C dX5_read_0 rfl 1 rfl ?_
  refine vv_iconst (v := (1)) C dX5_read_1 (by decide) ?_
  refine vv_aload_n C dX5_read_2 rfl 0 rfl ?_
  refine vv_cV_F C (a := 35) (kk_X5_everybody l g _) yk_X5_everybody (tm_16 (List.mem_of_getElem? (i := 23) rfl)) rfl rfl rfl (by decide) rfl (Nat.le_of_ble_eq_true rfl) rfl dX5_read_3 ?_
  refine vv_cS_F C (kk_X5_within l g _ _ _ _) yk_X5_within (tm_10 (List.mem_of_getElem? (i := 22) rfl)) (by decide) rfl (Nat.le_of_ble_eq_true rfl) rfl dX5_read_6 ?_
  refine vv_ifb_eq (tgt := 23) C dX5_read_9 (by decide) (fun h9 => ?_) (fun h9 => ?_)
  · refine vv_bipush (v := (-102)) C dX5_read_23 (by decide) ?_
    refine vv_jret C dX5_read_25 ?_
    have hB : aw_rdB t f (S.1 35 0) = false := by rw [pm_rdB]; simp [h9]
    exact ⟨by rw [aw_read, if_neg (by rw [hB]; decide)], by rw [if_neg (by rw [hB]; intro z; exact absurd z.1 (by decide))]⟩
  · refine vv_iload_n C dX5_read_12 rfl 2 rfl ?_
    refine vv_iconst (v := (1)) C dX5_read_13 (by decide) ?_
    refine vv_sipush (v := (199)) C dX5_read_14 (by decide) ?_
    refine vv_cS_F C (kk_X5_within l g _ _ _ _) yk_X5_within (tm_10 (List.mem_of_getElem? (i := 22) rfl)) (by decide) rfl (Nat.le_of_ble_eq_true rfl) rfl dX5_read_17 ?_
    refine vv_ifb_ne (tgt := 26) C dX5_read_20 (by decide) (fun h20 => ?_) (fun h20 => ?_)
    · refine vv_aload_n C dX5_read_26 rfl 0 rfl ?_
      refine vv_getI C (a := 35) (k := 17) (o := 0) inlX5 rfl rfl rfl (by decide) rfl (tm_26 (List.mem_of_getElem? (i := 13) rfl)) dX5_read_27 ?_
      refine vv_bipush (v := (nI 8)) C dX5_read_30 (by decide) ?_
      refine vv_icmp_ne (tgt := 38) C dX5_read_32 (by decide) (fun h32 => ?_) (fun h32 => ?_)
      · rw [hm, nI_eq (by omega) (by omega)] at h32
        refine vv_aload_n C dX5_read_38 rfl 0 rfl ?_
        refine vv_gR C (a := 35) (k := 18) (b := 44) inlX5 rfl rfl rfl rfl (by decide) rfl (tm_4 (List.mem_of_getElem? (i := 4) rfl)) dX5_read_39 ?_
        refine vv_aload_n C dX5_read_42 rfl 0 rfl ?_
        refine vv_getI C (a := 35) (k := 17) (o := 0) inlX5 rfl rfl rfl (by decide) rfl (tm_26 (List.mem_of_getElem? (i := 13) rfl)) dX5_read_43 ?_
        rw [hm]
        refine vv_iload_n C dX5_read_46 rfl 1 rfl ?_
        refine vv_iastN C (a := 44) rfl (by omega) (by decide) dX5_read_47 ?_
        refine vv_aload_n C dX5_read_48 rfl 0 rfl ?_
        refine vv_gR C (a := 35) (k := 19) (b := 45) inlX5 rfl rfl rfl rfl (by decide) rfl (tm_4 (List.mem_of_getElem? (i := 5) rfl)) dX5_read_49 ?_
        refine vv_aload_n C dX5_read_52 rfl 0 rfl ?_
        refine vv_getI C (a := 35) (k := 17) (o := 0) inlX5 rfl rfl rfl (by decide) rfl (tm_26 (List.mem_of_getElem? (i := 13) rfl)) dX5_read_53 ?_
        rw [show (vx_u S 44 mr t).1 35 17 = nI mr from by rw [vx_u_ne _ _ _ (by decide)]; exact hm]
        refine vv_iload_n C dX5_read_56 rfl 2 rfl ?_
        refine vv_iastN C (a := 45) rfl (by omega) (by decide) dX5_read_57 ?_
        refine vv_aload_n C dX5_read_58 rfl 0 rfl ?_
        refine vv_dup C dX5_read_59 rfl ?_
        refine vv_getI C (a := 35) (k := 17) (o := 0) inlX5 rfl rfl rfl (by decide) rfl (tm_26 (List.mem_of_getElem? (i := 13) rfl)) dX5_read_60 ?_
        refine vv_iconst (v := (1)) C dX5_read_63 (by decide) ?_
        refine vv_iadd C dX5_read_64 ?_
        refine vv_putI C (a := 35) (k := 17) inlX5 tyX5 tyX5_ok nmX5 rfl rfl rfl (by decide) rfl rfl rfl (tm_26 (List.mem_of_getElem? (i := 13) rfl)) dX5_read_65 ?_
        refine vv_aload_n C dX5_read_68 rfl 0 rfl ?_
        refine vv_getI C (a := 35) (k := 17) (o := 0) inlX5 rfl rfl rfl (by decide) rfl (tm_26 (List.mem_of_getElem? (i := 13) rfl)) dX5_read_69 ?_
        refine vv_jret C dX5_read_72 ?_
        have hB : aw_rdB t f (S.1 35 0) = true := by rw [pm_rdB]; simp [h9, h20]
        have hv : (vx_u (vx_u S 44 mr t) 45 mr f).1 35 17 + 1 = nI (mr + 1) := by rw [vx_u_ne _ _ _ (by decide), vx_u_ne _ _ _ (by decide), hm, nI_1]
        exact ⟨by rw [vx_u_row, aw_read, if_pos hB, if_pos (by omega), hv]; simp [upd], by rw [if_pos ⟨hB, by omega⟩, hv]⟩
      · rw [hm, nI_eq (by omega) (by omega)] at h32
        refine vv_bipush (v := (-104)) C dX5_read_35 (by decide) ?_
        refine vv_jret C dX5_read_37 ?_
        have hB : aw_rdB t f (S.1 35 0) = true := by rw [pm_rdB]; simp [h9, h20]
        exact ⟨by rw [aw_read, if_pos hB, if_neg (by omega)], by rw [if_neg (fun z => absurd z.2 (by omega))]⟩
    · refine vv_bipush (v := (-102)) C dX5_read_23 (by decide) ?_
      refine vv_jret C dX5_read_25 ?_
      have hB : aw_rdB t f (S.1 35 0) = false := by rw [pm_rdB]; simp [h20]
      exact ⟨by rw [aw_read, if_neg (by rw [hB]; decide)], by rw [if_neg (by rw [hB]; intro z; exact absurd z.1 (by decide))]⟩
theorem vv_pmc {p : Program} {l : Launch} {e : Env} {R : Room} {s : State} {m : MethodId} {args : Array Value} {below : List Frame} {meth : Method} {c : Code} {Q : State → Prop} {g : vx_G} {nL pc : Nat} {L : List (Nat × Value)} {st : List Value} {S : vx_St} {w : Int64} {q : Int32} (k : vx_V p l e R s m args below meth c Q g nL pc L (.int (pm_code w q) :: st) S) : vx_V p l e R s m args below meth c Q g nL pc L (.int ((w >>> (((8 : Int32) * q).toInt64 &&& 63)) &&& 255).toInt32 :: st) S := k
theorem yk_X5_letters : vx_yV yX5_letters cX5_letters 7 (some .int) 1 := ⟨(tm_5 (List.mem_of_getElem? (i := 5) rfl)), (tm_1 (List.mem_of_getElem? (i := 5) rfl)), by decide +kernel, (tm_5 (List.mem_of_getElem? (i := 3) rfl)), (tm_5 (List.mem_of_getElem? (i := 4) rfl))⟩
set_option maxHeartbeats 4000000 in
set_option maxRecDepth 100000 in
theorem kk_X5_letters (l : Launch) (g : vx_G) (S : vx_St) (w : Int64) (z : Nat) (hz : S.1 35 20 = nI z) (hz12 : z ≤ 12) : vx_M l g yX5_letters cX5_letters 7 (some .int) (vx_R 0 0) [.ref (g.2.2.1 35), .long w] S (vx_pi (fun r S' => r = aw_letR (fun i => pm_code w (nI i)) z ∧ pu_chg S S' [35, 46] ∧ S'.1 35 = upd (S.1 35) 20 (nI (z + aw_letK (fun i => pm_code w (nI i)) z)) ∧ S'.1 46 = pu_app (S.1 46) (fun i => pm_byte w (nI i)) z (aw_letK (fun i => pm_code w (nI i)) z))) := by
  refine vx_M.intro (by decide) (Nat.le_of_ble_eq_true rfl) ?_
  intro p e s m args below meth c C
  have lp102 : ∀ (fu : Nat) (mm i : Nat) (S1 : vx_St), (mm - i < fu ∧ i ≤ mm ∧ z + mm ≤ 12 ∧ pu_okl (fun i => pm_code w (nI i)) 8 = true ∧ pu_many (fun i => pm_code w (nI i)) 8 = mm ∧ pu_chg S S1 [35, 46] ∧ S1.1 35 = S.1 35 ∧ S1.1 46 = pu_app (S.1 46) (fun i => pm_byte w (nI i)) z i) → vx_V p l e (vx_R 0 0) s m args below meth c (MQ below (vx_Q g (vx_pi (fun r S' => r = aw_letR (fun i => pm_code w (nI i)) z ∧ pu_chg S S' [35, 46] ∧ S'.1 35 = upd (S.1 35) 20 (nI (z + aw_letK (fun i => pm_code w (nI i)) z)) ∧ S'.1 46 = pu_app (S.1 46) (fun i => pm_byte w (nI i)) z (aw_letK (fun i => pm_code w (nI i)) z)))) args s 0 0 (vx_A g)) g 7 102 [(0, .ref (g.2.2.1 35)), (1, .long w), (3, .int (nI mm)), (5, .int (nI i))] [] (S1) := by
    intro fu
    induction fu with
    | zero =>
      intro mm i S1 hfu
      exact absurd hfu.1 (by omega)
    | succ fu ih =>
      intro mm i S1 hfu
      obtain ⟨hf1, hf2, hle, hok, hmm, hc, r35, r46⟩ := hfu
      have hz1 : S1.1 35 20 = nI z := by rw [r35]; exact hz
      refine vv_iload C dX5_letters_102 3 rfl ?_
      refine vv_iload_n C dX5_letters_104 rfl 2 rfl ?_
      refine vv_icmp_ge (tgt := 135) C dX5_letters_105 (by decide) (fun h105 => ?_) (fun h105 => ?_)
      · have g105 := pu_le h105
        have hge := pu_geT rfl (by omega) (by omega) h105
        obtain rfl : mm = i := by omega
        refine vv_aload_n C dX5_letters_135 rfl 0 rfl ?_
        refine vv_dup C dX5_letters_136 rfl ?_
        refine vv_getI C (a := 35) (k := 20) (o := 0) inlX5 rfl rfl rfl (by decide) rfl (tm_5 (List.mem_of_getElem? (i := 7) rfl)) dX5_letters_137 ?_
        refine vv_iload_n C dX5_letters_140 rfl 2 rfl ?_
        refine vv_iadd C dX5_letters_141 ?_
        refine vv_putI C (a := 35) (k := 20) inlX5 tyX5 tyX5_ok nmX5 rfl rfl rfl (by decide) rfl rfl rfl (tm_5 (List.mem_of_getElem? (i := 7) rfl)) dX5_letters_142 ?_
        refine vv_aload_n C dX5_letters_145 rfl 0 rfl ?_
        refine vv_getI C (a := 35) (k := 20) (o := 0) inlX5 rfl rfl rfl (by decide) rfl (tm_5 (List.mem_of_getElem? (i := 7) rfl)) dX5_letters_146 ?_
        refine vv_jret C dX5_letters_149 ?_
        have e : aw_letK (fun i => pm_code w (nI i)) z = mm := by rw [aw_letK, if_pos ⟨hok, by omega⟩, hmm]
        refine ⟨by rw [aw_letR, if_pos hok, if_pos (by omega), hmm, vx_u_row, hz1, nI_add]; simp [upd], pu_chg_u hc _ _ (by simp), ?_, ?_⟩
        · rw [vx_u_row, hz1, nI_add, r35, e]
        · rw [vx_u_ne _ _ _ (by decide), e]; exact r46
      · have g105 := pu_nle h105
        have hlt := pu_geF rfl (by omega) (by omega) h105
        refine vv_aload_n C dX5_letters_108 rfl 0 rfl ?_
        refine vv_gR C (a := 35) (k := 21) (b := 46) inlX5 rfl rfl rfl rfl (by decide) rfl (tm_4 (List.mem_of_getElem? (i := 7) rfl)) dX5_letters_109 ?_
        refine vv_aload_n C dX5_letters_112 rfl 0 rfl ?_
        refine vv_getI C (a := 35) (k := 20) (o := 0) inlX5 rfl rfl rfl (by decide) rfl (tm_5 (List.mem_of_getElem? (i := 7) rfl)) dX5_letters_113 ?_
        refine vv_iload C dX5_letters_116 3 rfl ?_
        refine vv_iadd C dX5_letters_118 ?_
        rw [hz1, nI_add]
        refine vv_lload_n C dX5_letters_119 rfl 1 rfl ?_
        refine vv_bipush (v := (8)) C dX5_letters_120 (by decide) ?_
        refine vv_iload C dX5_letters_122 3 rfl ?_
        refine vv_imul C dX5_letters_124 ?_
        refine vv_lshr C dX5_letters_125 ?_
        refine vv_l2i C dX5_letters_126 ?_
        refine vv_i2b C dX5_letters_127 ?_
        refine vv_bastN C (a := 46) rfl (show z + i < 12 by omega) (by decide) dX5_letters_128 ?_
        refine vv_iincN (L' := [_, _, _, _]) (j := 3) C dX5_letters_129 rfl (by decide) rfl ?_
        refine vv_goto (tgt := 102) C dX5_letters_132 (by decide) ?_
        refine vv_sub (L' := [_, _, _, _]) [1, 2, 3, 0] rfl ?_
        refine ih mm (i + 1) _ ⟨by omega, by omega, hle, hok, hmm, pu_chg_u hc _ _ (by simp), ?_, ?_⟩
        · rw [vx_u_ne _ _ _ (by decide)]; exact r35
        · rw [vx_u_row, r46]; exact pu_app_s _ _ z i
  have lp8 : ∀ (fu : Nat) (i : Nat), (8 - i < fu ∧ i ≤ 8 ∧ pu_okl (fun i => pm_code w (nI i)) i = true) → vx_V p l e (vx_R 0 0) s m args below meth c (MQ below (vx_Q g (vx_pi (fun r S' => r = aw_letR (fun i => pm_code w (nI i)) z ∧ pu_chg S S' [35, 46] ∧ S'.1 35 = upd (S.1 35) 20 (nI (z + aw_letK (fun i => pm_code w (nI i)) z)) ∧ S'.1 46 = pu_app (S.1 46) (fun i => pm_byte w (nI i)) z (aw_letK (fun i => pm_code w (nI i)) z)))) args s 0 0 (vx_A g)) g 7 8 [(0, .ref (g.2.2.1 35)), (1, .long w), (3, .int (nI (pu_many (fun i => pm_code w (nI i)) i))), (4, .int (vx_i (pu_end (fun i => pm_code w (nI i)) i))), (5, .int (nI i))] [] (S) := by
    intro fu
    induction fu with
    | zero =>
      intro i hfu
      exact absurd hfu.1 (by omega)
    | succ fu ih =>
      intro i hfu
      obtain ⟨hf1, hf2, hf3⟩ := hfu
      refine vv_iload C dX5_letters_8 4 rfl ?_
      refine vv_bipush (v := (nI 8)) C dX5_letters_10 (by decide) ?_
      refine vv_icmp_ge (tgt := 85) C dX5_letters_12 (by decide) (fun h12 => ?_) (fun h12 => ?_)
      · have g12 := pu_le h12
        have hge := pu_geT rfl (by omega) (by omega) h12
        obtain rfl : 8 = i := by omega
        have hml := pu_many_le (fun i => pm_code w (nI i)) 8
        refine vv_aload_n C dX5_letters_85 rfl 0 rfl ?_
        refine vv_getI C (a := 35) (k := 20) (o := 0) inlX5 rfl rfl rfl (by decide) rfl (tm_5 (List.mem_of_getElem? (i := 7) rfl)) dX5_letters_86 ?_
        refine vv_iload_n C dX5_letters_89 rfl 2 rfl ?_
        refine vv_iadd C dX5_letters_90 ?_
        refine vv_bipush (v := (nI 12)) C dX5_letters_91 (by decide) ?_
        refine vv_icmp_le (tgt := 99) C dX5_letters_93 (by decide) (fun h93 => ?_) (fun h93 => ?_)
        · have g93 := pu_le h93
          rw [hz, nI_add] at h93
          have hle : z + pu_many (fun i => pm_code w (nI i)) 8 ≤ 12 := pu_geT (x := nI (z + pu_many (fun i => pm_code w (nI i)) 8)) rfl (by omega) (by omega) h93
          refine vv_iconst (v := (nI 0)) C dX5_letters_99 (by decide) ?_
          refine vv_istore (L' := [_, _, _, _, _]) C dX5_letters_100 (by decide) rfl ?_
          refine vv_sub (L' := [_, _, _, _]) [1, 2, 3, 0] rfl ?_
          exact lp102 (pu_many (fun i => pm_code w (nI i)) 8 + 1) (pu_many (fun i => pm_code w (nI i)) 8) 0 S ⟨by omega, by omega, hle, hf3, rfl, pu_chg_rf S _, rfl, (pu_app_0 _ _ _).symm⟩
        · have g93 := pu_nle h93
          rw [hz, nI_add] at h93
          have hgt : 12 < z + pu_many (fun i => pm_code w (nI i)) 8 := pu_geF (x := nI (z + pu_many (fun i => pm_code w (nI i)) 8)) rfl (by omega) (by omega) h93
          refine vv_bipush (v := (-104)) C dX5_letters_96 (by decide) ?_
          refine vv_jret C dX5_letters_98 ?_
          have e : aw_letK (fun i => pm_code w (nI i)) z = 0 := by rw [aw_letK, if_neg (by omega)]
          exact ⟨by rw [aw_letR, if_pos hf3, if_neg (by omega)], pu_chg_rf S _, by rw [e, Nat.add_zero, ← hz]; funext j; simp only [upd]; split <;> simp_all, by rw [e, pu_app_0]⟩
      · have g12 := pu_nle h12
        have hlt := pu_geF rfl (by omega) (by omega) h12
        refine vv_lload_n C dX5_letters_15 rfl 1 rfl ?_
        refine vv_bipush (v := (8)) C dX5_letters_16 (by decide) ?_
        refine vv_iload C dX5_letters_18 4 rfl ?_
        refine vv_imul C dX5_letters_20 ?_
        refine vv_lshr C dX5_letters_21 ?_
        refine vv_ldc2 C (tm_5 (List.mem_of_getElem? (i := 6) rfl)) dX5_letters_22 ?_
        refine vv_land C dX5_letters_25 ?_
        refine vv_l2i C dX5_letters_26 ?_
        refine vv_pmc ?_
        refine vv_istore (L' := [_, _, _, _, _, _]) C dX5_letters_27 (by decide) rfl ?_
        refine vv_iload C dX5_letters_29 0 rfl ?_
        refine vv_bipush (v := (126)) C dX5_letters_31 (by decide) ?_
        refine vv_icmp_gt (tgt := 46) C dX5_letters_33 (by decide) (fun h33 => ?_) (fun h33 => ?_)
        · have g33 := pu_lt h33
          refine vv_bipush (v := (-102)) C dX5_letters_46 (by decide) ?_
          refine vv_jret C dX5_letters_48 ?_
          have ho : pu_okl (fun i => pm_code w (nI i)) 8 = false := pu_okl_no (i := i) (by simp [pu_okl, h33]) 8 (by omega)
          have e : aw_letK (fun i => pm_code w (nI i)) z = 0 := by simp [aw_letK, ho]
          exact ⟨by simp [aw_letR, ho], pu_chg_rf S _, by rw [e, Nat.add_zero, ← hz]; funext j; simp only [upd]; split <;> simp_all, by rw [e, pu_app_0]⟩
        · have g33 := pu_nlt h33
          refine vv_iload C dX5_letters_36 4 rfl ?_
          refine vv_ifb_eq (tgt := 49) C dX5_letters_38 (by decide) (fun h38 => ?_) (fun h38 => ?_)
          · refine vv_iload C dX5_letters_49 4 rfl ?_
            refine vv_ifb_ne (tgt := 59) C dX5_letters_51 (by decide) (fun h51 => ?_) (fun h51 => ?_)
            · refine vv_iconst (v := (1)) C dX5_letters_59 (by decide) ?_
              refine vv_goto (tgt := 64) C dX5_letters_60 (by decide) ?_
              refine vv_istore (L' := [_, _, _, _, _, _]) C dX5_letters_64 (by decide) rfl ?_
              refine vv_iload_n C dX5_letters_66 rfl 4 rfl ?_
              refine vv_iload C dX5_letters_67 1 rfl ?_
              refine vv_if_ne (tgt := 76) C dX5_letters_69 (by decide) (fun h69 => ?_) (fun h69 => ?_)
              · refine vv_iconst (v := (1)) C dX5_letters_76 (by decide) ?_
                refine vv_iadd C dX5_letters_77 ?_
                refine vv_istore_n (i := 3) (L' := [_, _, _, _, _, _]) C dX5_letters_78 rfl (by decide) rfl ?_
                refine vv_iincN (L' := [_, _, _, _, _, _]) (j := 5) C dX5_letters_79 rfl (by decide) rfl ?_
                refine vv_goto (tgt := 8) C dX5_letters_82 (by decide) ?_
                refine vv_sub (L' := [_, _, _, _, _]) [4, 5, 1, 2, 0] rfl ?_
                have q := ih (i + 1) ⟨by omega, by omega, by simp [pu_okl, hf3, g33, h38]⟩
                rw [pu_many_n (c := (fun i => pm_code w (nI i))) h69, pu_end_n (c := (fun i => pm_code w (nI i))) h69, ← nI_1] at q
                rw [show pu_end (fun i => pm_code w (nI i)) i = true from h51] at q
                exact q
              · refine vv_iconst (v := (0)) C dX5_letters_72 (by decide) ?_
                refine vv_goto (tgt := 77) C dX5_letters_73 (by decide) ?_
                refine vv_iadd C dX5_letters_77 ?_
                refine vv_istore_n (i := 3) (L' := [_, _, _, _, _, _]) C dX5_letters_78 rfl (by decide) rfl ?_
                refine vv_iincN (L' := [_, _, _, _, _, _]) (j := 5) C dX5_letters_79 rfl (by decide) rfl ?_
                refine vv_goto (tgt := 8) C dX5_letters_82 (by decide) ?_
                refine vv_sub (L' := [_, _, _, _, _]) [4, 5, 1, 2, 0] rfl ?_
                have q := ih (i + 1) ⟨by omega, by omega, by simp [pu_okl, hf3, g33, h38]⟩
                rw [pu_many_z (c := (fun i => pm_code w (nI i))) h69, pu_end_z (c := (fun i => pm_code w (nI i))) h69] at q
                rw [pm_add0]
                exact q
            · refine vv_iload C dX5_letters_54 0 rfl ?_
              refine vv_if_ne (tgt := 63) C dX5_letters_56 (by decide) (fun h56 => ?_) (fun h56 => ?_)
              · refine vv_iconst (v := (0)) C dX5_letters_63 (by decide) ?_
                refine vv_istore (L' := [_, _, _, _, _, _]) C dX5_letters_64 (by decide) rfl ?_
                refine vv_iload_n C dX5_letters_66 rfl 4 rfl ?_
                refine vv_iload C dX5_letters_67 1 rfl ?_
                refine vv_if_ne (tgt := 76) C dX5_letters_69 (by decide) (fun h69 => ?_) (fun h69 => ?_)
                · refine vv_iconst (v := (1)) C dX5_letters_76 (by decide) ?_
                  refine vv_iadd C dX5_letters_77 ?_
                  refine vv_istore_n (i := 3) (L' := [_, _, _, _, _, _]) C dX5_letters_78 rfl (by decide) rfl ?_
                  refine vv_iincN (L' := [_, _, _, _, _, _]) (j := 5) C dX5_letters_79 rfl (by decide) rfl ?_
                  refine vv_goto (tgt := 8) C dX5_letters_82 (by decide) ?_
                  refine vv_sub (L' := [_, _, _, _, _]) [4, 5, 1, 2, 0] rfl ?_
                  have q := ih (i + 1) ⟨by omega, by omega, by simp [pu_okl, hf3, g33, h38]⟩
                  rw [pu_many_n (c := (fun i => pm_code w (nI i))) h69, pu_end_n (c := (fun i => pm_code w (nI i))) h69, ← nI_1] at q
                  rw [show pu_end (fun i => pm_code w (nI i)) i = false from h51] at q
                  exact q
                · exact absurd h69 h56
              · have h56b := h56
                refine vv_iconst (v := (1)) C dX5_letters_59 (by decide) ?_
                refine vv_goto (tgt := 64) C dX5_letters_60 (by decide) ?_
                refine vv_istore (L' := [_, _, _, _, _, _]) C dX5_letters_64 (by decide) rfl ?_
                refine vv_iload_n C dX5_letters_66 rfl 4 rfl ?_
                refine vv_iload C dX5_letters_67 1 rfl ?_
                refine vv_if_ne (tgt := 76) C dX5_letters_69 (by decide) (fun h69 => ?_) (fun h69 => ?_)
                · exact absurd h56 h69
                · refine vv_iconst (v := (0)) C dX5_letters_72 (by decide) ?_
                  refine vv_goto (tgt := 77) C dX5_letters_73 (by decide) ?_
                  refine vv_iadd C dX5_letters_77 ?_
                  refine vv_istore_n (i := 3) (L' := [_, _, _, _, _, _]) C dX5_letters_78 rfl (by decide) rfl ?_
                  refine vv_iincN (L' := [_, _, _, _, _, _]) (j := 5) C dX5_letters_79 rfl (by decide) rfl ?_
                  refine vv_goto (tgt := 8) C dX5_letters_82 (by decide) ?_
                  refine vv_sub (L' := [_, _, _, _, _]) [4, 5, 1, 2, 0] rfl ?_
                  have q := ih (i + 1) ⟨by omega, by omega, by simp [pu_okl, hf3, g33, h38]⟩
                  rw [pu_many_z (c := (fun i => pm_code w (nI i))) h69, pu_end_z (c := (fun i => pm_code w (nI i))) h69] at q
                  rw [pm_add0]
                  exact q
          · refine vv_iload C dX5_letters_41 0 rfl ?_
            refine vv_if_eq (tgt := 49) C dX5_letters_43 (by decide) (fun h43 => ?_) (fun h43 => ?_)
            · refine vv_iload C dX5_letters_49 4 rfl ?_
              refine vv_ifb_ne (tgt := 59) C dX5_letters_51 (by decide) (fun h51 => ?_) (fun h51 => ?_)
              · refine vv_iconst (v := (1)) C dX5_letters_59 (by decide) ?_
                refine vv_goto (tgt := 64) C dX5_letters_60 (by decide) ?_
                refine vv_istore (L' := [_, _, _, _, _, _]) C dX5_letters_64 (by decide) rfl ?_
                refine vv_iload_n C dX5_letters_66 rfl 4 rfl ?_
                refine vv_iload C dX5_letters_67 1 rfl ?_
                refine vv_if_ne (tgt := 76) C dX5_letters_69 (by decide) (fun h69 => ?_) (fun h69 => ?_)
                · refine vv_iconst (v := (1)) C dX5_letters_76 (by decide) ?_
                  refine vv_iadd C dX5_letters_77 ?_
                  refine vv_istore_n (i := 3) (L' := [_, _, _, _, _, _]) C dX5_letters_78 rfl (by decide) rfl ?_
                  refine vv_iincN (L' := [_, _, _, _, _, _]) (j := 5) C dX5_letters_79 rfl (by decide) rfl ?_
                  refine vv_goto (tgt := 8) C dX5_letters_82 (by decide) ?_
                  refine vv_sub (L' := [_, _, _, _, _]) [4, 5, 1, 2, 0] rfl ?_
                  have q := ih (i + 1) ⟨by omega, by omega, by simp [pu_okl, hf3, g33, h38, h43]⟩
                  rw [pu_many_n (c := (fun i => pm_code w (nI i))) h69, pu_end_n (c := (fun i => pm_code w (nI i))) h69, ← nI_1] at q
                  rw [show pu_end (fun i => pm_code w (nI i)) i = true from h51] at q
                  exact q
                · refine vv_iconst (v := (0)) C dX5_letters_72 (by decide) ?_
                  refine vv_goto (tgt := 77) C dX5_letters_73 (by decide) ?_
                  refine vv_iadd C dX5_letters_77 ?_
                  refine vv_istore_n (i := 3) (L' := [_, _, _, _, _, _]) C dX5_letters_78 rfl (by decide) rfl ?_
                  refine vv_iincN (L' := [_, _, _, _, _, _]) (j := 5) C dX5_letters_79 rfl (by decide) rfl ?_
                  refine vv_goto (tgt := 8) C dX5_letters_82 (by decide) ?_
                  refine vv_sub (L' := [_, _, _, _, _]) [4, 5, 1, 2, 0] rfl ?_
                  have q := ih (i + 1) ⟨by omega, by omega, by simp [pu_okl, hf3, g33, h38, h43]⟩
                  rw [pu_many_z (c := (fun i => pm_code w (nI i))) h69, pu_end_z (c := (fun i => pm_code w (nI i))) h69] at q
                  rw [pm_add0]
                  exact q
              · refine vv_iload C dX5_letters_54 0 rfl ?_
                refine vv_if_ne (tgt := 63) C dX5_letters_56 (by decide) (fun h56 => ?_) (fun h56 => ?_)
                · refine vv_iconst (v := (0)) C dX5_letters_63 (by decide) ?_
                  refine vv_istore (L' := [_, _, _, _, _, _]) C dX5_letters_64 (by decide) rfl ?_
                  refine vv_iload_n C dX5_letters_66 rfl 4 rfl ?_
                  refine vv_iload C dX5_letters_67 1 rfl ?_
                  refine vv_if_ne (tgt := 76) C dX5_letters_69 (by decide) (fun h69 => ?_) (fun h69 => ?_)
                  · refine vv_iconst (v := (1)) C dX5_letters_76 (by decide) ?_
                    refine vv_iadd C dX5_letters_77 ?_
                    refine vv_istore_n (i := 3) (L' := [_, _, _, _, _, _]) C dX5_letters_78 rfl (by decide) rfl ?_
                    refine vv_iincN (L' := [_, _, _, _, _, _]) (j := 5) C dX5_letters_79 rfl (by decide) rfl ?_
                    refine vv_goto (tgt := 8) C dX5_letters_82 (by decide) ?_
                    refine vv_sub (L' := [_, _, _, _, _]) [4, 5, 1, 2, 0] rfl ?_
                    have q := ih (i + 1) ⟨by omega, by omega, by simp [pu_okl, hf3, g33, h38, h43]⟩
                    rw [pu_many_n (c := (fun i => pm_code w (nI i))) h69, pu_end_n (c := (fun i => pm_code w (nI i))) h69, ← nI_1] at q
                    rw [show pu_end (fun i => pm_code w (nI i)) i = false from h51] at q
                    exact q
                  · exact absurd h69 h56
                · have h56b := h56
                  refine vv_iconst (v := (1)) C dX5_letters_59 (by decide) ?_
                  refine vv_goto (tgt := 64) C dX5_letters_60 (by decide) ?_
                  refine vv_istore (L' := [_, _, _, _, _, _]) C dX5_letters_64 (by decide) rfl ?_
                  refine vv_iload_n C dX5_letters_66 rfl 4 rfl ?_
                  refine vv_iload C dX5_letters_67 1 rfl ?_
                  refine vv_if_ne (tgt := 76) C dX5_letters_69 (by decide) (fun h69 => ?_) (fun h69 => ?_)
                  · exact absurd h56 h69
                  · refine vv_iconst (v := (0)) C dX5_letters_72 (by decide) ?_
                    refine vv_goto (tgt := 77) C dX5_letters_73 (by decide) ?_
                    refine vv_iadd C dX5_letters_77 ?_
                    refine vv_istore_n (i := 3) (L' := [_, _, _, _, _, _]) C dX5_letters_78 rfl (by decide) rfl ?_
                    refine vv_iincN (L' := [_, _, _, _, _, _]) (j := 5) C dX5_letters_79 rfl (by decide) rfl ?_
                    refine vv_goto (tgt := 8) C dX5_letters_82 (by decide) ?_
                    refine vv_sub (L' := [_, _, _, _, _]) [4, 5, 1, 2, 0] rfl ?_
                    have q := ih (i + 1) ⟨by omega, by omega, by simp [pu_okl, hf3, g33, h38, h43]⟩
                    rw [pu_many_z (c := (fun i => pm_code w (nI i))) h69, pu_end_z (c := (fun i => pm_code w (nI i))) h69] at q
                    rw [pm_add0]
                    exact q
            · refine vv_bipush (v := (-102)) C dX5_letters_46 (by decide) ?_
              refine vv_jret C dX5_letters_48 ?_
              have ho : pu_okl (fun i => pm_code w (nI i)) 8 = false := pu_okl_no (i := i) (by simp [pu_okl, h38, h43]) 8 (by omega)
              have e : aw_letK (fun i => pm_code w (nI i)) z = 0 := by simp [aw_letK, ho]
              exact ⟨by simp [aw_letR, ho], pu_chg_rf S _, by rw [e, Nat.add_zero, ← hz]; funext j; simp only [upd]; split <;> simp_all, by rw [e, pu_app_0]⟩
  refine vv_iconst (v := (nI 0)) C dX5_letters_0 (by decide) ?_
  refine vv_istore_n (i := 3) (L' := [_, _, _]) C dX5_letters_1 rfl (by decide) rfl ?_
  refine vv_iconst (v := (0)) C dX5_letters_2 (by decide) ?_
  refine vv_istore (L' := [_, _, _, _]) C dX5_letters_3 (by decide) rfl ?_
  refine vv_iconst (v := (nI 0)) C dX5_letters_5 (by decide) ?_
  refine vv_istore (L' := [_, _, _, _, _]) C dX5_letters_6 (by decide) rfl ?_
  refine vv_sub (L' := [_, _, _, _, _]) [3, 4, 2, 1, 0] rfl ?_
  exact lp8 9 0 ⟨by omega, by omega, rfl⟩
