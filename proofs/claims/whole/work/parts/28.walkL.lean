theorem pm_on_uL {S S1 : vx_St} {br : Int32} (h : pm_on S S1 br) (x : Int64) : pm_on S (vx_uL S1 35 30 x) br := ⟨by show (if (35 : Nat) = 35 ∧ (46 : Nat) = 30 then x else S1.2 35 46) = _; rw [if_neg (by decide)]; exact h.1, h.2⟩
theorem yk_X5_rest : vx_yV yX5_rest cX5_rest 7 (some .int) 2 := ⟨(tm_25 (List.mem_of_getElem? (i := 9) rfl)), (tm_1 (List.mem_of_getElem? (i := 5) rfl)), by decide +kernel, (tm_25 (List.mem_of_getElem? (i := 7) rfl)), (tm_25 (List.mem_of_getElem? (i := 8) rfl))⟩
set_option maxHeartbeats 4000000 in
set_option maxRecDepth 100000 in
theorem kk_X5_rest (l : Launch) (g : vx_G) (S : vx_St) (sd w : Int32) (n : Nat) (hn : S.1 35 0 = nI n) (hn8 : n ≤ 8) (hb15 : vx_b01 (S.1 35 15) = S.1 35 15) (hb16 : vx_b01 (S.1 35 16) = S.1 35 16) (hh : Nat) (hhr : S.1 35 12 = nI hh) (hh9 : hh ≤ 9) : vx_M l g yX5_rest cX5_rest 7 (some .int) (vx_R 6 139) [.ref (g.2.2.1 35), .int sd, .int w] S (vx_pi (fun r S' => r = (if aw_rsB sd w = true then am_rs (pm_rs (pu_hm S) (S.1 35 9) n (9 - hh) sd.toInt64 (S.1 35 11) (nI hh) (S.1 35 14) (S.1 35 15) (pm_sm (S.1 42) n) (-1)) (pm_sm (S.1 42) n) w else -102) ∧ pm_same S S')) := by
  refine vx_M.intro (by decide) (Nat.le_of_ble_eq_true rfl) ?_
  intro p e s m args below meth c C
  have lp34 : ∀ (fu : Nat) (i : Nat) (di : Int32) (S1 : vx_St), (9 - i < fu ∧ i ≤ 9 ∧ pm_on S S1 (S.1 35 9) ∧ S1.1 35 12 = nI i ∧ pm_rs (pu_hm S) (S.1 35 9) n (9 - i) (S1.2 35 30) (S1.1 35 11) (nI i) (S1.1 35 14) (S1.1 35 15) (pm_sm (S1.1 42) n) di = pm_rs (pu_hm S) (S.1 35 9) n (9 - hh) sd.toInt64 (S.1 35 11) (nI hh) (S.1 35 14) (S.1 35 15) (pm_sm (S.1 42) n) (-1) ∧ aw_rsB sd w = true) → vx_V p l e (vx_R 6 139) s m args below meth c (MQ below (vx_Q g (vx_pi (fun r S' => r = (if aw_rsB sd w = true then am_rs (pm_rs (pu_hm S) (S.1 35 9) n (9 - hh) sd.toInt64 (S.1 35 11) (nI hh) (S.1 35 14) (S.1 35 15) (pm_sm (S.1 42) n) (-1)) (pm_sm (S.1 42) n) w else -102) ∧ pm_same S S'))) args s 0 0 (vx_A g)) g 7 34 [(0, .ref (g.2.2.1 35)), (2, .int w), (3, .int (pm_sm (S.1 42) n)), (4, .int di)] [] (S1) := by
    intro fu
    induction fu with
    | zero =>
      intro i di S1 hfu
      exact absurd hfu.1 (by omega)
    | succ fu ih =>
      intro i di S1 hfu
      obtain ⟨hf1, hf2, hon, r12, hst, hB⟩ := hfu
      have hn1 : S1.1 35 0 = nI n := by rw [hon.2.2.1 0 (by omega)]; exact hn
      have hs1 := pm_on_hm hon
      have r9 := hon.2.2.2.1
      refine vv_aload_n C dX5_rest_34 rfl 0 rfl ?_
      refine vv_cV_F C (a := 35) (kk_X5_isOver l g _) yk_X5_isOver (tm_18 (List.mem_of_getElem? (i := 18) rfl)) rfl rfl rfl (by decide) rfl (Nat.le_of_ble_eq_true rfl) rfl dX5_rest_35 ?_
      refine vv_ifb_ne (tgt := 85) C dX5_rest_38 (by decide) (fun h38 => ?_) (fun h38 => ?_)
      · refine vv_aload_n C dX5_rest_85 rfl 0 rfl ?_
        refine vv_cV_F C (a := 35) (kk_X5_takenAll l g _ n hn1 hn8) yk_X5_takenAll (tm_20 (List.mem_of_getElem? (i := 11) rfl)) rfl rfl rfl (by decide) rfl (Nat.le_of_ble_eq_true rfl) rfl dX5_rest_86 ?_
        refine vv_iload_n C dX5_rest_89 rfl 2 rfl ?_
        refine vv_isub C dX5_rest_90 ?_
        refine vv_istore (L' := [_, _, _, _, _]) C dX5_rest_91 (by decide) rfl ?_
        refine vv_aload_n C dX5_rest_93 rfl 1 rfl ?_
        refine vv_getI C (a := 35) (k := 11) (o := 0) inlX5 rfl rfl rfl (by decide) rfl (tm_4 (List.mem_of_getElem? (i := 3) rfl)) dX5_rest_94 ?_
        refine vv_istore (L' := [_, _, _, _, _, _]) C dX5_rest_97 (by decide) rfl ?_
        refine vv_aload_n C dX5_rest_99 rfl 2 rfl ?_
        refine vv_cV_v C (a := 35) (kk_X5_back l g _ (by rw [hon.2.2.2.2.2.2.2.2.2.1]; exact hb15) (by rw [hon.2.2.2.2.2.2.2.2.2.2.1]; exact hb16)) yk_X5_back (tm_23 (List.mem_of_getElem? (i := 5) rfl)) rfl rfl rfl (by decide) rfl (Nat.le_of_ble_eq_true rfl) rfl dX5_rest_100 (fun S100 h100 => ?_)
        obtain ⟨c100, d100, t100⟩ := h100
        refine vv_iload_n C dX5_rest_103 rfl 3 rfl ?_
        refine vv_if_ne (tgt := 112) C dX5_rest_104 (by decide) (fun h104 => ?_) (fun h104 => ?_)
        · refine vv_iload_n C dX5_rest_112 rfl 3 rfl ?_
          refine vv_iconst (v := (1)) C dX5_rest_113 (by decide) ?_
          refine vv_icmp_ne (tgt := 122) C dX5_rest_114 (by decide) (fun h114 => ?_) (fun h114 => ?_)
          · refine vv_iload_n C dX5_rest_122 rfl 3 rfl ?_
            refine vv_iconst (v := (2)) C dX5_rest_123 (by decide) ?_
            refine vv_icmp_ne (tgt := 132) C dX5_rest_124 (by decide) (fun h124 => ?_) (fun h124 => ?_)
            · refine vv_aload_n C dX5_rest_132 rfl 2 rfl ?_
              refine vv_getL C (a := 35) (k := 30) (o := 0) inlX5 rfl rfl rfl (by decide) rfl (tm_25 (List.mem_of_getElem? (i := 10) rfl)) dX5_rest_133 ?_
              refine vv_l2i C dX5_rest_136 ?_
              refine vv_jret C dX5_rest_137 ?_
              have hg := h38
              simp only [Bool.not_eq_true', aw_goB, Bool.and_eq_false_iff, decide_eq_false_iff_not] at hg
              have hfin : (S1.2 35 30, S1.1 35 11, pm_sm (S1.1 42) n, di) = pm_rs (pu_hm S) (S.1 35 9) n (9 - hh) sd.toInt64 (S.1 35 11) (nI hh) (S.1 35 14) (S.1 35 15) (pm_sm (S.1 42) n) (-1) := by
                rw [← hst]
                rcases Nat.lt_or_ge i 9 with q | q
                · rw [show 9 - i = (9 - (i + 1)) + 1 by omega, pm_rs, if_neg (hg.elim (fun z => absurd (by rw [r12]; exact (nI_ltI (b := 9) (by omega) (by omega)).mpr q) z) id)]
                · rw [show 9 - i = 0 by omega, pm_rs]
              exact ⟨by rw [if_pos hB, ← hfin, am_rs, if_neg h104, if_neg h114, if_neg h124, c100.1], pm_on_back hon c100 d100 t100⟩
            · refine vv_iload C dX5_rest_127 5 rfl ?_
              refine vv_goto (tgt := 137) C dX5_rest_129 (by decide) ?_
              refine vv_jret C dX5_rest_137 ?_
              have hg := h38
              simp only [Bool.not_eq_true', aw_goB, Bool.and_eq_false_iff, decide_eq_false_iff_not] at hg
              have hfin : (S1.2 35 30, S1.1 35 11, pm_sm (S1.1 42) n, di) = pm_rs (pu_hm S) (S.1 35 9) n (9 - hh) sd.toInt64 (S.1 35 11) (nI hh) (S.1 35 14) (S.1 35 15) (pm_sm (S.1 42) n) (-1) := by
                rw [← hst]
                rcases Nat.lt_or_ge i 9 with q | q
                · rw [show 9 - i = (9 - (i + 1)) + 1 by omega, pm_rs, if_neg (hg.elim (fun z => absurd (by rw [r12]; exact (nI_ltI (b := 9) (by omega) (by omega)).mpr q) z) id)]
                · rw [show 9 - i = 0 by omega, pm_rs]
              exact ⟨by rw [if_pos hB, ← hfin, am_rs, if_neg h104, if_neg h114, if_pos h124], pm_on_back hon c100 d100 t100⟩
          · refine vv_iload C dX5_rest_117 0 rfl ?_
            refine vv_goto (tgt := 137) C dX5_rest_119 (by decide) ?_
            refine vv_jret C dX5_rest_137 ?_
            have hg := h38
            simp only [Bool.not_eq_true', aw_goB, Bool.and_eq_false_iff, decide_eq_false_iff_not] at hg
            have hfin : (S1.2 35 30, S1.1 35 11, pm_sm (S1.1 42) n, di) = pm_rs (pu_hm S) (S.1 35 9) n (9 - hh) sd.toInt64 (S.1 35 11) (nI hh) (S.1 35 14) (S.1 35 15) (pm_sm (S.1 42) n) (-1) := by
              rw [← hst]
              rcases Nat.lt_or_ge i 9 with q | q
              · rw [show 9 - i = (9 - (i + 1)) + 1 by omega, pm_rs, if_neg (hg.elim (fun z => absurd (by rw [r12]; exact (nI_ltI (b := 9) (by omega) (by omega)).mpr q) z) id)]
              · rw [show 9 - i = 0 by omega, pm_rs]
            exact ⟨by rw [if_pos hB, ← hfin, am_rs, if_neg h104, if_pos h114], pm_on_back hon c100 d100 t100⟩
        · refine vv_iload C dX5_rest_107 1 rfl ?_
          refine vv_goto (tgt := 137) C dX5_rest_109 (by decide) ?_
          refine vv_jret C dX5_rest_137 ?_
          have hg := h38
          simp only [Bool.not_eq_true', aw_goB, Bool.and_eq_false_iff, decide_eq_false_iff_not] at hg
          have hfin : (S1.2 35 30, S1.1 35 11, pm_sm (S1.1 42) n, di) = pm_rs (pu_hm S) (S.1 35 9) n (9 - hh) sd.toInt64 (S.1 35 11) (nI hh) (S.1 35 14) (S.1 35 15) (pm_sm (S.1 42) n) (-1) := by
            rw [← hst]
            rcases Nat.lt_or_ge i 9 with q | q
            · rw [show 9 - i = (9 - (i + 1)) + 1 by omega, pm_rs, if_neg (hg.elim (fun z => absurd (by rw [r12]; exact (nI_ltI (b := 9) (by omega) (by omega)).mpr q) z) id)]
            · rw [show 9 - i = 0 by omega, pm_rs]
          exact ⟨by rw [if_pos hB, ← hfin, am_rs, if_pos h104], pm_on_back hon c100 d100 t100⟩
      · refine vv_aload_n C dX5_rest_41 rfl 0 rfl ?_
        refine vv_aload_n C dX5_rest_42 rfl 0 rfl ?_
        refine vv_iconst (v := (3)) C dX5_rest_43 (by decide) ?_
        refine vv_cV_i C (a := 35) (kk_X5_draw l g _ _ rfl) yk_X5_draw (tm_25 (List.mem_of_getElem? (i := 11) rfl)) rfl rfl rfl (by decide) rfl (Nat.le_of_ble_eq_true rfl) rfl dX5_rest_44 (fun r44 S44 h44 => ?_)
        obtain ⟨e44, s44⟩ := h44
        subst e44
        subst s44
        refine vv_if_ne (tgt := 54) C dX5_rest_47 (by decide) (fun h47 => ?_) (fun h47 => ?_)
        · refine vv_iconst (v := (0)) C dX5_rest_54 (by decide) ?_
          refine vv_putZ C (a := 35) (k := 16) inlX5 tyX5 tyX5_ok nmX5 rfl rfl rfl (by decide) rfl rfl rfl rfl (tm_14 (List.mem_of_getElem? (i := 19) rfl)) dX5_rest_55 ?_
          have hon2 : pm_on S (vx_u (vx_uL S1 35 30 (pm_seed (S1.2 35 30))) 35 16 (0)) (S.1 35 9) := pm_on_rn (pm_on_uL hon _) _
          refine vv_aload_n C dX5_rest_58 rfl 0 rfl ?_
          refine vv_cV_i C (a := 35) (kk_X5_goHour l g _ n (by rw [hon2.2.2.1 0 (by omega)]; exact hn) hn8) yk_X5_goHour (tm_18 (List.mem_of_getElem? (i := 23) rfl)) rfl rfl rfl (by decide) rfl (Nat.le_of_ble_eq_true rfl) rfl dX5_rest_59 (fun r59 S59 h59 => ?_)
          obtain ⟨_, c59, d59, t59⟩ := h59
          refine vv_pop C dX5_rest_62 rfl ?_
          refine vv_aload_n C dX5_rest_63 rfl 0 rfl ?_
          refine vv_getZ C (a := 35) (k := 15) (o := 0) inlX5 rfl rfl rfl (by decide) rfl (tm_18 (List.mem_of_getElem? (i := 22) rfl)) dX5_rest_64 ?_
          refine vv_ifz_eq (tgt := 79) C dX5_rest_67 (by decide) (fun h67 => ?_) (fun h67 => ?_)
          · refine vv_iconst (v := (-1)) C dX5_rest_79 (by decide) ?_
            refine vv_istore (L' := [_, _, _, _]) C dX5_rest_80 (by decide) rfl ?_
            refine vv_goto (tgt := 34) C dX5_rest_82 (by decide) ?_
            refine vv_sub (L' := [_, _, _, _]) [1, 2, 3, 0] rfl ?_
            have hrn : pm_rn (pm_seed (S1.2 35 30)) = 0 := by rw [pm_rn, if_neg h47]
            have q9 : ∀ k, k ≠ 16 → (vx_u (vx_uL S1 35 30 (pm_seed (S1.2 35 30))) 35 16 (0)).1 35 k = S1.1 35 k := fun k hk => by rw [vx_u_row]; exact if_neg hk
            have q16 : (vx_u (vx_uL S1 35 30 (pm_seed (S1.2 35 30))) 35 16 (0)).1 35 16 = 0 := by rw [vx_u_row]; exact if_pos rfl
            have q42 : (vx_u (vx_uL S1 35 30 (pm_seed (S1.2 35 30))) 35 16 (0)).1 42 = S1.1 42 := vx_u_ne _ _ _ (by decide)
            rw [pm_on_hm hon2] at d59 t59
            rw [q16, q9 11 (by decide), q9 12 (by decide), q9 9 (by decide), q9 14 (by decide), q42, r12, r9] at t59
            have hg := h38
            simp only [Bool.not_eq_false', aw_goB, Bool.and_eq_true, decide_eq_true_eq] at hg
            have hi9 : i < 9 := by have h9 := hg.1; rw [r12] at h9; exact (nI_ltI (b := 9) (by omega) (by omega)).mp h9
            have tk8 : ∀ k, 8 ≤ k → S59.1 42 k = (vx_u (vx_uL S1 35 30 (pm_seed (S1.2 35 30))) 35 16 (0)).1 42 k := fun k hk => by rw [t59, q42]; split; rfl; exact if_neg (by omega)
            have hdn : pm_dn (pu_hm S) 0 (S1.1 35 11) (nI i) (S.1 35 9) (S1.1 35 14) n = false := by
              rw [d59, pm_nx_15, q16, q9 11 (by decide), q9 12 (by decide), q9 9 (by decide), q9 14 (by decide), q9 15 (by decide), r12, r9, hg.2] at h67
              simpa using h67
            have hsm : pm_sm (S59.1 42) n = pm_sm (S1.1 42) n + pm_tn (pu_hm S) 0 (S1.1 35 11) (nI i) (S.1 35 9) (S1.1 35 14) n := by
              rw [t59, pm_tn, hdn]
              simp only [Bool.false_eq_true, if_false]
              exact pm_sm_took _ _ _ n n (Nat.le_refl n)
            refine ih (i + 1) _ S59 ⟨by omega, by omega, pm_on_hour hn8 hon2 c59 d59 tk8, ?_, ?_, hB⟩
            · rw [d59, pm_nx_12, q9 12 (by decide), r12, nI_1]
            · rw [← hst, show 9 - i = (9 - (i + 1)) + 1 by omega, pm_rs, if_pos hg.2, hrn, hsm, c59.1, d59, pm_nx_11, pm_nx_14, pm_nx_15, q16, q9 11 (by decide), q9 12 (by decide), q9 9 (by decide), q9 14 (by decide), q9 15 (by decide), r12, r9, hdn, nI_1]
              rw [if_neg (by decide)]
              rfl
          · refine vv_aload_n C dX5_rest_70 rfl 0 rfl ?_
            refine vv_getI C (a := 35) (k := 12) (o := 0) inlX5 rfl rfl rfl (by decide) rfl (tm_12 (List.mem_of_getElem? (i := 3) rfl)) dX5_rest_71 ?_
            refine vv_iconst (v := (1)) C dX5_rest_74 (by decide) ?_
            refine vv_isub C dX5_rest_75 ?_
            refine vv_goto (tgt := 80) C dX5_rest_76 (by decide) ?_
            refine vv_istore (L' := [_, _, _, _]) C dX5_rest_80 (by decide) rfl ?_
            refine vv_goto (tgt := 34) C dX5_rest_82 (by decide) ?_
            refine vv_sub (L' := [_, _, _, _]) [1, 2, 3, 0] rfl ?_
            have hrn : pm_rn (pm_seed (S1.2 35 30)) = 0 := by rw [pm_rn, if_neg h47]
            have q9 : ∀ k, k ≠ 16 → (vx_u (vx_uL S1 35 30 (pm_seed (S1.2 35 30))) 35 16 (0)).1 35 k = S1.1 35 k := fun k hk => by rw [vx_u_row]; exact if_neg hk
            have q16 : (vx_u (vx_uL S1 35 30 (pm_seed (S1.2 35 30))) 35 16 (0)).1 35 16 = 0 := by rw [vx_u_row]; exact if_pos rfl
            have q42 : (vx_u (vx_uL S1 35 30 (pm_seed (S1.2 35 30))) 35 16 (0)).1 42 = S1.1 42 := vx_u_ne _ _ _ (by decide)
            rw [pm_on_hm hon2] at d59 t59
            rw [q16, q9 11 (by decide), q9 12 (by decide), q9 9 (by decide), q9 14 (by decide), q42, r12, r9] at t59
            have hg := h38
            simp only [Bool.not_eq_false', aw_goB, Bool.and_eq_true, decide_eq_true_eq] at hg
            have hi9 : i < 9 := by have h9 := hg.1; rw [r12] at h9; exact (nI_ltI (b := 9) (by omega) (by omega)).mp h9
            have tk8 : ∀ k, 8 ≤ k → S59.1 42 k = (vx_u (vx_uL S1 35 30 (pm_seed (S1.2 35 30))) 35 16 (0)).1 42 k := fun k hk => by rw [t59, q42]; split; rfl; exact if_neg (by omega)
            have hdn : pm_dn (pu_hm S) 0 (S1.1 35 11) (nI i) (S.1 35 9) (S1.1 35 14) n = true := by
              rw [d59, pm_nx_15, q16, q9 11 (by decide), q9 12 (by decide), q9 9 (by decide), q9 14 (by decide), q9 15 (by decide), r12, r9, hg.2] at h67
              simpa using h67
            have hsm : pm_sm (S59.1 42) n = pm_sm (S1.1 42) n + pm_tn (pu_hm S) 0 (S1.1 35 11) (nI i) (S.1 35 9) (S1.1 35 14) n := by
              rw [t59, pm_tn, hdn]
              simp only [if_true]
              rw [pm_add0]
            refine ih (i + 1) _ S59 ⟨by omega, by omega, pm_on_hour hn8 hon2 c59 d59 tk8, ?_, ?_, hB⟩
            · rw [d59, pm_nx_12, q9 12 (by decide), r12, nI_1]
            · rw [← hst, show 9 - i = (9 - (i + 1)) + 1 by omega, pm_rs, if_pos hg.2, hrn, hsm, c59.1, d59, pm_nx_11, pm_nx_14, pm_nx_15, q16, q9 11 (by decide), q9 12 (by decide), q9 9 (by decide), q9 14 (by decide), q9 15 (by decide), r12, r9, hdn, nI_1]
              rw [pm_nx_12, q9 12 (by decide), r12, Int32.add_sub_cancel, if_pos rfl]
              rfl
        · refine vv_iconst (v := (1)) C dX5_rest_50 (by decide) ?_
          refine vv_goto (tgt := 55) C dX5_rest_51 (by decide) ?_
          refine vv_putZ C (a := 35) (k := 16) inlX5 tyX5 tyX5_ok nmX5 rfl rfl rfl (by decide) rfl rfl rfl rfl (tm_14 (List.mem_of_getElem? (i := 19) rfl)) dX5_rest_55 ?_
          have hon2 : pm_on S (vx_u (vx_uL S1 35 30 (pm_seed (S1.2 35 30))) 35 16 (1)) (S.1 35 9) := pm_on_rn (pm_on_uL hon _) _
          refine vv_aload_n C dX5_rest_58 rfl 0 rfl ?_
          refine vv_cV_i C (a := 35) (kk_X5_goHour l g _ n (by rw [hon2.2.2.1 0 (by omega)]; exact hn) hn8) yk_X5_goHour (tm_18 (List.mem_of_getElem? (i := 23) rfl)) rfl rfl rfl (by decide) rfl (Nat.le_of_ble_eq_true rfl) rfl dX5_rest_59 (fun r59 S59 h59 => ?_)
          obtain ⟨_, c59, d59, t59⟩ := h59
          refine vv_pop C dX5_rest_62 rfl ?_
          refine vv_aload_n C dX5_rest_63 rfl 0 rfl ?_
          refine vv_getZ C (a := 35) (k := 15) (o := 0) inlX5 rfl rfl rfl (by decide) rfl (tm_18 (List.mem_of_getElem? (i := 22) rfl)) dX5_rest_64 ?_
          refine vv_ifz_eq (tgt := 79) C dX5_rest_67 (by decide) (fun h67 => ?_) (fun h67 => ?_)
          · refine vv_iconst (v := (-1)) C dX5_rest_79 (by decide) ?_
            refine vv_istore (L' := [_, _, _, _]) C dX5_rest_80 (by decide) rfl ?_
            refine vv_goto (tgt := 34) C dX5_rest_82 (by decide) ?_
            refine vv_sub (L' := [_, _, _, _]) [1, 2, 3, 0] rfl ?_
            have hrn : pm_rn (pm_seed (S1.2 35 30)) = 1 := by rw [pm_rn, if_pos h47]
            have q9 : ∀ k, k ≠ 16 → (vx_u (vx_uL S1 35 30 (pm_seed (S1.2 35 30))) 35 16 (1)).1 35 k = S1.1 35 k := fun k hk => by rw [vx_u_row]; exact if_neg hk
            have q16 : (vx_u (vx_uL S1 35 30 (pm_seed (S1.2 35 30))) 35 16 (1)).1 35 16 = 1 := by rw [vx_u_row]; exact if_pos rfl
            have q42 : (vx_u (vx_uL S1 35 30 (pm_seed (S1.2 35 30))) 35 16 (1)).1 42 = S1.1 42 := vx_u_ne _ _ _ (by decide)
            rw [pm_on_hm hon2] at d59 t59
            rw [q16, q9 11 (by decide), q9 12 (by decide), q9 9 (by decide), q9 14 (by decide), q42, r12, r9] at t59
            have hg := h38
            simp only [Bool.not_eq_false', aw_goB, Bool.and_eq_true, decide_eq_true_eq] at hg
            have hi9 : i < 9 := by have h9 := hg.1; rw [r12] at h9; exact (nI_ltI (b := 9) (by omega) (by omega)).mp h9
            have tk8 : ∀ k, 8 ≤ k → S59.1 42 k = (vx_u (vx_uL S1 35 30 (pm_seed (S1.2 35 30))) 35 16 (1)).1 42 k := fun k hk => by rw [t59, q42]; split; rfl; exact if_neg (by omega)
            have hdn : pm_dn (pu_hm S) 1 (S1.1 35 11) (nI i) (S.1 35 9) (S1.1 35 14) n = false := by
              rw [d59, pm_nx_15, q16, q9 11 (by decide), q9 12 (by decide), q9 9 (by decide), q9 14 (by decide), q9 15 (by decide), r12, r9, hg.2] at h67
              simpa using h67
            have hsm : pm_sm (S59.1 42) n = pm_sm (S1.1 42) n + pm_tn (pu_hm S) 1 (S1.1 35 11) (nI i) (S.1 35 9) (S1.1 35 14) n := by
              rw [t59, pm_tn, hdn]
              simp only [Bool.false_eq_true, if_false]
              exact pm_sm_took _ _ _ n n (Nat.le_refl n)
            refine ih (i + 1) _ S59 ⟨by omega, by omega, pm_on_hour hn8 hon2 c59 d59 tk8, ?_, ?_, hB⟩
            · rw [d59, pm_nx_12, q9 12 (by decide), r12, nI_1]
            · rw [← hst, show 9 - i = (9 - (i + 1)) + 1 by omega, pm_rs, if_pos hg.2, hrn, hsm, c59.1, d59, pm_nx_11, pm_nx_14, pm_nx_15, q16, q9 11 (by decide), q9 12 (by decide), q9 9 (by decide), q9 14 (by decide), q9 15 (by decide), r12, r9, hdn, nI_1]
              rw [if_neg (by decide)]
              rfl
          · refine vv_aload_n C dX5_rest_70 rfl 0 rfl ?_
            refine vv_getI C (a := 35) (k := 12) (o := 0) inlX5 rfl rfl rfl (by decide) rfl (tm_12 (List.mem_of_getElem? (i := 3) rfl)) dX5_rest_71 ?_
            refine vv_iconst (v := (1)) C dX5_rest_74 (by decide) ?_
            refine vv_isub C dX5_rest_75 ?_
            refine vv_goto (tgt := 80) C dX5_rest_76 (by decide) ?_
            refine vv_istore (L' := [_, _, _, _]) C dX5_rest_80 (by decide) rfl ?_
            refine vv_goto (tgt := 34) C dX5_rest_82 (by decide) ?_
            refine vv_sub (L' := [_, _, _, _]) [1, 2, 3, 0] rfl ?_
            have hrn : pm_rn (pm_seed (S1.2 35 30)) = 1 := by rw [pm_rn, if_pos h47]
            have q9 : ∀ k, k ≠ 16 → (vx_u (vx_uL S1 35 30 (pm_seed (S1.2 35 30))) 35 16 (1)).1 35 k = S1.1 35 k := fun k hk => by rw [vx_u_row]; exact if_neg hk
            have q16 : (vx_u (vx_uL S1 35 30 (pm_seed (S1.2 35 30))) 35 16 (1)).1 35 16 = 1 := by rw [vx_u_row]; exact if_pos rfl
            have q42 : (vx_u (vx_uL S1 35 30 (pm_seed (S1.2 35 30))) 35 16 (1)).1 42 = S1.1 42 := vx_u_ne _ _ _ (by decide)
            rw [pm_on_hm hon2] at d59 t59
            rw [q16, q9 11 (by decide), q9 12 (by decide), q9 9 (by decide), q9 14 (by decide), q42, r12, r9] at t59
            have hg := h38
            simp only [Bool.not_eq_false', aw_goB, Bool.and_eq_true, decide_eq_true_eq] at hg
            have hi9 : i < 9 := by have h9 := hg.1; rw [r12] at h9; exact (nI_ltI (b := 9) (by omega) (by omega)).mp h9
            have tk8 : ∀ k, 8 ≤ k → S59.1 42 k = (vx_u (vx_uL S1 35 30 (pm_seed (S1.2 35 30))) 35 16 (1)).1 42 k := fun k hk => by rw [t59, q42]; split; rfl; exact if_neg (by omega)
            have hdn : pm_dn (pu_hm S) 1 (S1.1 35 11) (nI i) (S.1 35 9) (S1.1 35 14) n = true := by
              rw [d59, pm_nx_15, q16, q9 11 (by decide), q9 12 (by decide), q9 9 (by decide), q9 14 (by decide), q9 15 (by decide), r12, r9, hg.2] at h67
              simpa using h67
            have hsm : pm_sm (S59.1 42) n = pm_sm (S1.1 42) n + pm_tn (pu_hm S) 1 (S1.1 35 11) (nI i) (S.1 35 9) (S1.1 35 14) n := by
              rw [t59, pm_tn, hdn]
              simp only [if_true]
              rw [pm_add0]
            refine ih (i + 1) _ S59 ⟨by omega, by omega, pm_on_hour hn8 hon2 c59 d59 tk8, ?_, ?_, hB⟩
            · rw [d59, pm_nx_12, q9 12 (by decide), r12, nI_1]
            · rw [← hst, show 9 - i = (9 - (i + 1)) + 1 by omega, pm_rs, if_pos hg.2, hrn, hsm, c59.1, d59, pm_nx_11, pm_nx_14, pm_nx_15, q16, q9 11 (by decide), q9 12 (by decide), q9 9 (by decide), q9 14 (by decide), q9 15 (by decide), r12, r9, hdn, nI_1]
              rw [pm_nx_12, q9 12 (by decide), r12, Int32.add_sub_cancel, if_pos rfl]
              rfl
  refine vv_iload_n C dX5_rest_0 rfl 1 rfl ?_
  refine vv_if_lt (tgt := 13) C dX5_rest_1 (by decide) (fun h1 => ?_) (fun h1 => ?_)
  · have g1 := pu_lt h1
    refine vv_bipush (v := (-102)) C dX5_rest_13 (by decide) ?_
    refine vv_jret C dX5_rest_15 ?_
    exact ⟨by rw [if_neg (by simp [aw_rsB, g1])], pm_same_rf S⟩
  · have g1 := pu_nlt h1
    refine vv_iload_n C dX5_rest_4 rfl 2 rfl ?_
    refine vv_iconst (v := (0)) C dX5_rest_5 (by decide) ?_
    refine vv_iconst (v := (3)) C dX5_rest_6 (by decide) ?_
    refine vv_cS_F C (kk_X5_within l g _ _ _ _) yk_X5_within (tm_10 (List.mem_of_getElem? (i := 22) rfl)) (by decide) rfl (Nat.le_of_ble_eq_true rfl) rfl dX5_rest_7 ?_
    refine vv_ifb_ne (tgt := 16) C dX5_rest_10 (by decide) (fun h10 => ?_) (fun h10 => ?_)
    · refine vv_aload_n C dX5_rest_16 rfl 0 rfl ?_
      refine vv_cV_v C (a := 35) (kk_X5_save l g _ hb15 hb16) yk_X5_save (tm_22 (List.mem_of_getElem? (i := 18) rfl)) rfl rfl rfl (by decide) rfl (Nat.le_of_ble_eq_true rfl) rfl dX5_rest_17 (fun S17 h17 => ?_)
      obtain ⟨c17, d17, t17⟩ := h17
      refine vv_aload_n C dX5_rest_20 rfl 0 rfl ?_
      refine vv_iload_n C dX5_rest_21 rfl 1 rfl ?_
      refine vv_i2l C dX5_rest_22 ?_
      refine vv_putL C (a := 35) (k := 30) inlX5 tyX5 tyX5_ok nmX5 rfl rfl rfl (by decide) rfl rfl rfl (tm_25 (List.mem_of_getElem? (i := 10) rfl)) dX5_rest_23 ?_
      refine vv_aload_n C dX5_rest_26 rfl 0 rfl ?_
      refine vv_cV_F C (a := 35) (kk_X5_takenAll l g _ n (show S17.1 35 0 = nI n by rw [d17]; simp [upd, hn]) hn8) yk_X5_takenAll (tm_20 (List.mem_of_getElem? (i := 11) rfl)) rfl rfl rfl (by decide) rfl (Nat.le_of_ble_eq_true rfl) rfl dX5_rest_27 ?_
      rw [show (vx_uL S17 35 30 sd.toInt64).1 42 = S.1 42 from c17.2 42 (by decide)]
      refine vv_istore_n (i := 3) (L' := [_, _, _, _]) C dX5_rest_30 rfl (by decide) rfl ?_
      refine vv_iconst (v := (-1)) C dX5_rest_31 (by decide) ?_
      refine vv_istore (L' := [_, _, _, _, _]) C dX5_rest_32 (by decide) rfl ?_
      refine vv_sub (L' := [_, _, _, _]) [2, 4, 1, 0] rfl ?_
      refine lp34 10 hh _ _ ⟨by omega, hh9, ?_, ?_, ?_, by simp only [pm_wi] at h10; rw [aw_rsB, h10]; simp [g1]⟩
      · refine ⟨?_, fun q hq => c17.2 q (by simp only [List.mem_cons, List.not_mem_nil, or_false, not_or] at hq ⊢; omega), fun k hk => ?_, ?_, ?_, ?_, ?_, ?_, ?_, ?_, ?_, fun k hk => ?_, fun k hk => ?_⟩
        · show (if (35 : Nat) = 35 ∧ (46 : Nat) = 30 then sd.toInt64 else S17.2 35 46) = _
          rw [if_neg (by decide), c17.1]
        · show S17.1 35 k = _
          rw [d17]
          simp only [upd]
          repeat rw [if_neg (by omega)]
        all_goals first | (show S17.1 35 _ = _; rw [d17]; simp [upd]; done) | (show S17.1 47 k = _; rw [t17]; exact if_pos hk) | (show S17.1 42 k = _; rw [c17.2 42 (by decide)])
      · show S17.1 35 12 = _
        rw [d17]
        simp [upd, hhr]
      · show pm_rs _ _ _ _ (if (35 : Nat) = 35 ∧ (30 : Nat) = 30 then sd.toInt64 else S17.2 35 30) (S17.1 35 11) _ (S17.1 35 14) (S17.1 35 15) (pm_sm (S17.1 42) n) _ = _
        rw [if_pos ⟨rfl, rfl⟩, d17, c17.2 42 (by decide)]
        simp [upd]
    · refine vv_bipush (v := (-102)) C dX5_rest_13 (by decide) ?_
      refine vv_jret C dX5_rest_15 ?_
      exact ⟨by rw [if_neg (by simp only [pm_wi] at h10; rw [aw_rsB, h10]; simp)], pm_same_rf S⟩
theorem yk_X5_image : vx_yV yX5_image cX5_image 2 (some .int) 0 := ⟨(tm_29 (List.mem_of_getElem? (i := 12) rfl)), (tm_1 (List.mem_of_getElem? (i := 5) rfl)), by decide +kernel, (tm_29 (List.mem_of_getElem? (i := 10) rfl)), (tm_29 (List.mem_of_getElem? (i := 11) rfl))⟩
set_option maxHeartbeats 4000000 in
set_option maxRecDepth 100000 in
theorem kk_X5_image (l : Launch) (g : vx_G) (S : vx_St) (hb15 : vx_b01 (S.1 35 15) = S.1 35 15) (hb16 : vx_b01 (S.1 35 16) = S.1 35 16) : vx_M l g yX5_image cX5_image 2 (some .int) (vx_R 0 0) [.ref (g.2.2.1 35)] S (vx_pi (fun r S' => r = S.1 35 11 ∧ pu_chg S S' [35, 48, 49, 50, 51] ∧ S'.1 35 = upd (upd (upd (upd (upd (upd (upd (upd (upd (upd (upd (S.1 35) 31 1) 32 (S.1 35 0)) 33 (S.1 35 10)) 34 (S.1 35 11)) 35 (S.1 35 12)) 36 (S.1 35 13)) 37 (S.1 35 14)) 38 (S.1 35 9)) 39 (S.1 35 15)) 40 (S.1 35 16)) 41 (S.1 35 17) ∧ S'.1 48 = pu_fill (S.1 42) (S.1 48) 8 ∧ S'.1 49 = pu_fill (S.1 43) (S.1 49) 8 ∧ S'.1 50 = pu_fill (S.1 44) (S.1 50) 8 ∧ S'.1 51 = pu_fill (S.1 45) (S.1 51) 8)) := by
  refine vx_M.intro (by decide) (Nat.le_of_ble_eq_true rfl) ?_
  intro p e s m args below meth c C
  have lp87 : ∀ (fu : Nat) (i : Nat) (S1 : vx_St), (8 - i < fu ∧ i ≤ 8 ∧ pu_chg S S1 [35, 48, 49, 50, 51] ∧ S1.1 35 = upd (upd (upd (upd (upd (upd (upd (upd (upd (upd (upd (S.1 35) 31 1) 32 (S.1 35 0)) 33 (S.1 35 10)) 34 (S.1 35 11)) 35 (S.1 35 12)) 36 (S.1 35 13)) 37 (S.1 35 14)) 38 (S.1 35 9)) 39 (S.1 35 15)) 40 (S.1 35 16)) 41 (S.1 35 17) ∧ S1.1 48 = pu_fill (S.1 42) (S.1 48) i ∧ S1.1 49 = pu_fill (S.1 43) (S.1 49) i ∧ S1.1 50 = pu_fill (S.1 44) (S.1 50) i ∧ S1.1 51 = pu_fill (S.1 45) (S.1 51) i) → vx_V p l e (vx_R 0 0) s m args below meth c (MQ below (vx_Q g (vx_pi (fun r S' => r = S.1 35 11 ∧ pu_chg S S' [35, 48, 49, 50, 51] ∧ S'.1 35 = upd (upd (upd (upd (upd (upd (upd (upd (upd (upd (upd (S.1 35) 31 1) 32 (S.1 35 0)) 33 (S.1 35 10)) 34 (S.1 35 11)) 35 (S.1 35 12)) 36 (S.1 35 13)) 37 (S.1 35 14)) 38 (S.1 35 9)) 39 (S.1 35 15)) 40 (S.1 35 16)) 41 (S.1 35 17) ∧ S'.1 48 = pu_fill (S.1 42) (S.1 48) 8 ∧ S'.1 49 = pu_fill (S.1 43) (S.1 49) 8 ∧ S'.1 50 = pu_fill (S.1 44) (S.1 50) 8 ∧ S'.1 51 = pu_fill (S.1 45) (S.1 51) 8))) args s 0 0 (vx_A g)) g 2 87 [(0, .ref (g.2.2.1 35)), (1, .int (nI i))] [] (S1) := by
    intro fu
    induction fu with
    | zero =>
      intro i S1 hfu
      exact absurd hfu.1 (by omega)
    | succ fu ih =>
      intro i S1 hfu
      obtain ⟨hf1, hf2, hc, r35, ra48, ra49, ra50, ra51⟩ := hfu
      have rs42 : S1.1 42 = S.1 42 := hc.2 _ (by decide)
      have rs43 : S1.1 43 = S.1 43 := hc.2 _ (by decide)
      have rs44 : S1.1 44 = S.1 44 := hc.2 _ (by decide)
      have rs45 : S1.1 45 = S.1 45 := hc.2 _ (by decide)
      refine vv_iload_n C dX5_image_87 rfl 1 rfl ?_
      refine vv_bipush (v := (nI 8)) C dX5_image_88 (by decide) ?_
      refine vv_icmp_ge (tgt := 147) C dX5_image_90 (by decide) (fun h90 => ?_) (fun h90 => ?_)
      · have hge := pu_geT rfl (by omega) (by omega) h90
        obtain rfl : 8 = i := by omega
        refine vv_aload_n C dX5_image_147 rfl 0 rfl ?_
        refine vv_getI C (a := 35) (k := 11) (o := 0) inlX5 rfl rfl rfl (by decide) rfl (tm_4 (List.mem_of_getElem? (i := 3) rfl)) dX5_image_148 ?_
        refine vv_jret C dX5_image_151 ?_
        exact ⟨by rw [r35]; simp [upd], hc, r35, ra48, ra49, ra50, ra51⟩
      · have hlt := pu_geF rfl (by omega) (by omega) h90
        refine vv_aload_n C dX5_image_93 rfl 0 rfl ?_
        refine vv_gR C (a := 35) (k := 42) (b := 48) inlX5 rfl rfl rfl rfl (by decide) rfl (tm_4 (List.mem_of_getElem? (i := 9) rfl)) dX5_image_94 ?_
        refine vv_iload_n C dX5_image_97 rfl 1 rfl ?_
        refine vv_aload_n C dX5_image_98 rfl 0 rfl ?_
        refine vv_gR C (a := 35) (k := 7) (b := 42) inlX5 rfl rfl rfl rfl (by decide) rfl (tm_4 (List.mem_of_getElem? (i := 0) rfl)) dX5_image_99 ?_
        refine vv_iload_n C dX5_image_102 rfl 1 rfl ?_
        refine vv_ialdN C (a := 42) rfl (by omega) (by decide) dX5_image_103 ?_
        refine vv_iastN C (a := 48) rfl (by omega) (by decide) dX5_image_104 ?_
        refine vv_aload_n C dX5_image_105 rfl 0 rfl ?_
        refine vv_gR C (a := 35) (k := 43) (b := 49) inlX5 rfl rfl rfl rfl (by decide) rfl (tm_4 (List.mem_of_getElem? (i := 10) rfl)) dX5_image_106 ?_
        refine vv_iload_n C dX5_image_109 rfl 1 rfl ?_
        refine vv_aload_n C dX5_image_110 rfl 0 rfl ?_
        refine vv_gR C (a := 35) (k := 8) (b := 43) inlX5 rfl rfl rfl rfl (by decide) rfl (tm_4 (List.mem_of_getElem? (i := 1) rfl)) dX5_image_111 ?_
        refine vv_iload_n C dX5_image_114 rfl 1 rfl ?_
        refine vv_ialdN C (a := 43) rfl (by omega) (by decide) dX5_image_115 ?_
        refine vv_iastN C (a := 49) rfl (by omega) (by decide) dX5_image_116 ?_
        refine vv_aload_n C dX5_image_117 rfl 0 rfl ?_
        refine vv_gR C (a := 35) (k := 44) (b := 50) inlX5 rfl rfl rfl rfl (by decide) rfl (tm_4 (List.mem_of_getElem? (i := 11) rfl)) dX5_image_118 ?_
        refine vv_iload_n C dX5_image_121 rfl 1 rfl ?_
        refine vv_aload_n C dX5_image_122 rfl 0 rfl ?_
        refine vv_gR C (a := 35) (k := 18) (b := 44) inlX5 rfl rfl rfl rfl (by decide) rfl (tm_4 (List.mem_of_getElem? (i := 4) rfl)) dX5_image_123 ?_
        refine vv_iload_n C dX5_image_126 rfl 1 rfl ?_
        refine vv_ialdN C (a := 44) rfl (by omega) (by decide) dX5_image_127 ?_
        refine vv_iastN C (a := 50) rfl (by omega) (by decide) dX5_image_128 ?_
        refine vv_aload_n C dX5_image_129 rfl 0 rfl ?_
        refine vv_gR C (a := 35) (k := 45) (b := 51) inlX5 rfl rfl rfl rfl (by decide) rfl (tm_4 (List.mem_of_getElem? (i := 12) rfl)) dX5_image_130 ?_
        refine vv_iload_n C dX5_image_133 rfl 1 rfl ?_
        refine vv_aload_n C dX5_image_134 rfl 0 rfl ?_
        refine vv_gR C (a := 35) (k := 19) (b := 45) inlX5 rfl rfl rfl rfl (by decide) rfl (tm_4 (List.mem_of_getElem? (i := 5) rfl)) dX5_image_135 ?_
        refine vv_iload_n C dX5_image_138 rfl 1 rfl ?_
        refine vv_ialdN C (a := 45) rfl (by omega) (by decide) dX5_image_139 ?_
        refine vv_iastN C (a := 51) rfl (by omega) (by decide) dX5_image_140 ?_
        refine vv_iincN (L' := [_, _]) (j := 1) C dX5_image_141 rfl (by decide) rfl ?_
        refine vv_goto (tgt := 87) C dX5_image_144 (by decide) ?_
        refine vv_sub (L' := [_, _]) [1, 0] rfl ?_
        refine ih (i + 1) _ ⟨by omega, by omega, pu_chg_u (pu_chg_u (pu_chg_u (pu_chg_u hc _ _ (by simp)) _ _ (by simp)) _ _ (by simp)) _ _ (by simp), ?_, ?_, ?_, ?_, ?_⟩
        · simp only [vx_u_if, reduceIte, Nat.reduceEqDiff]; exact r35
        · simp only [vx_u_if, reduceIte, Nat.reduceEqDiff]; rw [ra48, rs42]; exact pu_fill_s _ _ i
        · simp only [vx_u_if, reduceIte, Nat.reduceEqDiff]; rw [ra49, rs43]; exact pu_fill_s _ _ i
        · simp only [vx_u_if, reduceIte, Nat.reduceEqDiff]; rw [ra50, rs44]; exact pu_fill_s _ _ i
        · simp only [vx_u_if, reduceIte, Nat.reduceEqDiff]; rw [ra51, rs45]; exact pu_fill_s _ _ i
  refine vv_aload_n C dX5_image_0 rfl 0 rfl ?_
  refine vv_iconst (v := (1)) C dX5_image_1 (by decide) ?_
  refine vv_putZ C (a := 35) (k := 31) inlX5 tyX5 tyX5_ok nmX5 rfl rfl rfl (by decide) rfl rfl rfl rfl (tm_29 (List.mem_of_getElem? (i := 13) rfl)) dX5_image_2 ?_
  refine vv_aload_n C dX5_image_5 rfl 0 rfl ?_
  refine vv_aload_n C dX5_image_6 rfl 0 rfl ?_
  refine vv_getI C (a := 35) (k := 0) (o := 0) inlX5 rfl rfl rfl (by decide) rfl (tm_10 (List.mem_of_getElem? (i := 18) rfl)) dX5_image_7 ?_
  refine vv_putI C (a := 35) (k := 32) inlX5 tyX5 tyX5_ok nmX5 rfl rfl rfl (by decide) rfl rfl rfl (tm_29 (List.mem_of_getElem? (i := 14) rfl)) dX5_image_10 ?_
  refine vv_aload_n C dX5_image_13 rfl 0 rfl ?_
  refine vv_aload_n C dX5_image_14 rfl 0 rfl ?_
  refine vv_getI C (a := 35) (k := 10) (o := 0) inlX5 rfl rfl rfl (by decide) rfl (tm_4 (List.mem_of_getElem? (i := 2) rfl)) dX5_image_15 ?_
  refine vv_putI C (a := 35) (k := 33) inlX5 tyX5 tyX5_ok nmX5 rfl rfl rfl (by decide) rfl rfl rfl (tm_29 (List.mem_of_getElem? (i := 15) rfl)) dX5_image_18 ?_
  refine vv_aload_n C dX5_image_21 rfl 0 rfl ?_
  refine vv_aload_n C dX5_image_22 rfl 0 rfl ?_
  refine vv_getI C (a := 35) (k := 11) (o := 0) inlX5 rfl rfl rfl (by decide) rfl (tm_4 (List.mem_of_getElem? (i := 3) rfl)) dX5_image_23 ?_
  refine vv_putI C (a := 35) (k := 34) inlX5 tyX5 tyX5_ok nmX5 rfl rfl rfl (by decide) rfl rfl rfl (tm_29 (List.mem_of_getElem? (i := 16) rfl)) dX5_image_26 ?_
  refine vv_aload_n C dX5_image_29 rfl 0 rfl ?_
  refine vv_aload_n C dX5_image_30 rfl 0 rfl ?_
  refine vv_getI C (a := 35) (k := 12) (o := 0) inlX5 rfl rfl rfl (by decide) rfl (tm_12 (List.mem_of_getElem? (i := 3) rfl)) dX5_image_31 ?_
  refine vv_putI C (a := 35) (k := 35) inlX5 tyX5 tyX5_ok nmX5 rfl rfl rfl (by decide) rfl rfl rfl (tm_29 (List.mem_of_getElem? (i := 17) rfl)) dX5_image_34 ?_
  refine vv_aload_n C dX5_image_37 rfl 0 rfl ?_
  refine vv_aload_n C dX5_image_38 rfl 0 rfl ?_
  refine vv_getI C (a := 35) (k := 13) (o := 0) inlX5 rfl rfl rfl (by decide) rfl (tm_19 (List.mem_of_getElem? (i := 3) rfl)) dX5_image_39 ?_
  refine vv_putI C (a := 35) (k := 36) inlX5 tyX5 tyX5_ok nmX5 rfl rfl rfl (by decide) rfl rfl rfl (tm_29 (List.mem_of_getElem? (i := 18) rfl)) dX5_image_42 ?_
  refine vv_aload_n C dX5_image_45 rfl 0 rfl ?_
  refine vv_aload_n C dX5_image_46 rfl 0 rfl ?_
  refine vv_getI C (a := 35) (k := 14) (o := 0) inlX5 rfl rfl rfl (by decide) rfl (tm_15 (List.mem_of_getElem? (i := 16) rfl)) dX5_image_47 ?_
  refine vv_putI C (a := 35) (k := 37) inlX5 tyX5 tyX5_ok nmX5 rfl rfl rfl (by decide) rfl rfl rfl (tm_29 (List.mem_of_getElem? (i := 19) rfl)) dX5_image_50 ?_
  refine vv_aload_n C dX5_image_53 rfl 0 rfl ?_
  refine vv_aload_n C dX5_image_54 rfl 0 rfl ?_
  refine vv_getI C (a := 35) (k := 9) (o := 0) inlX5 rfl rfl rfl (by decide) rfl (tm_12 (List.mem_of_getElem? (i := 4) rfl)) dX5_image_55 ?_
  refine vv_putI C (a := 35) (k := 38) inlX5 tyX5 tyX5_ok nmX5 rfl rfl rfl (by decide) rfl rfl rfl (tm_29 (List.mem_of_getElem? (i := 20) rfl)) dX5_image_58 ?_
  refine vv_aload_n C dX5_image_61 rfl 0 rfl ?_
  refine vv_aload_n C dX5_image_62 rfl 0 rfl ?_
  refine vv_getZ C (a := 35) (k := 15) (o := 0) inlX5 rfl rfl rfl (by decide) rfl (tm_18 (List.mem_of_getElem? (i := 22) rfl)) dX5_image_63 ?_
  refine vv_putZ C (a := 35) (k := 39) inlX5 tyX5 tyX5_ok nmX5 rfl rfl rfl (by decide) rfl rfl rfl (vx_b_b _) (tm_29 (List.mem_of_getElem? (i := 21) rfl)) dX5_image_66 ?_
  refine vv_aload_n C dX5_image_69 rfl 0 rfl ?_
  refine vv_aload_n C dX5_image_70 rfl 0 rfl ?_
  refine vv_getZ C (a := 35) (k := 16) (o := 0) inlX5 rfl rfl rfl (by decide) rfl (tm_14 (List.mem_of_getElem? (i := 19) rfl)) dX5_image_71 ?_
  refine vv_putZ C (a := 35) (k := 40) inlX5 tyX5 tyX5_ok nmX5 rfl rfl rfl (by decide) rfl rfl rfl (vx_b_b _) (tm_29 (List.mem_of_getElem? (i := 22) rfl)) dX5_image_74 ?_
  refine vv_aload_n C dX5_image_77 rfl 0 rfl ?_
  refine vv_aload_n C dX5_image_78 rfl 0 rfl ?_
  refine vv_getI C (a := 35) (k := 17) (o := 0) inlX5 rfl rfl rfl (by decide) rfl (tm_26 (List.mem_of_getElem? (i := 13) rfl)) dX5_image_79 ?_
  refine vv_putI C (a := 35) (k := 41) inlX5 tyX5 tyX5_ok nmX5 rfl rfl rfl (by decide) rfl rfl rfl (tm_29 (List.mem_of_getElem? (i := 23) rfl)) dX5_image_82 ?_
  refine vv_iconst (v := (nI 0)) C dX5_image_85 (by decide) ?_
  refine vv_istore_n (i := 1) (L' := [_, _]) C dX5_image_86 rfl (by decide) rfl ?_
  refine vv_sub (L' := [_, _]) [1, 0] rfl ?_
  refine lp87 9 0 _ ⟨by omega, by omega, ?_, ?_, rfl, rfl, rfl, rfl⟩
  · iterate 11 refine pu_chg_u ?_ _ _ (by simp)
    exact pu_chg_rf S _
  · simp only [vx_u_row]
    simp [upd, hb15, hb16]
theorem yk_X5_restore : vx_yV yX5_restore cX5_restore 2 (some .int) 0 := ⟨(tm_30 (List.mem_of_getElem? (i := 7) rfl)), (tm_1 (List.mem_of_getElem? (i := 5) rfl)), by decide +kernel, (tm_30 (List.mem_of_getElem? (i := 5) rfl)), (tm_30 (List.mem_of_getElem? (i := 6) rfl))⟩
set_option maxHeartbeats 4000000 in
set_option maxRecDepth 100000 in
theorem kk_X5_restore (l : Launch) (g : vx_G) (S : vx_St) (hb15 : vx_b01 (S.1 35 39) = S.1 35 39) (hb16 : vx_b01 (S.1 35 40) = S.1 35 40) : vx_M l g yX5_restore cX5_restore 2 (some .int) (vx_R 0 0) [.ref (g.2.2.1 35)] S (vx_pi (fun r S' => (S.1 35 31 = 0 → r = -103 ∧ S' = S) ∧ (¬ S.1 35 31 = 0 → r = S.1 35 34 ∧ pu_chg S S' [35, 42, 43, 44, 45] ∧ S'.1 35 = upd (upd (upd (upd (upd (upd (upd (upd (upd (upd (S.1 35) 0 (S.1 35 32)) 10 (S.1 35 33)) 11 (S.1 35 34)) 12 (S.1 35 35)) 13 (S.1 35 36)) 14 (S.1 35 37)) 9 (S.1 35 38)) 15 (S.1 35 39)) 16 (S.1 35 40)) 17 (S.1 35 41) ∧ S'.1 42 = pu_fill (S.1 48) (S.1 42) 8 ∧ S'.1 43 = pu_fill (S.1 49) (S.1 43) 8 ∧ S'.1 44 = pu_fill (S.1 50) (S.1 44) 8 ∧ S'.1 45 = pu_fill (S.1 51) (S.1 45) 8))) := by
  refine vx_M.intro (by decide) (Nat.le_of_ble_eq_true rfl) ?_
  intro p e s m args below meth c C
  have lp92 : ∀ (fu : Nat) (i : Nat) (S1 : vx_St), (8 - i < fu ∧ i ≤ 8 ∧ pu_chg S S1 [35, 42, 43, 44, 45] ∧ S1.1 35 = upd (upd (upd (upd (upd (upd (upd (upd (upd (upd (S.1 35) 0 (S.1 35 32)) 10 (S.1 35 33)) 11 (S.1 35 34)) 12 (S.1 35 35)) 13 (S.1 35 36)) 14 (S.1 35 37)) 9 (S.1 35 38)) 15 (S.1 35 39)) 16 (S.1 35 40)) 17 (S.1 35 41) ∧ S1.1 42 = pu_fill (S.1 48) (S.1 42) i ∧ S1.1 43 = pu_fill (S.1 49) (S.1 43) i ∧ S1.1 44 = pu_fill (S.1 50) (S.1 44) i ∧ S1.1 45 = pu_fill (S.1 51) (S.1 45) i ∧ ¬ S.1 35 31 = 0) → vx_V p l e (vx_R 0 0) s m args below meth c (MQ below (vx_Q g (vx_pi (fun r S' => (S.1 35 31 = 0 → r = -103 ∧ S' = S) ∧ (¬ S.1 35 31 = 0 → r = S.1 35 34 ∧ pu_chg S S' [35, 42, 43, 44, 45] ∧ S'.1 35 = upd (upd (upd (upd (upd (upd (upd (upd (upd (upd (S.1 35) 0 (S.1 35 32)) 10 (S.1 35 33)) 11 (S.1 35 34)) 12 (S.1 35 35)) 13 (S.1 35 36)) 14 (S.1 35 37)) 9 (S.1 35 38)) 15 (S.1 35 39)) 16 (S.1 35 40)) 17 (S.1 35 41) ∧ S'.1 42 = pu_fill (S.1 48) (S.1 42) 8 ∧ S'.1 43 = pu_fill (S.1 49) (S.1 43) 8 ∧ S'.1 44 = pu_fill (S.1 50) (S.1 44) 8 ∧ S'.1 45 = pu_fill (S.1 51) (S.1 45) 8)))) args s 0 0 (vx_A g)) g 2 92 [(0, .ref (g.2.2.1 35)), (1, .int (nI i))] [] (S1) := by
    intro fu
    induction fu with
    | zero =>
      intro i S1 hfu
      exact absurd hfu.1 (by omega)
    | succ fu ih =>
      intro i S1 hfu
      obtain ⟨hf1, hf2, hc, r35, ra42, ra43, ra44, ra45, hk⟩ := hfu
      have rs48 : S1.1 48 = S.1 48 := hc.2 _ (by decide)
      have rs49 : S1.1 49 = S.1 49 := hc.2 _ (by decide)
      have rs50 : S1.1 50 = S.1 50 := hc.2 _ (by decide)
      have rs51 : S1.1 51 = S.1 51 := hc.2 _ (by decide)
      refine vv_iload_n C dX5_restore_92 rfl 1 rfl ?_
      refine vv_bipush (v := (nI 8)) C dX5_restore_93 (by decide) ?_
      refine vv_icmp_ge (tgt := 152) C dX5_restore_95 (by decide) (fun h95 => ?_) (fun h95 => ?_)
      · have hge := pu_geT rfl (by omega) (by omega) h95
        obtain rfl : 8 = i := by omega
        refine vv_aload_n C dX5_restore_152 rfl 0 rfl ?_
        refine vv_getI C (a := 35) (k := 11) (o := 0) inlX5 rfl rfl rfl (by decide) rfl (tm_4 (List.mem_of_getElem? (i := 3) rfl)) dX5_restore_153 ?_
        refine vv_jret C dX5_restore_156 ?_
        exact ⟨fun q => absurd q hk, fun _ => ⟨by rw [r35]; simp [upd], hc, r35, ra42, ra43, ra44, ra45⟩⟩
      · have hlt := pu_geF rfl (by omega) (by omega) h95
        refine vv_aload_n C dX5_restore_98 rfl 0 rfl ?_
        refine vv_gR C (a := 35) (k := 7) (b := 42) inlX5 rfl rfl rfl rfl (by decide) rfl (tm_4 (List.mem_of_getElem? (i := 0) rfl)) dX5_restore_99 ?_
        refine vv_iload_n C dX5_restore_102 rfl 1 rfl ?_
        refine vv_aload_n C dX5_restore_103 rfl 0 rfl ?_
        refine vv_gR C (a := 35) (k := 42) (b := 48) inlX5 rfl rfl rfl rfl (by decide) rfl (tm_4 (List.mem_of_getElem? (i := 9) rfl)) dX5_restore_104 ?_
        refine vv_iload_n C dX5_restore_107 rfl 1 rfl ?_
        refine vv_ialdN C (a := 48) rfl (by omega) (by decide) dX5_restore_108 ?_
        refine vv_iastN C (a := 42) rfl (by omega) (by decide) dX5_restore_109 ?_
        refine vv_aload_n C dX5_restore_110 rfl 0 rfl ?_
        refine vv_gR C (a := 35) (k := 8) (b := 43) inlX5 rfl rfl rfl rfl (by decide) rfl (tm_4 (List.mem_of_getElem? (i := 1) rfl)) dX5_restore_111 ?_
        refine vv_iload_n C dX5_restore_114 rfl 1 rfl ?_
        refine vv_aload_n C dX5_restore_115 rfl 0 rfl ?_
        refine vv_gR C (a := 35) (k := 43) (b := 49) inlX5 rfl rfl rfl rfl (by decide) rfl (tm_4 (List.mem_of_getElem? (i := 10) rfl)) dX5_restore_116 ?_
        refine vv_iload_n C dX5_restore_119 rfl 1 rfl ?_
        refine vv_ialdN C (a := 49) rfl (by omega) (by decide) dX5_restore_120 ?_
        refine vv_iastN C (a := 43) rfl (by omega) (by decide) dX5_restore_121 ?_
        refine vv_aload_n C dX5_restore_122 rfl 0 rfl ?_
        refine vv_gR C (a := 35) (k := 18) (b := 44) inlX5 rfl rfl rfl rfl (by decide) rfl (tm_4 (List.mem_of_getElem? (i := 4) rfl)) dX5_restore_123 ?_
        refine vv_iload_n C dX5_restore_126 rfl 1 rfl ?_
        refine vv_aload_n C dX5_restore_127 rfl 0 rfl ?_
        refine vv_gR C (a := 35) (k := 44) (b := 50) inlX5 rfl rfl rfl rfl (by decide) rfl (tm_4 (List.mem_of_getElem? (i := 11) rfl)) dX5_restore_128 ?_
        refine vv_iload_n C dX5_restore_131 rfl 1 rfl ?_
        refine vv_ialdN C (a := 50) rfl (by omega) (by decide) dX5_restore_132 ?_
        refine vv_iastN C (a := 44) rfl (by omega) (by decide) dX5_restore_133 ?_
        refine vv_aload_n C dX5_restore_134 rfl 0 rfl ?_
        refine vv_gR C (a := 35) (k := 19) (b := 45) inlX5 rfl rfl rfl rfl (by decide) rfl (tm_4 (List.mem_of_getElem? (i := 5) rfl)) dX5_restore_135 ?_
        refine vv_iload_n C dX5_restore_138 rfl 1 rfl ?_
        refine vv_aload_n C dX5_restore_139 rfl 0 rfl ?_
        refine vv_gR C (a := 35) (k := 45) (b := 51) inlX5 rfl rfl rfl rfl (by decide) rfl (tm_4 (List.mem_of_getElem? (i := 12) rfl)) dX5_restore_140 ?_
        refine vv_iload_n C dX5_restore_143 rfl 1 rfl ?_
        refine vv_ialdN C (a := 51) rfl (by omega) (by decide) dX5_restore_144 ?_
        refine vv_iastN C (a := 45) rfl (by omega) (by decide) dX5_restore_145 ?_
        refine vv_iincN (L' := [_, _]) (j := 1) C dX5_restore_146 rfl (by decide) rfl ?_
        refine vv_goto (tgt := 92) C dX5_restore_149 (by decide) ?_
        refine vv_sub (L' := [_, _]) [1, 0] rfl ?_
        refine ih (i + 1) _ ⟨by omega, by omega, pu_chg_u (pu_chg_u (pu_chg_u (pu_chg_u hc _ _ (by simp)) _ _ (by simp)) _ _ (by simp)) _ _ (by simp), ?_, ?_, ?_, ?_, ?_, hk⟩
        · simp only [vx_u_if, reduceIte, Nat.reduceEqDiff]; exact r35
        · simp only [vx_u_if, reduceIte, Nat.reduceEqDiff]; rw [ra42, rs48]; exact pu_fill_s _ _ i
        · simp only [vx_u_if, reduceIte, Nat.reduceEqDiff]; rw [ra43, rs49]; exact pu_fill_s _ _ i
        · simp only [vx_u_if, reduceIte, Nat.reduceEqDiff]; rw [ra44, rs50]; exact pu_fill_s _ _ i
        · simp only [vx_u_if, reduceIte, Nat.reduceEqDiff]; rw [ra45, rs51]; exact pu_fill_s _ _ i
  refine vv_aload_n C dX5_restore_0 rfl 0 rfl ?_
  refine vv_getZ C (a := 35) (k := 31) (o := 0) inlX5 rfl rfl rfl (by decide) rfl (tm_29 (List.mem_of_getElem? (i := 13) rfl)) dX5_restore_1 ?_
  refine vv_ifz_ne (tgt := 10) C dX5_restore_4 (by decide) (fun h4 => ?_) (fun h4 => ?_)
  · refine vv_aload_n C dX5_restore_10 rfl 0 rfl ?_
    refine vv_aload_n C dX5_restore_11 rfl 0 rfl ?_
    refine vv_getI C (a := 35) (k := 32) (o := 0) inlX5 rfl rfl rfl (by decide) rfl (tm_29 (List.mem_of_getElem? (i := 14) rfl)) dX5_restore_12 ?_
    refine vv_putI C (a := 35) (k := 0) inlX5 tyX5 tyX5_ok nmX5 rfl rfl rfl (by decide) rfl rfl rfl (tm_10 (List.mem_of_getElem? (i := 18) rfl)) dX5_restore_15 ?_
    refine vv_aload_n C dX5_restore_18 rfl 0 rfl ?_
    refine vv_aload_n C dX5_restore_19 rfl 0 rfl ?_
    refine vv_getI C (a := 35) (k := 33) (o := 0) inlX5 rfl rfl rfl (by decide) rfl (tm_29 (List.mem_of_getElem? (i := 15) rfl)) dX5_restore_20 ?_
    refine vv_putI C (a := 35) (k := 10) inlX5 tyX5 tyX5_ok nmX5 rfl rfl rfl (by decide) rfl rfl rfl (tm_4 (List.mem_of_getElem? (i := 2) rfl)) dX5_restore_23 ?_
    refine vv_aload_n C dX5_restore_26 rfl 0 rfl ?_
    refine vv_aload_n C dX5_restore_27 rfl 0 rfl ?_
    refine vv_getI C (a := 35) (k := 34) (o := 0) inlX5 rfl rfl rfl (by decide) rfl (tm_29 (List.mem_of_getElem? (i := 16) rfl)) dX5_restore_28 ?_
    refine vv_putI C (a := 35) (k := 11) inlX5 tyX5 tyX5_ok nmX5 rfl rfl rfl (by decide) rfl rfl rfl (tm_4 (List.mem_of_getElem? (i := 3) rfl)) dX5_restore_31 ?_
    refine vv_aload_n C dX5_restore_34 rfl 0 rfl ?_
    refine vv_aload_n C dX5_restore_35 rfl 0 rfl ?_
    refine vv_getI C (a := 35) (k := 35) (o := 0) inlX5 rfl rfl rfl (by decide) rfl (tm_29 (List.mem_of_getElem? (i := 17) rfl)) dX5_restore_36 ?_
    refine vv_putI C (a := 35) (k := 12) inlX5 tyX5 tyX5_ok nmX5 rfl rfl rfl (by decide) rfl rfl rfl (tm_12 (List.mem_of_getElem? (i := 3) rfl)) dX5_restore_39 ?_
    refine vv_aload_n C dX5_restore_42 rfl 0 rfl ?_
    refine vv_aload_n C dX5_restore_43 rfl 0 rfl ?_
    refine vv_getI C (a := 35) (k := 36) (o := 0) inlX5 rfl rfl rfl (by decide) rfl (tm_29 (List.mem_of_getElem? (i := 18) rfl)) dX5_restore_44 ?_
    refine vv_putI C (a := 35) (k := 13) inlX5 tyX5 tyX5_ok nmX5 rfl rfl rfl (by decide) rfl rfl rfl (tm_19 (List.mem_of_getElem? (i := 3) rfl)) dX5_restore_47 ?_
    refine vv_aload_n C dX5_restore_50 rfl 0 rfl ?_
    refine vv_aload_n C dX5_restore_51 rfl 0 rfl ?_
    refine vv_getI C (a := 35) (k := 37) (o := 0) inlX5 rfl rfl rfl (by decide) rfl (tm_29 (List.mem_of_getElem? (i := 19) rfl)) dX5_restore_52 ?_
    refine vv_putI C (a := 35) (k := 14) inlX5 tyX5 tyX5_ok nmX5 rfl rfl rfl (by decide) rfl rfl rfl (tm_15 (List.mem_of_getElem? (i := 16) rfl)) dX5_restore_55 ?_
    refine vv_aload_n C dX5_restore_58 rfl 0 rfl ?_
    refine vv_aload_n C dX5_restore_59 rfl 0 rfl ?_
    refine vv_getI C (a := 35) (k := 38) (o := 0) inlX5 rfl rfl rfl (by decide) rfl (tm_29 (List.mem_of_getElem? (i := 20) rfl)) dX5_restore_60 ?_
    refine vv_putI C (a := 35) (k := 9) inlX5 tyX5 tyX5_ok nmX5 rfl rfl rfl (by decide) rfl rfl rfl (tm_12 (List.mem_of_getElem? (i := 4) rfl)) dX5_restore_63 ?_
    refine vv_aload_n C dX5_restore_66 rfl 0 rfl ?_
    refine vv_aload_n C dX5_restore_67 rfl 0 rfl ?_
    refine vv_getZ C (a := 35) (k := 39) (o := 0) inlX5 rfl rfl rfl (by decide) rfl (tm_29 (List.mem_of_getElem? (i := 21) rfl)) dX5_restore_68 ?_
    refine vv_putZ C (a := 35) (k := 15) inlX5 tyX5 tyX5_ok nmX5 rfl rfl rfl (by decide) rfl rfl rfl (vx_b_b _) (tm_18 (List.mem_of_getElem? (i := 22) rfl)) dX5_restore_71 ?_
    refine vv_aload_n C dX5_restore_74 rfl 0 rfl ?_
    refine vv_aload_n C dX5_restore_75 rfl 0 rfl ?_
    refine vv_getZ C (a := 35) (k := 40) (o := 0) inlX5 rfl rfl rfl (by decide) rfl (tm_29 (List.mem_of_getElem? (i := 22) rfl)) dX5_restore_76 ?_
    refine vv_putZ C (a := 35) (k := 16) inlX5 tyX5 tyX5_ok nmX5 rfl rfl rfl (by decide) rfl rfl rfl (vx_b_b _) (tm_14 (List.mem_of_getElem? (i := 19) rfl)) dX5_restore_79 ?_
    refine vv_aload_n C dX5_restore_82 rfl 0 rfl ?_
    refine vv_aload_n C dX5_restore_83 rfl 0 rfl ?_
    refine vv_getI C (a := 35) (k := 41) (o := 0) inlX5 rfl rfl rfl (by decide) rfl (tm_29 (List.mem_of_getElem? (i := 23) rfl)) dX5_restore_84 ?_
    refine vv_putI C (a := 35) (k := 17) inlX5 tyX5 tyX5_ok nmX5 rfl rfl rfl (by decide) rfl rfl rfl (tm_26 (List.mem_of_getElem? (i := 13) rfl)) dX5_restore_87 ?_
    refine vv_iconst (v := (nI 0)) C dX5_restore_90 (by decide) ?_
    refine vv_istore_n (i := 1) (L' := [_, _]) C dX5_restore_91 rfl (by decide) rfl ?_
    refine vv_sub (L' := [_, _]) [1, 0] rfl ?_
    refine lp92 9 0 _ ⟨by omega, by omega, ?_, ?_, rfl, rfl, rfl, rfl, h4⟩
    · iterate 10 refine pu_chg_u ?_ _ _ (by simp)
      exact pu_chg_rf S _
    · simp only [vx_u_row]
      simp [upd, hb15, hb16]
  · refine vv_bipush (v := (-103)) C dX5_restore_7 (by decide) ?_
    refine vv_jret C dX5_restore_9 ?_
    exact ⟨fun _ => ⟨rfl, rfl⟩, fun q => absurd h4 q⟩
theorem yk_X5_mix : vx_yV yX5_mix cX5_mix 3 none 1 := ⟨(tm_32 (List.mem_of_getElem? (i := 0) rfl)), (tm_1 (List.mem_of_getElem? (i := 5) rfl)), by decide +kernel, (tm_31 (List.mem_of_getElem? (i := 22) rfl)), (tm_31 (List.mem_of_getElem? (i := 23) rfl))⟩
set_option maxHeartbeats 4000000 in
set_option maxRecDepth 100000 in
theorem kk_X5_mix (l : Launch) (g : vx_G) (S : vx_St) (v : Int64) : vx_M l g yX5_mix cX5_mix 3 none (vx_R 0 0) [.ref (g.2.2.1 35), .long v] S (vx_pv (fun S' => S' = vx_uL S 35 46 (31 * S.2 35 46 + v))) := by
  refine vx_M.intro (by decide) (Nat.le_of_ble_eq_true rfl) ?_
  intro p e s m args below meth c C
  refine vv_aload_n C dX5_mix_0 rfl 0 rfl ?_
  refine vv_ldc2 C (tm_32 (List.mem_of_getElem? (i := 1) rfl)) dX5_mix_1 ?_
  refine vv_aload_n C dX5_mix_4 rfl 0 rfl ?_
  refine vv_getL C (a := 35) (k := 46) (o := 0) inlX5 rfl rfl rfl (by decide) rfl (tm_31 (List.mem_of_getElem? (i := 20) rfl)) dX5_mix_5 ?_
  refine vv_lmul C dX5_mix_8 ?_
  refine vv_lload_n C dX5_mix_9 rfl 1 rfl ?_
  refine vv_ladd C dX5_mix_10 ?_
  refine vv_putL C (a := 35) (k := 46) inlX5 tyX5 tyX5_ok nmX5 rfl rfl rfl (by decide) rfl rfl rfl (tm_31 (List.mem_of_getElem? (i := 20) rfl)) dX5_mix_11 ?_
  refine vv_nret C dX5_mix_14 ?_
  rfl
