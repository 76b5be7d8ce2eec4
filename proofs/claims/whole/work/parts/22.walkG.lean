theorem yk_X5_within : vx_yS yX5_within cX5_within 3 (some .boolean) 3 := ⟨(tm_11 (List.mem_of_getElem? (i := 0) rfl)), (tm_1 (List.mem_of_getElem? (i := 5) rfl)), by decide +kernel, (tm_10 (List.mem_of_getElem? (i := 23) rfl))⟩
set_option maxHeartbeats 4000000 in
set_option maxRecDepth 100000 in
theorem kk_X5_within (l : Launch) (g : vx_G) (S : vx_St) (v lo hi : Int32) : vx_M l g yX5_within cX5_within 3 (some .boolean) (vx_R 0 0) [.int v, .int lo, .int hi] S (vx_pf (vx_i (pm_wi v lo hi)) S) := by
  refine vx_M.intro (by decide) (Nat.le_of_ble_eq_true rfl) ?_
  intro p e s m args below meth c C
  refine vv_iload_n C dX5_within_0 rfl 0 rfl ?_
  refine vv_iload_n C dX5_within_1 rfl 1 rfl ?_
  refine vv_icmp_lt (tgt := 14) C dX5_within_2 (by decide) (fun h2 => ?_) (fun h2 => ?_)
  · have g2 := pu_lt h2
    refine vv_iconst (v := (0)) C dX5_within_14 (by decide) ?_
    refine vv_fzret C dX5_within_15 rfl ?_
    simp [vx_i, pm_wi, h2, g2]
  · have g2 := pu_nlt h2
    refine vv_iload_n C dX5_within_5 rfl 0 rfl ?_
    refine vv_iload_n C dX5_within_6 rfl 2 rfl ?_
    refine vv_icmp_gt (tgt := 14) C dX5_within_7 (by decide) (fun h7 => ?_) (fun h7 => ?_)
    · have g7 := pu_lt h7
      refine vv_iconst (v := (0)) C dX5_within_14 (by decide) ?_
      refine vv_fzret C dX5_within_15 rfl ?_
      simp [vx_i, pm_wi, h2, g2, h7, g7]
    · have g7 := pu_nlt h7
      refine vv_iconst (v := (1)) C dX5_within_10 (by decide) ?_
      refine vv_goto (tgt := 15) C dX5_within_11 (by decide) ?_
      refine vv_fzret C dX5_within_15 rfl ?_
      simp [vx_i, pm_wi, h2, g2, h7, g7]
theorem yk_X5_has : vx_yS yX5_has cX5_has 2 (some .boolean) 2 := ⟨(tm_13 (List.mem_of_getElem? (i := 9) rfl)), (tm_1 (List.mem_of_getElem? (i := 5) rfl)), by decide +kernel, (tm_13 (List.mem_of_getElem? (i := 8) rfl))⟩
set_option maxHeartbeats 4000000 in
set_option maxRecDepth 100000 in
theorem kk_X5_has (l : Launch) (g : vx_G) (S : vx_St) (x k : Int32) : vx_M l g yX5_has cX5_has 2 (some .boolean) (vx_R 0 0) [.int x, .int k] S (vx_pf (vx_i (pu_in x k)) S) := by
  refine vx_M.intro (by decide) (Nat.le_of_ble_eq_true rfl) ?_
  intro p e s m args below meth c C
  refine vv_iload_n C dX5_has_0 rfl 0 rfl ?_
  refine vv_iload_n C dX5_has_1 rfl 1 rfl ?_
  refine vv_ishr C dX5_has_2 ?_
  refine vv_iconst (v := (1)) C dX5_has_3 (by decide) ?_
  refine vv_iand C dX5_has_4 ?_
  refine vv_iconst (v := (1)) C dX5_has_5 (by decide) ?_
  refine vv_icmp_ne (tgt := 13) C dX5_has_6 (by decide) (fun h6 => ?_) (fun h6 => ?_)
  · refine vv_iconst (v := (0)) C dX5_has_13 (by decide) ?_
    refine vv_fzret C dX5_has_14 rfl ?_
    simp [vx_i, pm_in, h6]
  · refine vv_iconst (v := (1)) C dX5_has_9 (by decide) ?_
    refine vv_goto (tgt := 14) C dX5_has_10 (by decide) ?_
    refine vv_fzret C dX5_has_14 rfl ?_
    simp [vx_i, pm_in, h6]
theorem yk_X5_size : vx_yS yX5_size cX5_size 3 (some .int) 1 := ⟨(tm_23 (List.mem_of_getElem? (i := 14) rfl)), (tm_1 (List.mem_of_getElem? (i := 5) rfl)), by decide +kernel, (tm_23 (List.mem_of_getElem? (i := 13) rfl))⟩
set_option maxHeartbeats 4000000 in
set_option maxRecDepth 100000 in
theorem kk_X5_size (l : Launch) (g : vx_G) (S : vx_St) (x : Int32) : vx_M l g yX5_size cX5_size 3 (some .int) (vx_R 0 0) [.int x] S (vx_pf (pm_size x 8) S) := by
  refine vx_M.intro (by decide) (Nat.le_of_ble_eq_true rfl) ?_
  intro p e s m args below meth c C
  have lp4 : ∀ (fu : Nat) (i : Nat), (8 - i < fu ∧ i ≤ 8) → vx_V p l e (vx_R 0 0) s m args below meth c (MQ below (vx_Q g (vx_pf (pm_size x 8) S)) args s 0 0 (vx_A g)) g 3 4 [(0, .int x), (1, .int (pm_size x i)), (2, .int (nI i))] [] (S) := by
    intro fu
    induction fu with
    | zero =>
      intro i hfu
      exact absurd hfu.1 (by omega)
    | succ fu ih =>
      intro i hfu
      obtain ⟨hf1, hf2⟩ := hfu
      refine vv_iload_n C dX5_size_4 rfl 2 rfl ?_
      refine vv_bipush (v := (nI 8)) C dX5_size_5 (by decide) ?_
      refine vv_icmp_ge (tgt := 24) C dX5_size_7 (by decide) (fun h7 => ?_) (fun h7 => ?_)
      · have hge := pu_geT rfl (by omega) (by omega) h7
        obtain rfl : 8 = i := by omega
        refine vv_iload_n C dX5_size_24 rfl 1 rfl ?_
        refine vv_fret C dX5_size_25 ?_
        rfl
      · have hlt := pu_geF rfl (by omega) (by omega) h7
        refine vv_iload_n C dX5_size_10 rfl 1 rfl ?_
        refine vv_iload_n C dX5_size_11 rfl 0 rfl ?_
        refine vv_iload_n C dX5_size_12 rfl 2 rfl ?_
        refine vv_ishr C dX5_size_13 ?_
        refine vv_iconst (v := (1)) C dX5_size_14 (by decide) ?_
        refine vv_iand C dX5_size_15 ?_
        refine vv_iadd C dX5_size_16 ?_
        refine vv_istore_n (i := 1) (L' := [_, _, _]) C dX5_size_17 rfl (by decide) rfl ?_
        refine vv_iincN (L' := [_, _, _]) (j := 2) C dX5_size_18 rfl (by decide) rfl ?_
        refine vv_goto (tgt := 4) C dX5_size_21 (by decide) ?_
        refine vv_sub (L' := [_, _, _]) [2, 1, 0] rfl ?_
        exact ih (i + 1) ⟨by omega, by omega⟩
  refine vv_iconst (v := (0)) C dX5_size_0 (by decide) ?_
  refine vv_istore_n (i := 1) (L' := [_, _]) C dX5_size_1 rfl (by decide) rfl ?_
  refine vv_iconst (v := (nI 0)) C dX5_size_2 (by decide) ?_
  refine vv_istore_n (i := 2) (L' := [_, _, _]) C dX5_size_3 rfl (by decide) rfl ?_
  refine vv_sub (L' := [_, _, _]) [2, 1, 0] rfl ?_
  exact lp4 9 0 ⟨by omega, by omega⟩
theorem yk_X5_kindBy : vx_yS yX5_kindBy cX5_kindBy 1 (some .int) 1 := ⟨(tm_10 (List.mem_of_getElem? (i := 21) rfl)), (tm_1 (List.mem_of_getElem? (i := 5) rfl)), by decide +kernel, (tm_10 (List.mem_of_getElem? (i := 20) rfl))⟩
set_option maxHeartbeats 4000000 in
set_option maxRecDepth 100000 in
theorem kk_X5_kindBy (l : Launch) (g : vx_G) (S : vx_St) (q : Int32) : vx_M l g yX5_kindBy cX5_kindBy 1 (some .int) (vx_R 0 0) [.int q] S (vx_pf (pm_kind q) S) := by
  refine vx_M.intro (by decide) (Nat.le_of_ble_eq_true rfl) ?_
  intro p e s m args below meth c C
  refine vv_iload_n C dX5_kindBy_0 rfl 0 rfl ?_
  refine vv_bipush (v := (104)) C dX5_kindBy_1 (by decide) ?_
  refine vv_icmp_ne (tgt := 10) C dX5_kindBy_3 (by decide) (fun h3 => ?_) (fun h3 => ?_)
  · refine vv_iload_n C dX5_kindBy_10 rfl 0 rfl ?_
    refine vv_bipush (v := (99)) C dX5_kindBy_11 (by decide) ?_
    refine vv_icmp_ne (tgt := 20) C dX5_kindBy_13 (by decide) (fun h13 => ?_) (fun h13 => ?_)
    · refine vv_iload_n C dX5_kindBy_20 rfl 0 rfl ?_
      refine vv_bipush (v := (117)) C dX5_kindBy_21 (by decide) ?_
      refine vv_icmp_ne (tgt := 30) C dX5_kindBy_23 (by decide) (fun h23 => ?_) (fun h23 => ?_)
      · refine vv_iload_n C dX5_kindBy_30 rfl 0 rfl ?_
        refine vv_bipush (v := (115)) C dX5_kindBy_31 (by decide) ?_
        refine vv_icmp_ne (tgt := 40) C dX5_kindBy_33 (by decide) (fun h33 => ?_) (fun h33 => ?_)
        · refine vv_iload_n C dX5_kindBy_40 rfl 0 rfl ?_
          refine vv_bipush (v := (120)) C dX5_kindBy_41 (by decide) ?_
          refine vv_icmp_ne (tgt := 50) C dX5_kindBy_43 (by decide) (fun h43 => ?_) (fun h43 => ?_)
          · refine vv_iconst (v := (-1)) C dX5_kindBy_50 (by decide) ?_
            refine vv_fret C dX5_kindBy_51 ?_
            rw [pm_kind, if_neg h3, if_neg h13, if_neg h23, if_neg h33, if_neg h43]
          · refine vv_iconst (v := (4)) C dX5_kindBy_46 (by decide) ?_
            refine vv_goto (tgt := 51) C dX5_kindBy_47 (by decide) ?_
            refine vv_fret C dX5_kindBy_51 ?_
            rw [pm_kind, if_neg h3, if_neg h13, if_neg h23, if_neg h33, if_pos h43]
        · refine vv_iconst (v := (3)) C dX5_kindBy_36 (by decide) ?_
          refine vv_goto (tgt := 51) C dX5_kindBy_37 (by decide) ?_
          refine vv_fret C dX5_kindBy_51 ?_
          rw [pm_kind, if_neg h3, if_neg h13, if_neg h23, if_pos h33]
      · refine vv_iconst (v := (2)) C dX5_kindBy_26 (by decide) ?_
        refine vv_goto (tgt := 51) C dX5_kindBy_27 (by decide) ?_
        refine vv_fret C dX5_kindBy_51 ?_
        rw [pm_kind, if_neg h3, if_neg h13, if_pos h23]
    · refine vv_iconst (v := (1)) C dX5_kindBy_16 (by decide) ?_
      refine vv_goto (tgt := 51) C dX5_kindBy_17 (by decide) ?_
      refine vv_fret C dX5_kindBy_51 ?_
      rw [pm_kind, if_neg h3, if_pos h13]
  · refine vv_iconst (v := (0)) C dX5_kindBy_6 (by decide) ?_
    refine vv_goto (tgt := 51) C dX5_kindBy_7 (by decide) ?_
    refine vv_fret C dX5_kindBy_51 ?_
    rw [pm_kind, if_pos h3]
theorem yk_X5_mayStand : vx_yV yX5_mayStand cX5_mayStand 3 (some .boolean) 2 := ⟨(tm_10 (List.mem_of_getElem? (i := 17) rfl)), (tm_1 (List.mem_of_getElem? (i := 5) rfl)), by decide +kernel, (tm_10 (List.mem_of_getElem? (i := 15) rfl)), (tm_10 (List.mem_of_getElem? (i := 16) rfl))⟩
set_option maxHeartbeats 4000000 in
set_option maxRecDepth 100000 in
theorem kk_X5_mayStand (l : Launch) (g : vx_G) (S : vx_St) (i : Nat) (hi : i < 12) (q : Int32) : vx_M l g yX5_mayStand cX5_mayStand 3 (some .boolean) (vx_R 1 22) [.ref (g.2.2.1 35), .int (nI i), .int q] S (vx_pf (vx_i (pm_may (S.1 46) (S.1 35 0) i q)) S) := by
  refine vx_M.intro (by decide) (Nat.le_of_ble_eq_true rfl) ?_
  intro p e s m args below meth c C
  refine vv_iload_n C dX5_mayStand_0 rfl 1 rfl ?_
  rcases (show i = 0 ∨ i = 1 ∨ i = 2 ∨ i = 3 ∨ i = 4 ∨ 5 ≤ i by omega) with rfl | rfl | rfl | rfl | rfl | h6
  · refine vv_tableIn (tgt := 36) C dX5_mayStand_1 (by decide) (by decide) rfl (by decide) ?_
    refine vv_iload_n C dX5_mayStand_36 rfl 2 rfl ?_
    refine vv_cS_F C (kk_X5_kindBy l g _ _) yk_X5_kindBy (tm_10 (List.mem_of_getElem? (i := 19) rfl)) (by decide) rfl (Nat.le_of_ble_eq_true rfl) rfl dX5_mayStand_37 ?_
    refine vv_iconst (v := (-1)) C dX5_mayStand_40 (by decide) ?_
    refine vv_icmp_eq (tgt := 48) C dX5_mayStand_41 (by decide) (fun h41 => ?_) (fun h41 => ?_)
    · refine vv_iconst (v := (0)) C dX5_mayStand_48 (by decide) ?_
      refine vv_fzret C dX5_mayStand_49 rfl ?_
      simp [vx_i, pm_may, h41]
    · refine vv_iconst (v := (1)) C dX5_mayStand_44 (by decide) ?_
      refine vv_goto (tgt := 49) C dX5_mayStand_45 (by decide) ?_
      refine vv_fzret C dX5_mayStand_49 rfl ?_
      simp [vx_i, pm_may, h41]
  · refine vv_tableIn (tgt := 50) C dX5_mayStand_1 (by decide) (by decide) rfl (by decide) ?_
    refine vv_iload_n C dX5_mayStand_50 rfl 2 rfl ?_
    refine vv_bipush (v := (45)) C dX5_mayStand_51 (by decide) ?_
    refine vv_icmp_eq (tgt := 72) C dX5_mayStand_53 (by decide) (fun h53 => ?_) (fun h53 => ?_)
    · refine vv_iconst (v := (1)) C dX5_mayStand_72 (by decide) ?_
      refine vv_goto (tgt := 77) C dX5_mayStand_73 (by decide) ?_
      refine vv_fzret C dX5_mayStand_77 rfl ?_
      simp [vx_i, pm_may, h53]
    · refine vv_iload_n C dX5_mayStand_56 rfl 2 rfl ?_
      refine vv_bipush (v := (48)) C dX5_mayStand_57 (by decide) ?_
      refine vv_bipush (v := (47)) C dX5_mayStand_59 (by decide) ?_
      refine vv_aload_n C dX5_mayStand_61 rfl 0 rfl ?_
      refine vv_getI C (a := 35) (k := 0) (o := 0) inlX5 rfl rfl rfl (by decide) rfl (tm_10 (List.mem_of_getElem? (i := 18) rfl)) dX5_mayStand_62 ?_
      refine vv_iadd C dX5_mayStand_65 ?_
      refine vv_cS_F C (kk_X5_within l g _ _ _ _) yk_X5_within (tm_10 (List.mem_of_getElem? (i := 22) rfl)) (by decide) rfl (Nat.le_of_ble_eq_true rfl) rfl dX5_mayStand_66 ?_
      refine vv_ifb_eq (tgt := 76) C dX5_mayStand_69 (by decide) (fun h69 => ?_) (fun h69 => ?_)
      · refine vv_iconst (v := (0)) C dX5_mayStand_76 (by decide) ?_
        refine vv_fzret C dX5_mayStand_77 rfl ?_
        simp [vx_i, pm_may, h53, h69]
      · refine vv_iconst (v := (1)) C dX5_mayStand_72 (by decide) ?_
        refine vv_goto (tgt := 77) C dX5_mayStand_73 (by decide) ?_
        refine vv_fzret C dX5_mayStand_77 rfl ?_
        simp [vx_i, pm_may, h53, h69]
  · refine vv_tableIn (tgt := 78) C dX5_mayStand_1 (by decide) (by decide) rfl (by decide) ?_
    refine vv_iload_n C dX5_mayStand_78 rfl 2 rfl ?_
    refine vv_bipush (v := (48)) C dX5_mayStand_79 (by decide) ?_
    refine vv_bipush (v := (56)) C dX5_mayStand_81 (by decide) ?_
    refine vv_cS_F C (kk_X5_within l g _ _ _ _) yk_X5_within (tm_10 (List.mem_of_getElem? (i := 22) rfl)) (by decide) rfl (Nat.le_of_ble_eq_true rfl) rfl dX5_mayStand_83 ?_
    refine vv_fzret C dX5_mayStand_86 (vx_i_b _) ?_
    rfl
  · refine vv_tableIn (tgt := 87) C dX5_mayStand_1 (by decide) (by decide) rfl (by decide) ?_
    refine vv_iload_n C dX5_mayStand_87 rfl 2 rfl ?_
    refine vv_bipush (v := (49)) C dX5_mayStand_88 (by decide) ?_
    refine vv_bipush (v := (57)) C dX5_mayStand_90 (by decide) ?_
    refine vv_cS_F C (kk_X5_within l g _ _ _ _) yk_X5_within (tm_10 (List.mem_of_getElem? (i := 22) rfl)) (by decide) rfl (Nat.le_of_ble_eq_true rfl) rfl dX5_mayStand_92 ?_
    refine vv_ifb_eq (tgt := 112) C dX5_mayStand_95 (by decide) (fun h95 => ?_) (fun h95 => ?_)
    · refine vv_iconst (v := (0)) C dX5_mayStand_112 (by decide) ?_
      refine vv_fzret C dX5_mayStand_113 rfl ?_
      simp [vx_i, pm_may, h95]
    · refine vv_iload_n C dX5_mayStand_98 rfl 2 rfl ?_
      refine vv_aload_n C dX5_mayStand_99 rfl 0 rfl ?_
      refine vv_gR C (a := 35) (k := 21) (b := 46) inlX5 rfl rfl rfl rfl (by decide) rfl (tm_4 (List.mem_of_getElem? (i := 7) rfl)) dX5_mayStand_100 ?_
      refine vv_iconst (v := (nI 2)) C dX5_mayStand_103 (by decide) ?_
      refine vv_baldN C (a := 46) rfl (by omega) (by decide) dX5_mayStand_104 ?_
      refine vv_icmp_le (tgt := 112) C dX5_mayStand_105 (by decide) (fun h105 => ?_) (fun h105 => ?_)
      · have g105 := pu_le h105
        refine vv_iconst (v := (0)) C dX5_mayStand_112 (by decide) ?_
        refine vv_fzret C dX5_mayStand_113 rfl ?_
        simp [vx_i, pm_may, h95, h105, g105]
      · have g105 := pu_nle h105
        refine vv_iconst (v := (1)) C dX5_mayStand_108 (by decide) ?_
        refine vv_goto (tgt := 113) C dX5_mayStand_109 (by decide) ?_
        refine vv_fzret C dX5_mayStand_113 rfl ?_
        simp [vx_i, pm_may, h95, h105, g105]
  · refine vv_tableIn (tgt := 114) C dX5_mayStand_1 (by decide) (by decide) rfl (by decide) ?_
    refine vv_iload_n C dX5_mayStand_114 rfl 2 rfl ?_
    refine vv_bipush (v := (49)) C dX5_mayStand_115 (by decide) ?_
    refine vv_bipush (v := (57)) C dX5_mayStand_117 (by decide) ?_
    refine vv_cS_F C (kk_X5_within l g _ _ _ _) yk_X5_within (tm_10 (List.mem_of_getElem? (i := 22) rfl)) (by decide) rfl (Nat.le_of_ble_eq_true rfl) rfl dX5_mayStand_119 ?_
    refine vv_fzret C dX5_mayStand_122 (vx_i_b _) ?_
    rfl
  · refine vv_tableOut (tgt := 123) C dX5_mayStand_1 (Or.inr (by rw [nI_toInt (by omega)]; omega)) (by decide) ?_
    refine vv_iload_n C dX5_mayStand_123 rfl 1 rfl ?_
    refine vv_iconst (v := (nI 5)) C dX5_mayStand_124 (by decide) ?_
    refine vv_icmp_ne (tgt := 143) C dX5_mayStand_125 (by decide) (fun h125 => ?_) (fun h125 => ?_)
    · rw [nI_eq (by omega) (by omega)] at h125
      refine vv_iconst (v := (0)) C dX5_mayStand_143 (by decide) ?_
      refine vv_fzret C dX5_mayStand_144 rfl ?_
      simp only [pm_may, show ¬ i = 0 by omega, show ¬ i = 1 by omega, show ¬ i = 2 by omega, show ¬ i = 3 by omega, show ¬ i = 4 by omega, h125, if_false]; rfl
    · rw [nI_eq (by omega) (by omega)] at h125
      subst h125
      refine vv_iload_n C dX5_mayStand_128 rfl 2 rfl ?_
      refine vv_bipush (v := (48)) C dX5_mayStand_129 (by decide) ?_
      refine vv_bipush (v := (57)) C dX5_mayStand_131 (by decide) ?_
      refine vv_cS_F C (kk_X5_within l g _ _ _ _) yk_X5_within (tm_10 (List.mem_of_getElem? (i := 22) rfl)) (by decide) rfl (Nat.le_of_ble_eq_true rfl) rfl dX5_mayStand_133 ?_
      refine vv_ifb_eq (tgt := 143) C dX5_mayStand_136 (by decide) (fun h136 => ?_) (fun h136 => ?_)
      · refine vv_iconst (v := (0)) C dX5_mayStand_143 (by decide) ?_
        refine vv_fzret C dX5_mayStand_144 rfl ?_
        simp [vx_i, pm_may, h136]
      · refine vv_iconst (v := (1)) C dX5_mayStand_139 (by decide) ?_
        refine vv_goto (tgt := 144) C dX5_mayStand_140 (by decide) ?_
        refine vv_fzret C dX5_mayStand_144 rfl ?_
        simp [vx_i, pm_may, h136]
theorem yk_X5_faultNow : vx_yV yX5_faultNow cX5_faultNow 2 (some .int) 0 := ⟨(tm_10 (List.mem_of_getElem? (i := 13) rfl)), (tm_1 (List.mem_of_getElem? (i := 5) rfl)), by decide +kernel, (tm_10 (List.mem_of_getElem? (i := 11) rfl)), (tm_10 (List.mem_of_getElem? (i := 12) rfl))⟩
set_option maxHeartbeats 4000000 in
set_option maxRecDepth 100000 in
theorem kk_X5_faultNow (l : Launch) (g : vx_G) (S : vx_St) (z : Nat) (hz : S.1 35 20 = nI z) (hz12 : z ≤ 12) : vx_M l g yX5_faultNow cX5_faultNow 2 (some .int) (vx_R 2 44) [.ref (g.2.2.1 35)] S (vx_pf (nI (pu_fst (fun k => pm_may (S.1 46) (S.1 35 0) k (S.1 46 k)) z)) S) := by
  refine vx_M.intro (by decide) (Nat.le_of_ble_eq_true rfl) ?_
  intro p e s m args below meth c C
  have lp2 : ∀ (fu : Nat) (i : Nat), (z - i < fu ∧ i ≤ z ∧ ∀ j, j < i → (fun k => pm_may (S.1 46) (S.1 35 0) k (S.1 46 k)) j = true) → vx_V p l e (vx_R 2 44) s m args below meth c (MQ below (vx_Q g (vx_pf (nI (pu_fst (fun k => pm_may (S.1 46) (S.1 35 0) k (S.1 46 k)) z)) S)) args s 0 0 (vx_A g)) g 2 2 [(0, .ref (g.2.2.1 35)), (1, .int (nI i))] [] (S) := by
    intro fu
    induction fu with
    | zero =>
      intro i hfu
      exact absurd hfu.1 (by omega)
    | succ fu ih =>
      intro i hfu
      obtain ⟨hf1, hf2, hf3⟩ := hfu
      refine vv_iload_n C dX5_faultNow_2 rfl 1 rfl ?_
      refine vv_aload_n C dX5_faultNow_3 rfl 0 rfl ?_
      refine vv_getI C (a := 35) (k := 20) (o := 0) inlX5 rfl rfl rfl (by decide) rfl (tm_5 (List.mem_of_getElem? (i := 7) rfl)) dX5_faultNow_4 ?_
      refine vv_icmp_ge (tgt := 30) C dX5_faultNow_7 (by decide) (fun h7 => ?_) (fun h7 => ?_)
      · have hge := pu_geT hz (by omega) (by omega) h7
        obtain rfl : z = i := by omega
        refine vv_iload_n C dX5_faultNow_30 rfl 1 rfl ?_
        refine vv_fret C dX5_faultNow_31 ?_
        rw [pu_fst_all z hf3]
      · have hlt := pu_geF hz (by omega) (by omega) h7
        refine vv_aload_n C dX5_faultNow_10 rfl 0 rfl ?_
        refine vv_iload_n C dX5_faultNow_11 rfl 1 rfl ?_
        refine vv_aload_n C dX5_faultNow_12 rfl 0 rfl ?_
        refine vv_gR C (a := 35) (k := 21) (b := 46) inlX5 rfl rfl rfl rfl (by decide) rfl (tm_4 (List.mem_of_getElem? (i := 7) rfl)) dX5_faultNow_13 ?_
        refine vv_iload_n C dX5_faultNow_16 rfl 1 rfl ?_
        refine vv_baldN C (a := 46) rfl (by omega) (by decide) dX5_faultNow_17 ?_
        refine vv_cV_F C (a := 35) (kk_X5_mayStand l g _ _ (by omega) _) yk_X5_mayStand (tm_10 (List.mem_of_getElem? (i := 14) rfl)) rfl rfl rfl (by decide) rfl (Nat.le_of_ble_eq_true rfl) rfl dX5_faultNow_18 ?_
        refine vv_ifb_eq (tgt := 30) C dX5_faultNow_21 (by decide) (fun h21 => ?_) (fun h21 => ?_)
        · refine vv_iload_n C dX5_faultNow_30 rfl 1 rfl ?_
          refine vv_fret C dX5_faultNow_31 ?_
          rw [pu_fst_at hf3 h21 z hlt]
        · refine vv_iincN (L' := [_, _]) (j := 1) C dX5_faultNow_24 rfl (by decide) rfl ?_
          refine vv_goto (tgt := 2) C dX5_faultNow_27 (by decide) ?_
          refine vv_sub (L' := [_, _]) [1, 0] rfl ?_
          exact ih (i + 1) ⟨by omega, by omega, fun j hj => by rcases Nat.lt_or_ge j i with q | q; exact hf3 j q; rw [show j = i by omega]; exact h21⟩
  refine vv_iconst (v := (nI 0)) C dX5_faultNow_0 (by decide) ?_
  refine vv_istore_n (i := 1) (L' := [_, _]) C dX5_faultNow_1 rfl (by decide) rfl ?_
  refine vv_sub (L' := [_, _]) [1, 0] rfl ?_
  exact lp2 (z + 1) 0 ⟨by omega, by omega, fun j hj => absurd hj (Nat.not_lt_zero j)⟩
theorem yk_X5_fault : vx_yV yX5_fault cX5_fault 1 (some .int) 0 := ⟨(tm_10 (List.mem_of_getElem? (i := 9) rfl)), (tm_1 (List.mem_of_getElem? (i := 5) rfl)), by decide +kernel, (tm_10 (List.mem_of_getElem? (i := 7) rfl)), (tm_10 (List.mem_of_getElem? (i := 8) rfl))⟩
set_option maxHeartbeats 4000000 in
set_option maxRecDepth 100000 in
theorem kk_X5_fault (l : Launch) (g : vx_G) (S : vx_St) (z : Nat) (hz : S.1 35 20 = nI z) (hz12 : z ≤ 12) : vx_M l g yX5_fault cX5_fault 1 (some .int) (vx_R 3 65) [.ref (g.2.2.1 35)] S (vx_pf (nI (pu_fst (fun k => pm_may (S.1 46) (S.1 35 0) k (S.1 46 k)) z)) S) := by
  refine vx_M.intro (by decide) (Nat.le_of_ble_eq_true rfl) ?_
  intro p e s m args below meth c C
  refine vv_aload_n C dX5_fault_0 rfl 0 rfl ?_
  refine vv_cV_F C (a := 35) (kk_X5_faultNow l g _ z hz hz12) yk_X5_faultNow (tm_10 (List.mem_of_getElem? (i := 10) rfl)) rfl rfl rfl (by decide) rfl (Nat.le_of_ble_eq_true rfl) rfl dX5_fault_1 ?_
  refine vv_fret C dX5_fault_4 ?_
  rfl
theorem yk_X5_isHouse : vx_yV yX5_isHouse cX5_isHouse 2 (some .boolean) 1 := ⟨(tm_13 (List.mem_of_getElem? (i := 2) rfl)), (tm_1 (List.mem_of_getElem? (i := 5) rfl)), by decide +kernel, (tm_13 (List.mem_of_getElem? (i := 0) rfl)), (tm_13 (List.mem_of_getElem? (i := 1) rfl))⟩
set_option maxHeartbeats 4000000 in
set_option maxRecDepth 100000 in
theorem kk_X5_isHouse (l : Launch) (g : vx_G) (S : vx_St) (h : Int32) (n : Nat) (hn : S.1 35 0 = nI n) (hn8 : n ≤ 8) : vx_M l g yX5_isHouse cX5_isHouse 2 (some .boolean) (vx_R 1 22) [.ref (g.2.2.1 35), .int h] S (vx_pf (vx_i (pu_hq h (S.1 35 0))) S) := by
  refine vx_M.intro (by decide) (Nat.le_of_ble_eq_true rfl) ?_
  intro p e s m args below meth c C
  refine vv_iload_n C dX5_isHouse_0 rfl 1 rfl ?_
  refine vv_iconst (v := (0)) C dX5_isHouse_1 (by decide) ?_
  refine vv_aload_n C dX5_isHouse_2 rfl 0 rfl ?_
  refine vv_getI C (a := 35) (k := 0) (o := 0) inlX5 rfl rfl rfl (by decide) rfl (tm_10 (List.mem_of_getElem? (i := 18) rfl)) dX5_isHouse_3 ?_
  refine vv_iconst (v := (1)) C dX5_isHouse_6 (by decide) ?_
  refine vv_isub C dX5_isHouse_7 ?_
  refine vv_cS_F C (kk_X5_within l g _ _ _ _) yk_X5_within (tm_10 (List.mem_of_getElem? (i := 22) rfl)) (by decide) rfl (Nat.le_of_ble_eq_true rfl) rfl dX5_isHouse_8 ?_
  refine vv_fzret C dX5_isHouse_11 (vx_i_b _) ?_
  rw [← pm_hq hn hn8]; rfl
theorem yk_X5_houseNow : vx_yV yX5_houseNow cX5_houseNow 3 (some .int) 2 := ⟨(tm_13 (List.mem_of_getElem? (i := 6) rfl)), (tm_1 (List.mem_of_getElem? (i := 5) rfl)), by decide +kernel, (tm_13 (List.mem_of_getElem? (i := 4) rfl)), (tm_13 (List.mem_of_getElem? (i := 5) rfl))⟩
set_option maxHeartbeats 4000000 in
set_option maxRecDepth 100000 in
theorem kk_X5_houseNow (l : Launch) (g : vx_G) (S : vx_St) (k : Nat) (hk : k < 8) (w : Int32) : vx_M l g yX5_houseNow cX5_houseNow 3 (some .int) (vx_R 1 21) [.ref (g.2.2.1 35), .int (nI k), .int w] S (vx_pf (pm_hn (pu_hm S) (S.1 42) (S.1 43) (S.1 35 9) k w) S) := by
  refine vx_M.intro (by decide) (Nat.le_of_ble_eq_true rfl) ?_
  intro p e s m args below meth c C
  refine vv_iload_n C dX5_houseNow_0 rfl 2 rfl ?_
  rcases pu_sw w 8 (by omega) with ⟨j, hj, hw⟩ | hw
  rcases (show j = 0 ∨ j = 1 ∨ j = 2 ∨ j = 3 ∨ j = 4 ∨ j = 5 ∨ j = 6 ∨ j = 7 by omega) with rfl | rfl | rfl | rfl | rfl | rfl | rfl | rfl
  · subst hw
    refine vv_tableIn (tgt := 48) C dX5_houseNow_1 (by decide) (by decide) rfl (by decide) ?_
    refine vv_aload_n C dX5_houseNow_48 rfl 0 rfl ?_
    refine vv_gR C (a := 35) (k := 1) (b := 36) inlX5 rfl rfl rfl rfl (by decide) rfl (tm_3 (List.mem_of_getElem? (i := 18) rfl)) dX5_houseNow_49 ?_
    refine vv_iload_n C dX5_houseNow_52 rfl 1 rfl ?_
    refine vv_ialdN C (a := 36) rfl (by omega) (by decide) dX5_houseNow_53 ?_
    refine vv_fret C dX5_houseNow_54 ?_
    rw [pm_hn, if_pos rfl]
    try rfl
  · subst hw
    refine vv_tableIn (tgt := 55) C dX5_houseNow_1 (by decide) (by decide) rfl (by decide) ?_
    refine vv_aload_n C dX5_houseNow_55 rfl 0 rfl ?_
    refine vv_gR C (a := 35) (k := 2) (b := 37) inlX5 rfl rfl rfl rfl (by decide) rfl (tm_3 (List.mem_of_getElem? (i := 19) rfl)) dX5_houseNow_56 ?_
    refine vv_iload_n C dX5_houseNow_59 rfl 1 rfl ?_
    refine vv_ialdN C (a := 37) rfl (by omega) (by decide) dX5_houseNow_60 ?_
    refine vv_fret C dX5_houseNow_61 ?_
    rw [pm_hn, if_neg (show ¬ nI 1 = nI 0 by decide), if_pos rfl]
    try rfl
  · subst hw
    refine vv_tableIn (tgt := 62) C dX5_houseNow_1 (by decide) (by decide) rfl (by decide) ?_
    refine vv_aload_n C dX5_houseNow_62 rfl 0 rfl ?_
    refine vv_gR C (a := 35) (k := 3) (b := 38) inlX5 rfl rfl rfl rfl (by decide) rfl (tm_3 (List.mem_of_getElem? (i := 20) rfl)) dX5_houseNow_63 ?_
    refine vv_iload_n C dX5_houseNow_66 rfl 1 rfl ?_
    refine vv_ialdN C (a := 38) rfl (by omega) (by decide) dX5_houseNow_67 ?_
    refine vv_fret C dX5_houseNow_68 ?_
    rw [pm_hn, if_neg (show ¬ nI 2 = nI 0 by decide), if_neg (show ¬ nI 2 = nI 1 by decide), if_pos rfl]
    try rfl
  · subst hw
    refine vv_tableIn (tgt := 69) C dX5_houseNow_1 (by decide) (by decide) rfl (by decide) ?_
    refine vv_aload_n C dX5_houseNow_69 rfl 0 rfl ?_
    refine vv_gR C (a := 35) (k := 4) (b := 39) inlX5 rfl rfl rfl rfl (by decide) rfl (tm_3 (List.mem_of_getElem? (i := 21) rfl)) dX5_houseNow_70 ?_
    refine vv_iload_n C dX5_houseNow_73 rfl 1 rfl ?_
    refine vv_ialdN C (a := 39) rfl (by omega) (by decide) dX5_houseNow_74 ?_
    refine vv_fret C dX5_houseNow_75 ?_
    rw [pm_hn, if_neg (show ¬ nI 3 = nI 0 by decide), if_neg (show ¬ nI 3 = nI 1 by decide), if_neg (show ¬ nI 3 = nI 2 by decide), if_pos rfl]
    try rfl
  · subst hw
    refine vv_tableIn (tgt := 76) C dX5_houseNow_1 (by decide) (by decide) rfl (by decide) ?_
    refine vv_aload_n C dX5_houseNow_76 rfl 0 rfl ?_
    refine vv_gR C (a := 35) (k := 5) (b := 40) inlX5 rfl rfl rfl rfl (by decide) rfl (tm_3 (List.mem_of_getElem? (i := 22) rfl)) dX5_houseNow_77 ?_
    refine vv_iload_n C dX5_houseNow_80 rfl 1 rfl ?_
    refine vv_ialdN C (a := 40) rfl (by omega) (by decide) dX5_houseNow_81 ?_
    refine vv_fret C dX5_houseNow_82 ?_
    rw [pm_hn, if_neg (show ¬ nI 4 = nI 0 by decide), if_neg (show ¬ nI 4 = nI 1 by decide), if_neg (show ¬ nI 4 = nI 2 by decide), if_neg (show ¬ nI 4 = nI 3 by decide), if_pos rfl]
    try rfl
  · subst hw
    refine vv_tableIn (tgt := 83) C dX5_houseNow_1 (by decide) (by decide) rfl (by decide) ?_
    refine vv_aload_n C dX5_houseNow_83 rfl 0 rfl ?_
    refine vv_gR C (a := 35) (k := 6) (b := 41) inlX5 rfl rfl rfl rfl (by decide) rfl (tm_3 (List.mem_of_getElem? (i := 23) rfl)) dX5_houseNow_84 ?_
    refine vv_iload_n C dX5_houseNow_87 rfl 1 rfl ?_
    refine vv_ialdN C (a := 41) rfl (by omega) (by decide) dX5_houseNow_88 ?_
    refine vv_fret C dX5_houseNow_89 ?_
    rw [pm_hn, if_neg (show ¬ nI 5 = nI 0 by decide), if_neg (show ¬ nI 5 = nI 1 by decide), if_neg (show ¬ nI 5 = nI 2 by decide), if_neg (show ¬ nI 5 = nI 3 by decide), if_neg (show ¬ nI 5 = nI 4 by decide), if_pos rfl]
    try rfl
  · subst hw
    refine vv_tableIn (tgt := 90) C dX5_houseNow_1 (by decide) (by decide) rfl (by decide) ?_
    refine vv_aload_n C dX5_houseNow_90 rfl 0 rfl ?_
    refine vv_gR C (a := 35) (k := 7) (b := 42) inlX5 rfl rfl rfl rfl (by decide) rfl (tm_4 (List.mem_of_getElem? (i := 0) rfl)) dX5_houseNow_91 ?_
    refine vv_iload_n C dX5_houseNow_94 rfl 1 rfl ?_
    refine vv_ialdN C (a := 42) rfl (by omega) (by decide) dX5_houseNow_95 ?_
    refine vv_fret C dX5_houseNow_96 ?_
    rw [pm_hn, if_neg (show ¬ nI 6 = nI 0 by decide), if_neg (show ¬ nI 6 = nI 1 by decide), if_neg (show ¬ nI 6 = nI 2 by decide), if_neg (show ¬ nI 6 = nI 3 by decide), if_neg (show ¬ nI 6 = nI 4 by decide), if_neg (show ¬ nI 6 = nI 5 by decide), if_pos rfl]
    try rfl
  · subst hw
    refine vv_tableIn (tgt := 97) C dX5_houseNow_1 (by decide) (by decide) rfl (by decide) ?_
    refine vv_aload_n C dX5_houseNow_97 rfl 0 rfl ?_
    refine vv_gR C (a := 35) (k := 8) (b := 43) inlX5 rfl rfl rfl rfl (by decide) rfl (tm_4 (List.mem_of_getElem? (i := 1) rfl)) dX5_houseNow_98 ?_
    refine vv_iload_n C dX5_houseNow_101 rfl 1 rfl ?_
    refine vv_ialdN C (a := 43) rfl (by omega) (by decide) dX5_houseNow_102 ?_
    refine vv_fret C dX5_houseNow_103 ?_
    rw [pm_hn, if_neg (show ¬ nI 7 = nI 0 by decide), if_neg (show ¬ nI 7 = nI 1 by decide), if_neg (show ¬ nI 7 = nI 2 by decide), if_neg (show ¬ nI 7 = nI 3 by decide), if_neg (show ¬ nI 7 = nI 4 by decide), if_neg (show ¬ nI 7 = nI 5 by decide), if_neg (show ¬ nI 7 = nI 6 by decide), if_pos rfl]
    try rfl
  · refine vv_tableOut (tgt := 104) C dX5_houseNow_1 hw (by decide) ?_
    refine vv_aload_n C dX5_houseNow_104 rfl 0 rfl ?_
    refine vv_getI C (a := 35) (k := 9) (o := 0) inlX5 rfl rfl rfl (by decide) rfl (tm_12 (List.mem_of_getElem? (i := 8) rfl)) dX5_houseNow_105 ?_
    refine vv_iload_n C dX5_houseNow_108 rfl 1 rfl ?_
    refine vv_cS_F C (kk_X5_has l g _ _ _) yk_X5_has (tm_13 (List.mem_of_getElem? (i := 7) rfl)) (by decide) rfl (Nat.le_of_ble_eq_true rfl) rfl dX5_houseNow_109 ?_
    refine vv_ifb_eq (tgt := 119) C dX5_houseNow_112 (by decide) (fun h112 => ?_) (fun h112 => ?_)
    · refine vv_iconst (v := (0)) C dX5_houseNow_119 (by decide) ?_
      refine vv_fret C dX5_houseNow_120 ?_
      have ne : ∀ j : Nat, j < 8 → ¬ w = nI j := fun j hj e => by rw [e, nI_toInt (by omega)] at hw; omega
      rw [pm_hn, if_neg (ne 0 (by decide)), if_neg (ne 1 (by decide)), if_neg (ne 2 (by decide)), if_neg (ne 3 (by decide)), if_neg (ne 4 (by decide)), if_neg (ne 5 (by decide)), if_neg (ne 6 (by decide)), if_neg (ne 7 (by decide)), h112]; rfl
    · refine vv_iconst (v := (1)) C dX5_houseNow_115 (by decide) ?_
      refine vv_goto (tgt := 120) C dX5_houseNow_116 (by decide) ?_
      refine vv_fret C dX5_houseNow_120 ?_
      have ne : ∀ j : Nat, j < 8 → ¬ w = nI j := fun j hj e => by rw [e, nI_toInt (by omega)] at hw; omega
      rw [pm_hn, if_neg (ne 0 (by decide)), if_neg (ne 1 (by decide)), if_neg (ne 2 (by decide)), if_neg (ne 3 (by decide)), if_neg (ne 4 (by decide)), if_neg (ne 5 (by decide)), if_neg (ne 6 (by decide)), if_neg (ne 7 (by decide)), h112]; rfl
theorem yk_X5_about : vx_yV yX5_about cX5_about 3 (some .int) 2 := ⟨(tm_12 (List.mem_of_getElem? (i := 22) rfl)), (tm_1 (List.mem_of_getElem? (i := 5) rfl)), by decide +kernel, (tm_12 (List.mem_of_getElem? (i := 20) rfl)), (tm_12 (List.mem_of_getElem? (i := 21) rfl))⟩
set_option maxHeartbeats 4000000 in
set_option maxRecDepth 100000 in
theorem kk_X5_about (l : Launch) (g : vx_G) (S : vx_St) (h w : Int32) (n : Nat) (hn : S.1 35 0 = nI n) (hn8 : n ≤ 8) : vx_M l g yX5_about cX5_about 3 (some .int) (vx_R 2 43) [.ref (g.2.2.1 35), .int h, .int w] S (vx_pf (aw_about (S.1 35 0) (pu_hm S) (S.1 42) (S.1 43) (S.1 35 9) h w) S) := by
  refine vx_M.intro (by decide) (Nat.le_of_ble_eq_true rfl) ?_
  intro p e s m args below meth c C
  refine vv_aload_n C dX5_about_0 rfl 0 rfl ?_
  refine vv_iload_n C dX5_about_1 rfl 1 rfl ?_
  refine vv_cV_F C (a := 35) (kk_X5_isHouse l g _ _ n hn hn8) yk_X5_isHouse (tm_12 (List.mem_of_getElem? (i := 23) rfl)) rfl rfl rfl (by decide) rfl (Nat.le_of_ble_eq_true rfl) rfl dX5_about_2 ?_
  refine vv_ifb_ne (tgt := 13) C dX5_about_5 (by decide) (fun h5 => ?_) (fun h5 => ?_)
  · have hq := h5
    obtain ⟨k, hk, rfl⟩ := pu_hq_k hn (by omega) h5
    refine vv_iload_n C dX5_about_13 rfl 2 rfl ?_
    refine vv_iconst (v := (0)) C dX5_about_14 (by decide) ?_
    refine vv_bipush (v := (8)) C dX5_about_15 (by decide) ?_
    refine vv_cS_F C (kk_X5_within l g _ _ _ _) yk_X5_within (tm_10 (List.mem_of_getElem? (i := 22) rfl)) (by decide) rfl (Nat.le_of_ble_eq_true rfl) rfl dX5_about_17 ?_
    refine vv_ifb_eq (tgt := 32) C dX5_about_20 (by decide) (fun h20 => ?_) (fun h20 => ?_)
    · refine vv_bipush (v := (-102)) C dX5_about_32 (by decide) ?_
      refine vv_fret C dX5_about_34 ?_
      have ne : ∀ j : Nat, j < 9 → ¬ w = nI j := fun j hj e => by
        rw [e] at h20
        rcases (show j = 0 ∨ j = 1 ∨ j = 2 ∨ j = 3 ∨ j = 4 ∨ j = 5 ∨ j = 6 ∨ j = 7 ∨ j = 8 by omega) with rfl | rfl | rfl | rfl | rfl | rfl | rfl | rfl | rfl <;> exact absurd h20 (by decide)
      rw [aw_about, if_neg (show ¬ pu_hq (nI k) (S.1 35 0) = false by rw [hq]; decide), if_neg (ne 0 (by decide)), if_neg (ne 1 (by decide)), if_neg (ne 2 (by decide)), if_neg (ne 3 (by decide)), if_neg (ne 4 (by decide)), if_neg (ne 5 (by decide)), if_neg (ne 6 (by decide)), if_neg (ne 7 (by decide)), if_neg (ne 8 (by decide))]
    · refine vv_aload_n C dX5_about_23 rfl 0 rfl ?_
      refine vv_iload_n C dX5_about_24 rfl 1 rfl ?_
      refine vv_iload_n C dX5_about_25 rfl 2 rfl ?_
      refine vv_cV_F C (a := 35) (kk_X5_houseNow l g _ k (by omega) _) yk_X5_houseNow (tm_13 (List.mem_of_getElem? (i := 3) rfl)) rfl rfl rfl (by decide) rfl (Nat.le_of_ble_eq_true rfl) rfl dX5_about_26 ?_
      refine vv_goto (tgt := 34) C dX5_about_29 (by decide) ?_
      refine vv_fret C dX5_about_34 ?_
      rcases pu_sw w 9 (by omega) with ⟨j, hj, rfl⟩ | hw
      · rw [aw_about, if_neg (show ¬ pu_hq (nI k) (S.1 35 0) = false by rw [hq]; decide), nI_clamp (by omega)]
        rcases (show j = 0 ∨ j = 1 ∨ j = 2 ∨ j = 3 ∨ j = 4 ∨ j = 5 ∨ j = 6 ∨ j = 7 ∨ j = 8 by omega) with rfl | rfl | rfl | rfl | rfl | rfl | rfl | rfl | rfl <;> rfl
      · exfalso
        simp only [pm_wi, Bool.and_eq_true, decide_eq_true_eq, Int32.le_iff_toInt_le] at h20
        have e8 : (8 : Int32).toInt = 8 := by decide
        have e0 : (0 : Int32).toInt = 0 := by decide
        omega
  · refine vv_bipush (v := (-101)) C dX5_about_8 (by decide) ?_
    refine vv_goto (tgt := 34) C dX5_about_10 (by decide) ?_
    refine vv_fret C dX5_about_34 ?_
    rw [aw_about, if_pos h5]
