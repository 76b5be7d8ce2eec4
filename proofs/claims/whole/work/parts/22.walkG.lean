theorem yk_X5_within : vx_yS yX5_within cX5_within 3 (some .boolean) 3 := ⟨(tm_11 (List.mem_of_getElem? (i := 0) rfl)), (tm_1 (List.mem_of_getElem? (i := 5) rfl)), by decide +kernel, (tm_10 (List.mem_of_getElem? (i := 23) rfl))⟩
set_option maxHeartbeats 4000000 in
set_option maxRecDepth 100000 in
theorem kk_X5_within (l : Launch) (g : vx_G) (S : vx_St) (v lo hi : Int32) : vx_M l g yX5_within cX5_within 3 (some .boolean) (vx_R 0 0) [.int v, .int lo, .int hi] S (vx_pf (vx_i (pm_wi v lo hi)) S) := by
  refine vx_M.intro (by decide) (Nat.le_of_ble_eq_true rfl) ?_
  intro p e s m args below meth c C
  refine vv_iload_n C dX5_within_0 rfl 0 rfl ?_
  refine vv_iload_n C dX5_within_1 rfl 1 rfl ?_
  refine vv_icmp_lt (tgt := 14) C dX5_within_2 (by decide) (fun h2 => ?_) (fun h2 => ?_)
  · have g2 := pu_lt h2
    refine vv_iconst (v := (0)) C dX5_within_14 (by decide) ?_
    refine vv_fzret C dX5_within_15 rfl ?_
    simp [vx_i, pm_wi, h2, g2]
  · have g2 := pu_nlt h2
    refine vv_iload_n C dX5_within_5 rfl 0 rfl ?_
    refine vv_iload_n C dX5_within_6 rfl 2 rfl ?_
    refine vv_icmp_gt (tgt := 14) C dX5_within_7 (by decide) (fun h7 => ?_) (fun h7 => ?_)
    · have g7 := pu_lt h7
      refine vv_iconst (v := (0)) C dX5_within_14 (by decide) ?_
      refine vv_fzret C dX5_within_15 rfl ?_
      simp [vx_i, pm_wi, h2, g2, h7, g7]
    · have g7 := pu_nlt h7
      refine vv_iconst (v := (1)) C dX5_within_10 (by decide) ?_
      refine vv_goto (tgt := 15) C dX5_within_11 (by decide) ?_
      refine vv_fzret C dX5_within_15 rfl ?_
      simp [vx_i, pm_wi, h2, g2, h7, g7]
theorem yk_X5_has : vx_yS yX5_has cX5_has 2 (some .boolean) 2 := ⟨(tm_13 (List.mem_of_getElem? (i := 5) rfl)), (tm_1 (List.mem_of_getElem? (i := 5) rfl)), by decide +kernel, (tm_13 (List.mem_of_getElem? (i := 4) rfl))⟩
set_option maxHeartbeats 4000000 in
set_option maxRecDepth 100000 in
theorem kk_X5_has (l : Launch) (g : vx_G) (S : vx_St) (x k : Int32) : vx_M l g yX5_has cX5_has 2 (some .boolean) (vx_R 0 0) [.int x, .int k] S (vx_pf (vx_i (pu_in x k)) S) := by
  refine vx_M.intro (by decide) (Nat.le_of_ble_eq_true rfl) ?_
  intro p e s m args below meth c C
  refine vv_iload_n C dX5_has_0 rfl 0 rfl ?_
  refine vv_iload_n C dX5_has_1 rfl 1 rfl ?_
  refine vv_ishr C dX5_has_2 ?_
  refine vv_iconst (v := (1)) C dX5_has_3 (by decide) ?_
  refine vv_iand C dX5_has_4 ?_
  refine vv_iconst (v := (1)) C dX5_has_5 (by decide) ?_
  refine vv_icmp_ne (tgt := 13) C dX5_has_6 (by decide) (fun h6 => ?_) (fun h6 => ?_)
  · refine vv_iconst (v := (0)) C dX5_has_13 (by decide) ?_
    refine vv_fzret C dX5_has_14 rfl ?_
    simp [vx_i, pm_in, h6]
  · refine vv_iconst (v := (1)) C dX5_has_9 (by decide) ?_
    refine vv_goto (tgt := 14) C dX5_has_10 (by decide) ?_
    refine vv_fzret C dX5_has_14 rfl ?_
    simp [vx_i, pm_in, h6]
theorem yk_X5_size : vx_yS yX5_size cX5_size 3 (some .int) 1 := ⟨(tm_23 (List.mem_of_getElem? (i := 11) rfl)), (tm_1 (List.mem_of_getElem? (i := 5) rfl)), by decide +kernel, (tm_23 (List.mem_of_getElem? (i := 10) rfl))⟩
set_option maxHeartbeats 4000000 in
set_option maxRecDepth 100000 in
theorem kk_X5_size (l : Launch) (g : vx_G) (S : vx_St) (x : Int32) : vx_M l g yX5_size cX5_size 3 (some .int) (vx_R 0 0) [.int x] S (vx_pf (pm_size x 8) S) := by
  refine vx_M.intro (by decide) (Nat.le_of_ble_eq_true rfl) ?_
  intro p e s m args below meth c C
  have lp4 : ∀ (fu : Nat) (i : Nat), (8 - i < fu ∧ i ≤ 8) → vx_V p l e (vx_R 0 0) s m args below meth c (MQ below (vx_Q g (vx_pf (pm_size x 8) S)) args s 0 0 (vx_A g)) g 3 4 [(0, .int x), (1, .int (pm_size x i)), (2, .int (nI i))] [] (S) := by
    intro fu
    induction fu with
    | zero =>
      intro i hfu
      exact absurd hfu.1 (by omega)
    | succ fu ih =>
      intro i hfu
      obtain ⟨hf1, hf2⟩ := hfu
      refine vv_iload_n C dX5_size_4 rfl 2 rfl ?_
      refine vv_bipush (v := (nI 8)) C dX5_size_5 (by decide) ?_
      refine vv_icmp_ge (tgt := 24) C dX5_size_7 (by decide) (fun h7 => ?_) (fun h7 => ?_)
      · have hge := pu_geT rfl (by omega) (by omega) h7
        obtain rfl : 8 = i := by omega
        refine vv_iload_n C dX5_size_24 rfl 1 rfl ?_
        refine vv_fret C dX5_size_25 ?_
        rfl
      · have hlt := pu_geF rfl (by omega) (by omega) h7
        refine vv_iload_n C dX5_size_10 rfl 1 rfl ?_
        refine vv_iload_n C dX5_size_11 rfl 0 rfl ?_
        refine vv_iload_n C dX5_size_12 rfl 2 rfl ?_
        refine vv_ishr C dX5_size_13 ?_
        refine vv_iconst (v := (1)) C dX5_size_14 (by decide) ?_
        refine vv_iand C dX5_size_15 ?_
        refine vv_iadd C dX5_size_16 ?_
        refine vv_istore_n (i := 1) (L' := [_, _, _]) C dX5_size_17 rfl (by decide) rfl ?_
        refine vv_iincN (L' := [_, _, _]) (j := 2) C dX5_size_18 rfl (by decide) rfl ?_
        refine vv_goto (tgt := 4) C dX5_size_21 (by decide) ?_
        refine vv_sub (L' := [_, _, _]) [2, 1, 0] rfl ?_
        exact ih (i + 1) ⟨by omega, by omega⟩
  refine vv_iconst (v := (0)) C dX5_size_0 (by decide) ?_
  refine vv_istore_n (i := 1) (L' := [_, _]) C dX5_size_1 rfl (by decide) rfl ?_
  refine vv_iconst (v := (nI 0)) C dX5_size_2 (by decide) ?_
  refine vv_istore_n (i := 2) (L' := [_, _, _]) C dX5_size_3 rfl (by decide) rfl ?_
  refine vv_sub (L' := [_, _, _]) [2, 1, 0] rfl ?_
  exact lp4 9 0 ⟨by omega, by omega⟩
theorem yk_X5_kindBy : vx_yS yX5_kindBy cX5_kindBy 1 (some .int) 1 := ⟨(tm_10 (List.mem_of_getElem? (i := 21) rfl)), (tm_1 (List.mem_of_getElem? (i := 5) rfl)), by decide +kernel, (tm_10 (List.mem_of_getElem? (i := 20) rfl))⟩
set_option maxHeartbeats 4000000 in
set_option maxRecDepth 100000 in
theorem kk_X5_kindBy (l : Launch) (g : vx_G) (S : vx_St) (q : Int32) : vx_M l g yX5_kindBy cX5_kindBy 1 (some .int) (vx_R 0 0) [.int q] S (vx_pf (pm_kind q) S) := by
  refine vx_M.intro (by decide) (Nat.le_of_ble_eq_true rfl) ?_
  intro p e s m args below meth c C
  refine vv_iload_n C dX5_kindBy_0 rfl 0 rfl ?_
  refine vv_bipush (v := (104)) C dX5_kindBy_1 (by decide) ?_
  refine vv_icmp_ne (tgt := 10) C dX5_kindBy_3 (by decide) (fun h3 => ?_) (fun h3 => ?_)
  · refine vv_iload_n C dX5_kindBy_10 rfl 0 rfl ?_
    refine vv_bipush (v := (99)) C dX5_kindBy_11 (by decide) ?_
    refine vv_icmp_ne (tgt := 20) C dX5_kindBy_13 (by decide) (fun h13 => ?_) (fun h13 => ?_)
    · refine vv_iload_n C dX5_kindBy_20 rfl 0 rfl ?_
      refine vv_bipush (v := (117)) C dX5_kindBy_21 (by decide) ?_
      refine vv_icmp_ne (tgt := 30) C dX5_kindBy_23 (by decide) (fun h23 => ?_) (fun h23 => ?_)
      · refine vv_iload_n C dX5_kindBy_30 rfl 0 rfl ?_
        refine vv_bipush (v := (115)) C dX5_kindBy_31 (by decide) ?_
        refine vv_icmp_ne (tgt := 40) C dX5_kindBy_33 (by decide) (fun h33 => ?_) (fun h33 => ?_)
        · refine vv_iload_n C dX5_kindBy_40 rfl 0 rfl ?_
          refine vv_bipush (v := (120)) C dX5_kindBy_41 (by decide) ?_
          refine vv_icmp_ne (tgt := 50) C dX5_kindBy_43 (by decide) (fun h43 => ?_) (fun h43 => ?_)
          · refine vv_iconst (v := (-1)) C dX5_kindBy_50 (by decide) ?_
            refine vv_fret C dX5_kindBy_51 ?_
            rw [pm_kind, if_neg h3, if_neg h13, if_neg h23, if_neg h33, if_neg h43]
          · refine vv_iconst (v := (4)) C dX5_kindBy_46 (by decide) ?_
            refine vv_goto (tgt := 51) C dX5_kindBy_47 (by decide) ?_
            refine vv_fret C dX5_kindBy_51 ?_
            rw [pm_kind, if_neg h3, if_neg h13, if_neg h23, if_neg h33, if_pos h43]
        · refine vv_iconst (v := (3)) C dX5_kindBy_36 (by decide) ?_
          refine vv_goto (tgt := 51) C dX5_kindBy_37 (by decide) ?_
          refine vv_fret C dX5_kindBy_51 ?_
          rw [pm_kind, if_neg h3, if_neg h13, if_neg h23, if_pos h33]
      · refine vv_iconst (v := (2)) C dX5_kindBy_26 (by decide) ?_
        refine vv_goto (tgt := 51) C dX5_kindBy_27 (by decide) ?_
        refine vv_fret C dX5_kindBy_51 ?_
        rw [pm_kind, if_neg h3, if_neg h13, if_pos h23]
    · refine vv_iconst (v := (1)) C dX5_kindBy_16 (by decide) ?_
      refine vv_goto (tgt := 51) C dX5_kindBy_17 (by decide) ?_
      refine vv_fret C dX5_kindBy_51 ?_
      rw [pm_kind, if_neg h3, if_pos h13]
  · refine vv_iconst (v := (0)) C dX5_kindBy_6 (by decide) ?_
    refine vv_goto (tgt := 51) C dX5_kindBy_7 (by decide) ?_
    refine vv_fret C dX5_kindBy_51 ?_
    rw [pm_kind, if_pos h3]
theorem yk_X5_mayStand : vx_yV yX5_mayStand cX5_mayStand 3 (some .boolean) 2 := ⟨(tm_10 (List.mem_of_getElem? (i := 17) rfl)), (tm_1 (List.mem_of_getElem? (i := 5) rfl)), by decide +kernel, (tm_10 (List.mem_of_getElem? (i := 15) rfl)), (tm_10 (List.mem_of_getElem? (i := 16) rfl))⟩
set_option maxHeartbeats 4000000 in
set_option maxRecDepth 100000 in
theorem kk_X5_mayStand (l : Launch) (g : vx_G) (S : vx_St) (i : Nat) (hi : i < 12) (q : Int32) : vx_M l g yX5_mayStand cX5_mayStand 3 (some .boolean) (vx_R 1 22) [.ref (g.2.2.1 35), .int (nI i), .int q] S (vx_pf (vx_i (pm_may (S.1 46) (S.1 35 0) i q)) S) := by
  refine vx_M.intro (by decide) (Nat.le_of_ble_eq_true rfl) ?_
  intro p e s m args below meth c C
  refine vv_iload_n C dX5_mayStand_0 rfl 1 rfl ?_
  rcases (show i = 0 ∨ i = 1 ∨ i = 2 ∨ i = 3 ∨ i = 4 ∨ 5 ≤ i by omega) with rfl | rfl | rfl | rfl | rfl | h6
  · refine vv_tableIn (tgt := 36) C dX5_mayStand_1 (by decide) (by decide) rfl (by decide) ?_
    refine vv_iload_n C dX5_mayStand_36 rfl 2 rfl ?_
    refine vv_cS_F C (kk_X5_kindBy l g _ _) yk_X5_kindBy (tm_10 (List.mem_of_getElem? (i := 19) rfl)) (by decide) rfl (Nat.le_of_ble_eq_true rfl) rfl dX5_mayStand_37 ?_
    refine vv_iconst (v := (-1)) C dX5_mayStand_40 (by decide) ?_
    refine vv_icmp_eq (tgt := 48) C dX5_mayStand_41 (by decide) (fun h41 => ?_) (fun h41 => ?_)
    · refine vv_iconst (v := (0)) C dX5_mayStand_48 (by decide) ?_
      refine vv_fzret C dX5_mayStand_49 rfl ?_
      simp [vx_i, pm_may, h41]
    · refine vv_iconst (v := (1)) C dX5_mayStand_44 (by decide) ?_
      refine vv_goto (tgt := 49) C dX5_mayStand_45 (by decide) ?_
      refine vv_fzret C dX5_mayStand_49 rfl ?_
      simp [vx_i, pm_may, h41]
  · refine vv_tableIn (tgt := 50) C dX5_mayStand_1 (by decide) (by decide) rfl (by decide) ?_
    refine vv_iload_n C dX5_mayStand_50 rfl 2 rfl ?_
    refine vv_bipush (v := (45)) C dX5_mayStand_51 (by decide) ?_
    refine vv_icmp_eq (tgt := 72) C dX5_mayStand_53 (by decide) (fun h53 => ?_) (fun h53 => ?_)
    · refine vv_iconst (v := (1)) C dX5_mayStand_72 (by decide) ?_
      refine vv_goto (tgt := 77) C dX5_mayStand_73 (by decide) ?_
      refine vv_fzret C dX5_mayStand_77 rfl ?_
      simp [vx_i, pm_may, h53]
    · refine vv_iload_n C dX5_mayStand_56 rfl 2 rfl ?_
      refine vv_bipush (v := (48)) C dX5_mayStand_57 (by decide) ?_
      refine vv_bipush (v := (47)) C dX5_mayStand_59 (by decide) ?_
      refine vv_aload_n C dX5_mayStand_61 rfl 0 rfl ?_
      refine vv_getI C (a := 35) (k := 0) (o := 0) inlX5 rfl rfl rfl (by decide) rfl (tm_10 (List.mem_of_getElem? (i := 18) rfl)) dX5_mayStand_62 ?_
      refine vv_iadd C dX5_mayStand_65 ?_
      refine vv_cS_F C (kk_X5_within l g _ _ _ _) yk_X5_within (tm_10 (List.mem_of_getElem? (i := 22) rfl)) (by decide) rfl (Nat.le_of_ble_eq_true rfl) rfl dX5_mayStand_66 ?_
      refine vv_ifb_eq (tgt := 76) C dX5_mayStand_69 (by decide) (fun h69 => ?_) (fun h69 => ?_)
      · refine vv_iconst (v := (0)) C dX5_mayStand_76 (by decide) ?_
        refine vv_fzret C dX5_mayStand_77 rfl ?_
        simp [vx_i, pm_may, h53, h69]
      · refine vv_iconst (v := (1)) C dX5_mayStand_72 (by decide) ?_
        refine vv_goto (tgt := 77) C dX5_mayStand_73 (by decide) ?_
        refine vv_fzret C dX5_mayStand_77 rfl ?_
        simp [vx_i, pm_may, h53, h69]
  · refine vv_tableIn (tgt := 78) C dX5_mayStand_1 (by decide) (by decide) rfl (by decide) ?_
    refine vv_iload_n C dX5_mayStand_78 rfl 2 rfl ?_
    refine vv_bipush (v := (48)) C dX5_mayStand_79 (by decide) ?_
    refine vv_bipush (v := (56)) C dX5_mayStand_81 (by decide) ?_
    refine vv_cS_F C (kk_X5_within l g _ _ _ _) yk_X5_within (tm_10 (List.mem_of_getElem? (i := 22) rfl)) (by decide) rfl (Nat.le_of_ble_eq_true rfl) rfl dX5_mayStand_83 ?_
    refine vv_fzret C dX5_mayStand_86 (vx_i_b _) ?_
    rfl
  · refine vv_tableIn (tgt := 87) C dX5_mayStand_1 (by decide) (by decide) rfl (by decide) ?_
    refine vv_iload_n C dX5_mayStand_87 rfl 2 rfl ?_
    refine vv_bipush (v := (49)) C dX5_mayStand_88 (by decide) ?_
    refine vv_bipush (v := (57)) C dX5_mayStand_90 (by decide) ?_
    refine vv_cS_F C (kk_X5_within l g _ _ _ _) yk_X5_within (tm_10 (List.mem_of_getElem? (i := 22) rfl)) (by decide) rfl (Nat.le_of_ble_eq_true rfl) rfl dX5_mayStand_92 ?_
    refine vv_ifb_eq (tgt := 112) C dX5_mayStand_95 (by decide) (fun h95 => ?_) (fun h95 => ?_)
    · refine vv_iconst (v := (0)) C dX5_mayStand_112 (by decide) ?_
      refine vv_fzret C dX5_mayStand_113 rfl ?_
      simp [vx_i, pm_may, h95]
    · refine vv_iload_n C dX5_mayStand_98 rfl 2 rfl ?_
      refine vv_aload_n C dX5_mayStand_99 rfl 0 rfl ?_
      refine vv_gR C (a := 35) (k := 21) (b := 46) inlX5 rfl rfl rfl rfl (by decide) rfl (tm_4 (List.mem_of_getElem? (i := 7) rfl)) dX5_mayStand_100 ?_
      refine vv_iconst (v := (nI 2)) C dX5_mayStand_103 (by decide) ?_
      refine vv_baldN C (a := 46) rfl (by omega) (by decide) dX5_mayStand_104 ?_
      refine vv_icmp_le (tgt := 112) C dX5_mayStand_105 (by decide) (fun h105 => ?_) (fun h105 => ?_)
      · have g105 := pu_le h105
        refine vv_iconst (v := (0)) C dX5_mayStand_112 (by decide) ?_
        refine vv_fzret C dX5_mayStand_113 rfl ?_
        simp [vx_i, pm_may, h95, h105, g105]
      · have g105 := pu_nle h105
        refine vv_iconst (v := (1)) C dX5_mayStand_108 (by decide) ?_
        refine vv_goto (tgt := 113) C dX5_mayStand_109 (by decide) ?_
        refine vv_fzret C dX5_mayStand_113 rfl ?_
        simp [vx_i, pm_may, h95, h105, g105]
  · refine vv_tableIn (tgt := 114) C dX5_mayStand_1 (by decide) (by decide) rfl (by decide) ?_
    refine vv_iload_n C dX5_mayStand_114 rfl 2 rfl ?_
    refine vv_bipush (v := (49)) C dX5_mayStand_115 (by decide) ?_
    refine vv_bipush (v := (57)) C dX5_mayStand_117 (by decide) ?_
    refine vv_cS_F C (kk_X5_within l g _ _ _ _) yk_X5_within (tm_10 (List.mem_of_getElem? (i := 22) rfl)) (by decide) rfl (Nat.le_of_ble_eq_true rfl) rfl dX5_mayStand_119 ?_
    refine vv_fzret C dX5_mayStand_122 (vx_i_b _) ?_
    rfl
  · refine vv_tableOut (tgt := 123) C dX5_mayStand_1 (Or.inr (by rw [nI_toInt (by omega)]; omega)) (by decide) ?_
    refine vv_iload_n C dX5_mayStand_123 rfl 1 rfl ?_
    refine vv_iconst (v := (nI 5)) C dX5_mayStand_124 (by decide) ?_
    refine vv_icmp_ne (tgt := 143) C dX5_mayStand_125 (by decide) (fun h125 => ?_) (fun h125 => ?_)
    · rw [nI_eq (by omega) (by omega)] at h125
      refine vv_iconst (v := (0)) C dX5_mayStand_143 (by decide) ?_
      refine vv_fzret C dX5_mayStand_144 rfl ?_
      simp only [pm_may, show ¬ i = 0 by omega, show ¬ i = 1 by omega, show ¬ i = 2 by omega, show ¬ i = 3 by omega, show ¬ i = 4 by omega, h125, if_false]; rfl
    · rw [nI_eq (by omega) (by omega)] at h125
      subst h125
      refine vv_iload_n C dX5_mayStand_128 rfl 2 rfl ?_
      refine vv_bipush (v := (48)) C dX5_mayStand_129 (by decide) ?_
      refine vv_bipush (v := (57)) C dX5_mayStand_131 (by decide) ?_
      refine vv_cS_F C (kk_X5_within l g _ _ _ _) yk_X5_within (tm_10 (List.mem_of_getElem? (i := 22) rfl)) (by decide) rfl (Nat.le_of_ble_eq_true rfl) rfl dX5_mayStand_133 ?_
      refine vv_ifb_eq (tgt := 143) C dX5_mayStand_136 (by decide) (fun h136 => ?_) (fun h136 => ?_)
      · refine vv_iconst (v := (0)) C dX5_mayStand_143 (by decide) ?_
        refine vv_fzret C dX5_mayStand_144 rfl ?_
        simp [vx_i, pm_may, h136]
      · refine vv_iconst (v := (1)) C dX5_mayStand_139 (by decide) ?_
        refine vv_goto (tgt := 144) C dX5_mayStand_140 (by decide) ?_
        refine vv_fzret C dX5_mayStand_144 rfl ?_
        simp [vx_i, pm_may, h136]
theorem yk_X5_faultNow : vx_yV yX5_faultNow cX5_faultNow 2 (some .int) 0 := ⟨(tm_10 (List.mem_of_getElem? (i := 13) rfl)), (tm_1 (List.mem_of_getElem? (i := 5) rfl)), by decide +kernel, (tm_10 (List.mem_of_getElem? (i := 11) rfl)), (tm_10 (List.mem_of_getElem? (i := 12) rfl))⟩
set_option maxHeartbeats 4000000 in
set_option maxRecDepth 100000 in
theorem kk_X5_faultNow (l : Launch) (g : vx_G) (S : vx_St) (z : Nat) (hz : S.1 35 20 = nI z) (hz12 : z ≤ 12) : vx_M l g yX5_faultNow cX5_faultNow 2 (some .int) (vx_R 2 44) [.ref (g.2.2.1 35)] S (vx_pf (nI (pu_fst (fun k => pm_may (S.1 46) (S.1 35 0) k (S.1 46 k)) z)) S) := by
  refine vx_M.intro (by decide) (Nat.le_of_ble_eq_true rfl) ?_
  intro p e s m args below meth c C
  have lp2 : ∀ (fu : Nat) (i : Nat), (z - i < fu ∧ i ≤ z ∧ ∀ j, j < i → (fun k => pm_may (S.1 46) (S.1 35 0) k (S.1 46 k)) j = true) → vx_V p l e (vx_R 2 44) s m args below meth c (MQ below (vx_Q g (vx_pf (nI (pu_fst (fun k => pm_may (S.1 46) (S.1 35 0) k (S.1 46 k)) z)) S)) args s 0 0 (vx_A g)) g 2 2 [(0, .ref (g.2.2.1 35)), (1, .int (nI i))] [] (S) := by
    intro fu
    induction fu with
    | zero =>
      intro i hfu
      exact absurd hfu.1 (by omega)
    | succ fu ih =>
      intro i hfu
      obtain ⟨hf1, hf2, hf3⟩ := hfu
      refine vv_iload_n C dX5_faultNow_2 rfl 1 rfl ?_
      refine vv_aload_n C dX5_faultNow_3 rfl 0 rfl ?_
      refine vv_getI C (a := 35) (k := 20) (o := 0) inlX5 rfl rfl rfl (by decide) rfl (tm_5 (List.mem_of_getElem? (i := 7) rfl)) dX5_faultNow_4 ?_
      refine vv_icmp_ge (tgt := 30) C dX5_faultNow_7 (by decide) (fun h7 => ?_) (fun h7 => ?_)
      · have hge := pu_geT hz (by omega) (by omega) h7
        obtain rfl : z = i := by omega
        refine vv_iload_n C dX5_faultNow_30 rfl 1 rfl ?_
        refine vv_fret C dX5_faultNow_31 ?_
        rw [pu_fst_all z hf3]
      · have hlt := pu_geF hz (by omega) (by omega) h7
        refine vv_aload_n C dX5_faultNow_10 rfl 0 rfl ?_
        refine vv_iload_n C dX5_faultNow_11 rfl 1 rfl ?_
        refine vv_aload_n C dX5_faultNow_12 rfl 0 rfl ?_
        refine vv_gR C (a := 35) (k := 21) (b := 46) inlX5 rfl rfl rfl rfl (by decide) rfl (tm_4 (List.mem_of_getElem? (i := 7) rfl)) dX5_faultNow_13 ?_
        refine vv_iload_n C dX5_faultNow_16 rfl 1 rfl ?_
        refine vv_baldN C (a := 46) rfl (by omega) (by decide) dX5_faultNow_17 ?_
        refine vv_cV_F C (a := 35) (kk_X5_mayStand l g _ _ (by omega) _) yk_X5_mayStand (tm_10 (List.mem_of_getElem? (i := 14) rfl)) rfl rfl rfl (by decide) rfl (Nat.le_of_ble_eq_true rfl) rfl dX5_faultNow_18 ?_
        refine vv_ifb_eq (tgt := 30) C dX5_faultNow_21 (by decide) (fun h21 => ?_) (fun h21 => ?_)
        · refine vv_iload_n C dX5_faultNow_30 rfl 1 rfl ?_
          refine vv_fret C dX5_faultNow_31 ?_
          rw [pu_fst_at hf3 h21 z hlt]
        · refine vv_iincN (L' := [_, _]) (j := 1) C dX5_faultNow_24 rfl (by decide) rfl ?_
          refine vv_goto (tgt := 2) C dX5_faultNow_27 (by decide) ?_
          refine vv_sub (L' := [_, _]) [1, 0] rfl ?_
          exact ih (i + 1) ⟨by omega, by omega, fun j hj => by rcases Nat.lt_or_ge j i with q | q; exact hf3 j q; rw [show j = i by omega]; exact h21⟩
  refine vv_iconst (v := (nI 0)) C dX5_faultNow_0 (by decide) ?_
  refine vv_istore_n (i := 1) (L' := [_, _]) C dX5_faultNow_1 rfl (by decide) rfl ?_
  refine vv_sub (L' := [_, _]) [1, 0] rfl ?_
  exact lp2 (z + 1) 0 ⟨by omega, by omega, fun j hj => absurd hj (Nat.not_lt_zero j)⟩
theorem yk_X5_fault : vx_yV yX5_fault cX5_fault 1 (some .int) 0 := ⟨(tm_10 (List.mem_of_getElem? (i := 9) rfl)), (tm_1 (List.mem_of_getElem? (i := 5) rfl)), by decide +kernel, (tm_10 (List.mem_of_getElem? (i := 7) rfl)), (tm_10 (List.mem_of_getElem? (i := 8) rfl))⟩
set_option maxHeartbeats 4000000 in
set_option maxRecDepth 100000 in
theorem kk_X5_fault (l : Launch) (g : vx_G) (S : vx_St) (z : Nat) (hz : S.1 35 20 = nI z) (hz12 : z ≤ 12) : vx_M l g yX5_fault cX5_fault 1 (some .int) (vx_R 3 65) [.ref (g.2.2.1 35)] S (vx_pf (nI (pu_fst (fun k => pm_may (S.1 46) (S.1 35 0) k (S.1 46 k)) z)) S) := by
  refine vx_M.intro (by decide) (Nat.le_of_ble_eq_true rfl) ?_
  intro p e s m args below meth c C
  refine vv_aload_n C dX5_fault_0 rfl 0 rfl ?_
  refine vv_cV_F C (a := 35) (kk_X5_faultNow l g _ z hz hz12) yk_X5_faultNow (tm_10 (List.mem_of_getElem? (i := 10) rfl)) rfl rfl rfl (by decide) rfl (Nat.le_of_ble_eq_true rfl) rfl dX5_fault_1 ?_
  refine vv_fret C dX5_fault_4 ?_
  rfl
theorem yk_X5_isHouse : vx_yV yX5_isHouse cX5_isHouse 2 (some .boolean) 1 := ⟨(tm_12 (List.mem_of_getElem? (i := 22) rfl)), (tm_1 (List.mem_of_getElem? (i := 5) rfl)), by decide +kernel, (tm_12 (List.mem_of_getElem? (i := 20) rfl)), (tm_12 (List.mem_of_getElem? (i := 21) rfl))⟩
set_option maxHeartbeats 4000000 in
set_option maxRecDepth 100000 in
theorem kk_X5_isHouse (l : Launch) (g : vx_G) (S : vx_St) (h : Int32) (n : Nat) (hn : S.1 35 0 = nI n) (hn8 : n ≤ 8) : vx_M l g yX5_isHouse cX5_isHouse 2 (some .boolean) (vx_R 1 22) [.ref (g.2.2.1 35), .int h] S (vx_pf (vx_i (pu_hq h (S.1 35 0))) S) := by
  refine vx_M.intro (by decide) (Nat.le_of_ble_eq_true rfl) ?_
  intro p e s m args below meth c C
  refine vv_iload_n C dX5_isHouse_0 rfl 1 rfl ?_
  refine vv_iconst (v := (0)) C dX5_isHouse_1 (by decide) ?_
  refine vv_aload_n C dX5_isHouse_2 rfl 0 rfl ?_
  refine vv_getI C (a := 35) (k := 0) (o := 0) inlX5 rfl rfl rfl (by decide) rfl (tm_10 (List.mem_of_getElem? (i := 18) rfl)) dX5_isHouse_3 ?_
  refine vv_iconst (v := (1)) C dX5_isHouse_6 (by decide) ?_
  refine vv_isub C dX5_isHouse_7 ?_
  refine vv_cS_F C (kk_X5_within l g _ _ _ _) yk_X5_within (tm_10 (List.mem_of_getElem? (i := 22) rfl)) (by decide) rfl (Nat.le_of_ble_eq_true rfl) rfl dX5_isHouse_8 ?_
  refine vv_fzret C dX5_isHouse_11 (vx_i_b _) ?_
  rw [← pm_hq hn hn8]; rfl
theorem yk_X5_houseNow : vx_yV yX5_houseNow cX5_houseNow 3 (some .int) 2 := ⟨(tm_13 (List.mem_of_getElem? (i := 2) rfl)), (tm_1 (List.mem_of_getElem? (i := 5) rfl)), by decide +kernel, (tm_13 (List.mem_of_getElem? (i := 0) rfl)), (tm_13 (List.mem_of_getElem? (i := 1) rfl))⟩
set_option maxHeartbeats 4000000 in
set_option maxRecDepth 100000 in
theorem kk_X5_houseNow (l : Launch) (g : vx_G) (S : vx_St) (k : Nat) (hk : k < 8) (w : Int32) : vx_M l g yX5_houseNow cX5_houseNow 3 (some .int) (vx_R 1 21) [.ref (g.2.2.1 35), .int (nI k), .int w] S (vx_pf (pm_hn (pu_hm S) (S.1 42) (S.1 43) (S.1 35 9) k w) S) := by
  refine vx_M.intro (by decide) (Nat.le_of_ble_eq_true rfl) ?_
  intro p e s m args below meth c C
  refine vv_iload_n C dX5_houseNow_0 rfl 2 rfl ?_
  rcases pu_sw w 8 (by omega) with ⟨j, hj, hw⟩ | hw
  rcases (show j = 0 ∨ j = 1 ∨ j = 2 ∨ j = 3 ∨ j = 4 ∨ j = 5 ∨ j = 6 ∨ j = 7 by omega) with rfl | rfl | rfl | rfl | rfl | rfl | rfl | rfl
  · subst hw
    refine vv_tableIn (tgt := 48) C dX5_houseNow_1 (by decide) (by decide) rfl (by decide) ?_
    refine vv_aload_n C dX5_houseNow_48 rfl 0 rfl ?_
    refine vv_gR C (a := 35) (k := 1) (b := 36) inlX5 rfl rfl rfl rfl (by decide) rfl (tm_3 (List.mem_of_getElem? (i := 18) rfl)) dX5_houseNow_49 ?_
    refine vv_iload_n C dX5_houseNow_52 rfl 1 rfl ?_
    refine vv_ialdN C (a := 36) rfl (by omega) (by decide) dX5_houseNow_53 ?_
    refine vv_fret C dX5_houseNow_54 ?_
    rw [pm_hn, if_pos rfl]
    try rfl
  · subst hw
    refine vv_tableIn (tgt := 55) C dX5_houseNow_1 (by decide) (by decide) rfl (by decide) ?_
    refine vv_aload_n C dX5_houseNow_55 rfl 0 rfl ?_
    refine vv_gR C (a := 35) (k := 2) (b := 37) inlX5 rfl rfl rfl rfl (by decide) rfl (tm_3 (List.mem_of_getElem? (i := 19) rfl)) dX5_houseNow_56 ?_
    refine vv_iload_n C dX5_houseNow_59 rfl 1 rfl ?_
    refine vv_ialdN C (a := 37) rfl (by omega) (by decide) dX5_houseNow_60 ?_
    refine vv_fret C dX5_houseNow_61 ?_
    rw [pm_hn, if_neg (show ¬ nI 1 = nI 0 by decide), if_pos rfl]
    try rfl
  · subst hw
    refine vv_tableIn (tgt := 62) C dX5_houseNow_1 (by decide) (by decide) rfl (by decide) ?_
    refine vv_aload_n C dX5_houseNow_62 rfl 0 rfl ?_
    refine vv_gR C (a := 35) (k := 3) (b := 38) inlX5 rfl rfl rfl rfl (by decide) rfl (tm_3 (List.mem_of_getElem? (i := 20) rfl)) dX5_houseNow_63 ?_
    refine vv_iload_n C dX5_houseNow_66 rfl 1 rfl ?_
    refine vv_ialdN C (a := 38) rfl (by omega) (by decide) dX5_houseNow_67 ?_
    refine vv_fret C dX5_houseNow_68 ?_
    rw [pm_hn, if_neg (show ¬ nI 2 = nI 0 by decide), if_neg (show ¬ nI 2 = nI 1 by decide), if_pos rfl]
    try rfl
  · subst hw
    refine vv_tableIn (tgt := 69) C dX5_houseNow_1 (by decide) (by decide) rfl (by decide) ?_
    refine vv_aload_n C dX5_houseNow_69 rfl 0 rfl ?_
    refine vv_gR C (a := 35) (k := 4) (b := 39) inlX5 rfl rfl rfl rfl (by decide) rfl (tm_3 (List.mem_of_getElem? (i := 21) rfl)) dX5_houseNow_70 ?_
    refine vv_iload_n C dX5_houseNow_73 rfl 1 rfl ?_
    refine vv_ialdN C (a := 39) rfl (by omega) (by decide) dX5_houseNow_74 ?_
    refine vv_fret C dX5_houseNow_75 ?_
    rw [pm_hn, if_neg (show ¬ nI 3 = nI 0 by decide), if_neg (show ¬ nI 3 = nI 1 by decide), if_neg (show ¬ nI 3 = nI 2 by decide), if_pos rfl]
    try rfl
  · subst hw
    refine vv_tableIn (tgt := 76) C dX5_houseNow_1 (by decide) (by decide) rfl (by decide) ?_
    refine vv_aload_n C dX5_houseNow_76 rfl 0 rfl ?_
    refine vv_gR C (a := 35) (k := 5) (b := 40) inlX5 rfl rfl rfl rfl (by decide) rfl (tm_3 (List.mem_of_getElem? (i := 22) rfl)) dX5_houseNow_77 ?_
    refine vv_iload_n C dX5_houseNow_80 rfl 1 rfl ?_
    refine vv_ialdN C (a := 40) rfl (by omega) (by decide) dX5_houseNow_81 ?_
    refine vv_fret C dX5_houseNow_82 ?_
    rw [pm_hn, if_neg (show ¬ nI 4 = nI 0 by decide), if_neg (show ¬ nI 4 = nI 1 by decide), if_neg (show ¬ nI 4 = nI 2 by decide), if_neg (show ¬ nI 4 = nI 3 by decide), if_pos rfl]
    try rfl
  · subst hw
    refine vv_tableIn (tgt := 83) C dX5_houseNow_1 (by decide) (by decide) rfl (by decide) ?_
    refine vv_aload_n C dX5_houseNow_83 rfl 0 rfl ?_
    refine vv_gR C (a := 35) (k := 6) (b := 41) inlX5 rfl rfl rfl rfl (by decide) rfl (tm_3 (List.mem_of_getElem? (i := 23) rfl)) dX5_houseNow_84 ?_
    refine vv_iload_n C dX5_houseNow_87 rfl 1 rfl ?_
    refine vv_ialdN C (a := 41) rfl (by omega) (by decide) dX5_houseNow_88 ?_
    refine vv_fret C dX5_houseNow_89 ?_
    rw [pm_hn, if_neg (show ¬ nI 5 = nI 0 by decide), if_neg (show ¬ nI 5 = nI 1 by decide), if_neg (show ¬ nI 5 = nI 2 by decide), if_neg (show ¬ nI 5 = nI 3 by decide), if_neg (show ¬ nI 5 = nI 4 by decide), if_pos rfl]
    try rfl
  · subst hw
    refine vv_tableIn (tgt := 90) C dX5_houseNow_1 (by decide) (by decide) rfl (by decide) ?_
    refine vv_aload_n C dX5_houseNow_90 rfl 0 rfl ?_
    refine vv_gR C (a := 35) (k := 7) (b := 42) inlX5 rfl rfl rfl rfl (by decide) rfl (tm_4 (List.mem_of_getElem? (i := 0) rfl)) dX5_houseNow_91 ?_
    refine vv_iload_n C dX5_houseNow_94 rfl 1 rfl ?_
    refine vv_ialdN C (a := 42) rfl (by omega) (by decide) dX5_houseNow_95 ?_
    refine vv_fret C dX5_houseNow_96 ?_
    rw [pm_hn, if_neg (show ¬ nI 6 = nI 0 by decide), if_neg (show ¬ nI 6 = nI 1 by decide), if_neg (show ¬ nI 6 = nI 2 by decide), if_neg (show ¬ nI 6 = nI 3 by decide), if_neg (show ¬ nI 6 = nI 4 by decide), if_neg (show ¬ nI 6 = nI 5 by decide), if_pos rfl]
    try rfl
  · subst hw
    refine vv_tableIn (tgt := 97) C dX5_houseNow_1 (by decide) (by decide) rfl (by decide) ?_
    refine vv_aload_n C dX5_houseNow_97 rfl 0 rfl ?_
    refine vv_gR C (a := 35) (k := 8) (b := 43) inlX5 rfl rfl rfl rfl (by decide) rfl (tm_4 (List.mem_of_getElem? (i := 1) rfl)) dX5_houseNow_98 ?_
    refine vv_iload_n C dX5_houseNow_101 rfl 1 rfl ?_
    refine vv_ialdN C (a := 43) rfl (by omega) (by decide) dX5_houseNow_102 ?_
    refine vv_fret C dX5_houseNow_103 ?_
    rw [pm_hn, if_neg (show ¬ nI 7 = nI 0 by decide), if_neg (show ¬ nI 7 = nI 1 by decide), if_neg (show ¬ nI 7 = nI 2 by decide), if_neg (show ¬ nI 7 = nI 3 by decide), if_neg (show ¬ nI 7 = nI 4 by decide), if_neg (show ¬ nI 7 = nI 5 by decide), if_neg (show ¬ nI 7 = nI 6 by decide), if_pos rfl]
    try rfl
  · refine vv_tableOut (tgt := 104) C dX5_houseNow_1 hw (by decide) ?_
    refine vv_aload_n C dX5_houseNow_104 rfl 0 rfl ?_
    refine vv_getI C (a := 35) (k := 9) (o := 0) inlX5 rfl rfl rfl (by decide) rfl (tm_12 (List.mem_of_getElem? (i := 4) rfl)) dX5_houseNow_105 ?_
    refine vv_iload_n C dX5_houseNow_108 rfl 1 rfl ?_
    refine vv_cS_F C (kk_X5_has l g _ _ _) yk_X5_has (tm_13 (List.mem_of_getElem? (i := 3) rfl)) (by decide) rfl (Nat.le_of_ble_eq_true rfl) rfl dX5_houseNow_109 ?_
    refine vv_ifb_eq (tgt := 119) C dX5_houseNow_112 (by decide) (fun h112 => ?_) (fun h112 => ?_)
    · refine vv_iconst (v := (0)) C dX5_houseNow_119 (by decide) ?_
      refine vv_fret C dX5_houseNow_120 ?_
      have ne : ∀ j : Nat, j < 8 → ¬ w = nI j := fun j hj e => by rw [e, nI_toInt (by omega)] at hw; omega
      rw [pm_hn, if_neg (ne 0 (by decide)), if_neg (ne 1 (by decide)), if_neg (ne 2 (by decide)), if_neg (ne 3 (by decide)), if_neg (ne 4 (by decide)), if_neg (ne 5 (by decide)), if_neg (ne 6 (by decide)), if_neg (ne 7 (by decide)), h112]; rfl
    · refine vv_iconst (v := (1)) C dX5_houseNow_115 (by decide) ?_
      refine vv_goto (tgt := 120) C dX5_houseNow_116 (by decide) ?_
      refine vv_fret C dX5_houseNow_120 ?_
      have ne : ∀ j : Nat, j < 8 → ¬ w = nI j := fun j hj e => by rw [e, nI_toInt (by omega)] at hw; omega
      rw [pm_hn, if_neg (ne 0 (by decide)), if_neg (ne 1 (by decide)), if_neg (ne 2 (by decide)), if_neg (ne 3 (by decide)), if_neg (ne 4 (by decide)), if_neg (ne 5 (by decide)), if_neg (ne 6 (by decide)), if_neg (ne 7 (by decide)), h112]; rfl
theorem yk_X5_about : vx_yV yX5_about cX5_about 3 (some .int) 2 := ⟨(tm_12 (List.mem_of_getElem? (i := 18) rfl)), (tm_1 (List.mem_of_getElem? (i := 5) rfl)), by decide +kernel, (tm_12 (List.mem_of_getElem? (i := 16) rfl)), (tm_12 (List.mem_of_getElem? (i := 17) rfl))⟩
set_option maxHeartbeats 4000000 in
set_option maxRecDepth 100000 in
theorem kk_X5_about (l : Launch) (g : vx_G) (S : vx_St) (h w : Int32) (n : Nat) (hn : S.1 35 0 = nI n) (hn8 : n ≤ 8) : vx_M l g yX5_about cX5_about 3 (some .int) (vx_R 2 43) [.ref (g.2.2.1 35), .int h, .int w] S (vx_pf (aw_about (S.1 35 0) (pu_hm S) (S.1 42) (S.1 43) (S.1 35 9) h w) S) := by
  refine vx_M.intro (by decide) (Nat.le_of_ble_eq_true rfl) ?_
  intro p e s m args below meth c C
  refine vv_aload_n C dX5_about_0 rfl 0 rfl ?_
  refine vv_iload_n C dX5_about_1 rfl 1 rfl ?_
  refine vv_cV_F C (a := 35) (kk_X5_isHouse l g _ _ n hn hn8) yk_X5_isHouse (tm_12 (List.mem_of_getElem? (i := 19) rfl)) rfl rfl rfl (by decide) rfl (Nat.le_of_ble_eq_true rfl) rfl dX5_about_2 ?_
  refine vv_ifb_ne (tgt := 13) C dX5_about_5 (by decide) (fun h5 => ?_) (fun h5 => ?_)
  · have hq := h5
    obtain ⟨k, hk, rfl⟩ := pu_hq_k hn (by omega) h5
    refine vv_iload_n C dX5_about_13 rfl 2 rfl ?_
    refine vv_iconst (v := (0)) C dX5_about_14 (by decide) ?_
    refine vv_bipush (v := (8)) C dX5_about_15 (by decide) ?_
    refine vv_cS_F C (kk_X5_within l g _ _ _ _) yk_X5_within (tm_10 (List.mem_of_getElem? (i := 22) rfl)) (by decide) rfl (Nat.le_of_ble_eq_true rfl) rfl dX5_about_17 ?_
    refine vv_ifb_eq (tgt := 32) C dX5_about_20 (by decide) (fun h20 => ?_) (fun h20 => ?_)
    · refine vv_bipush (v := (-102)) C dX5_about_32 (by decide) ?_
      refine vv_fret C dX5_about_34 ?_
      have ne : ∀ j : Nat, j < 9 → ¬ w = nI j := fun j hj e => by
        rw [e] at h20
        rcases (show j = 0 ∨ j = 1 ∨ j = 2 ∨ j = 3 ∨ j = 4 ∨ j = 5 ∨ j = 6 ∨ j = 7 ∨ j = 8 by omega) with rfl | rfl | rfl | rfl | rfl | rfl | rfl | rfl | rfl <;> exact absurd h20 (by decide)
      rw [aw_about, if_neg (show ¬ pu_hq (nI k) (S.1 35 0) = false by rw [hq]; decide), if_neg (ne 0 (by decide)), if_neg (ne 1 (by decide)), if_neg (ne 2 (by decide)), if_neg (ne 3 (by decide)), if_neg (ne 4 (by decide)), if_neg (ne 5 (by decide)), if_neg (ne 6 (by decide)), if_neg (ne 7 (by decide)), if_neg (ne 8 (by decide))]
    · refine vv_aload_n C dX5_about_23 rfl 0 rfl ?_
      refine vv_iload_n C dX5_about_24 rfl 1 rfl ?_
      refine vv_iload_n C dX5_about_25 rfl 2 rfl ?_
      refine vv_cV_F C (a := 35) (kk_X5_houseNow l g _ k (by omega) _) yk_X5_houseNow (tm_12 (List.mem_of_getElem? (i := 23) rfl)) rfl rfl rfl (by decide) rfl (Nat.le_of_ble_eq_true rfl) rfl dX5_about_26 ?_
      refine vv_goto (tgt := 34) C dX5_about_29 (by decide) ?_
      refine vv_fret C dX5_about_34 ?_
      rcases pu_sw w 9 (by omega) with ⟨j, hj, rfl⟩ | hw
      · rw [aw_about, if_neg (show ¬ pu_hq (nI k) (S.1 35 0) = false by rw [hq]; decide), nI_clamp (by omega)]
        rcases (show j = 0 ∨ j = 1 ∨ j = 2 ∨ j = 3 ∨ j = 4 ∨ j = 5 ∨ j = 6 ∨ j = 7 ∨ j = 8 by omega) with rfl | rfl | rfl | rfl | rfl | rfl | rfl | rfl | rfl <;> rfl
      · exfalso
        simp only [pm_wi, Bool.and_eq_true, decide_eq_true_eq, Int32.le_iff_toInt_le] at h20
        have e8 : (8 : Int32).toInt = 8 := by decide
        have e0 : (0 : Int32).toInt = 0 := by decide
        omega
  · refine vv_bipush (v := (-101)) C dX5_about_8 (by decide) ?_
    refine vv_goto (tgt := 34) C dX5_about_10 (by decide) ?_
    refine vv_fret C dX5_about_34 ?_
    rw [aw_about, if_pos h5]
theorem pm_w04 (k : Int32) : pm_wi k 0 4 = true ↔ 0 ≤ k ∧ k < nI 5 := by
  simp only [pm_wi, Bool.and_eq_true, decide_eq_true_eq, Int32.le_iff_toInt_le, Int32.lt_iff_toInt_lt]
  rw [show (4 : Int32).toInt = 4 from by decide, show (nI 5).toInt = 5 from by decide]
  omega
theorem yk_X5_as : vx_yV yX5_as cX5_as 4 (some .int) 2 := ⟨(tm_13 (List.mem_of_getElem? (i := 17) rfl)), (tm_1 (List.mem_of_getElem? (i := 5) rfl)), by decide +kernel, (tm_13 (List.mem_of_getElem? (i := 15) rfl)), (tm_13 (List.mem_of_getElem? (i := 16) rfl))⟩
set_option maxHeartbeats 4000000 in
set_option maxRecDepth 100000 in
theorem kk_X5_as (l : Launch) (g : vx_G) (S : vx_St) (h q : Int32) (n : Nat) (hn : S.1 35 0 = nI n) (hn8 : n ≤ 8) : vx_M l g yX5_as cX5_as 4 (some .int) (vx_R 2 43) [.ref (g.2.2.1 35), .int h, .int q] S (vx_pf (aw_as (S.1 35 0) (S.1 36) h q) S) := by
  refine vx_M.intro (by decide) (Nat.le_of_ble_eq_true rfl) ?_
  intro p e s m args below meth c C
  refine vv_aload_n C dX5_as_0 rfl 0 rfl ?_
  refine vv_iload_n C dX5_as_1 rfl 1 rfl ?_
  refine vv_cV_F C (a := 35) (kk_X5_isHouse l g _ _ n hn hn8) yk_X5_isHouse (tm_12 (List.mem_of_getElem? (i := 19) rfl)) rfl rfl rfl (by decide) rfl (Nat.le_of_ble_eq_true rfl) rfl dX5_as_2 ?_
  refine vv_ifb_ne (tgt := 11) C dX5_as_5 (by decide) (fun h5 => ?_) (fun h5 => ?_)
  · have hq := h5
    obtain ⟨k, hk, rfl⟩ := pu_hq_k hn (by omega) h5
    refine vv_iload_n C dX5_as_11 rfl 2 rfl ?_
    refine vv_iconst (v := (0)) C dX5_as_12 (by decide) ?_
    refine vv_iconst (v := (4)) C dX5_as_13 (by decide) ?_
    refine vv_cS_F C (kk_X5_within l g _ _ _ _) yk_X5_within (tm_10 (List.mem_of_getElem? (i := 22) rfl)) (by decide) rfl (Nat.le_of_ble_eq_true rfl) rfl dX5_as_14 ?_
    refine vv_ifb_ne (tgt := 23) C dX5_as_17 (by decide) (fun h17 => ?_) (fun h17 => ?_)
    · refine vv_aload_n C dX5_as_23 rfl 0 rfl ?_
      refine vv_gR C (a := 35) (k := 1) (b := 36) inlX5 rfl rfl rfl rfl (by decide) rfl (tm_3 (List.mem_of_getElem? (i := 18) rfl)) dX5_as_24 ?_
      refine vv_iload_n C dX5_as_27 rfl 1 rfl ?_
      refine vv_ialdN C (a := 36) rfl (by omega) (by decide) dX5_as_28 ?_
      refine vv_istore_n (i := 3) (L' := [_, _, _, _]) C dX5_as_29 rfl (by decide) rfl ?_
      refine vv_iload_n C dX5_as_30 rfl 3 rfl ?_
      refine vv_if_eq (tgt := 49) C dX5_as_31 (by decide) (fun h31 => ?_) (fun h31 => ?_)
      · refine vv_iload_n C dX5_as_49 rfl 2 rfl ?_
        refine vv_goto (tgt := 54) C dX5_as_50 (by decide) ?_
        refine vv_fret C dX5_as_54 ?_
        rw [aw_as, if_neg (show ¬ pu_hq (nI k) (S.1 35 0) = false by rw [hq]; decide), if_pos ((pm_w04 _).mp h17), nI_clamp (by omega)]
        simp [pu_isA, h31]
      · refine vv_iload_n C dX5_as_34 rfl 0 rfl ?_
        refine vv_iload_n C dX5_as_35 rfl 3 rfl ?_
        refine vv_icmp_eq (tgt := 49) C dX5_as_36 (by decide) (fun h36 => ?_) (fun h36 => ?_)
        · refine vv_iload_n C dX5_as_49 rfl 2 rfl ?_
          refine vv_goto (tgt := 54) C dX5_as_50 (by decide) ?_
          refine vv_fret C dX5_as_54 ?_
          rw [aw_as, if_neg (show ¬ pu_hq (nI k) (S.1 35 0) = false by rw [hq]; decide), if_pos ((pm_w04 _).mp h17), nI_clamp (by omega)]
          simp [pu_isA, h31, h36]
        · refine vv_iload_n C dX5_as_39 rfl 3 rfl ?_
          refine vv_iconst (v := (2)) C dX5_as_40 (by decide) ?_
          refine vv_icmp_ne (tgt := 53) C dX5_as_41 (by decide) (fun h41 => ?_) (fun h41 => ?_)
          · refine vv_iconst (v := (-1)) C dX5_as_53 (by decide) ?_
            refine vv_fret C dX5_as_54 ?_
            rw [aw_as, if_neg (show ¬ pu_hq (nI k) (S.1 35 0) = false by rw [hq]; decide), if_pos ((pm_w04 _).mp h17), nI_clamp (by omega)]
            simp [pu_isA, h31, h36, h41]
          · subst h41
            refine vv_iload_n C dX5_as_44 rfl 0 rfl ?_
            refine vv_iconst (v := (4)) C dX5_as_45 (by decide) ?_
            refine vv_icmp_ne (tgt := 53) C dX5_as_46 (by decide) (fun h46 => ?_) (fun h46 => ?_)
            · refine vv_iconst (v := (-1)) C dX5_as_53 (by decide) ?_
              refine vv_fret C dX5_as_54 ?_
              rw [aw_as, if_neg (show ¬ pu_hq (nI k) (S.1 35 0) = false by rw [hq]; decide), if_pos ((pm_w04 _).mp h17), nI_clamp (by omega)]
              simp [pu_isA, h31, h36, h46]
            · refine vv_iload_n C dX5_as_49 rfl 2 rfl ?_
              refine vv_goto (tgt := 54) C dX5_as_50 (by decide) ?_
              refine vv_fret C dX5_as_54 ?_
              rw [aw_as, if_neg (show ¬ pu_hq (nI k) (S.1 35 0) = false by rw [hq]; decide), if_pos ((pm_w04 _).mp h17), nI_clamp (by omega)]
              simp [pu_isA, h31, h36, h46]
    · refine vv_bipush (v := (-102)) C dX5_as_20 (by decide) ?_
      refine vv_fret C dX5_as_22 ?_
      rw [aw_as, if_neg (show ¬ pu_hq (nI k) (S.1 35 0) = false by rw [hq]; decide), if_neg (fun z => by rw [(pm_w04 q).mpr z] at h17; cases h17)]
  · refine vv_bipush (v := (-101)) C dX5_as_8 (by decide) ?_
    refine vv_fret C dX5_as_10 ?_
    rw [aw_as, if_pos h5]
theorem yk_X5_length : vx_yV yX5_length cX5_length 3 (some .int) 1 := ⟨(tm_14 (List.mem_of_getElem? (i := 1) rfl)), (tm_1 (List.mem_of_getElem? (i := 5) rfl)), by decide +kernel, (tm_13 (List.mem_of_getElem? (i := 23) rfl)), (tm_14 (List.mem_of_getElem? (i := 0) rfl))⟩
set_option maxHeartbeats 4000000 in
set_option maxRecDepth 100000 in
theorem kk_X5_length (l : Launch) (g : vx_G) (S : vx_St) (v : Int32) : vx_M l g yX5_length cX5_length 3 (some .int) (vx_R 1 22) [.ref (g.2.2.1 35), .int v] S (vx_pi (fun r S' => r = aw_len v (S.1 35 12) (S.1 35 10) ∧ S' = if aw_lenB v (S.1 35 12) = true then vx_u (vx_u S 35 10 v) 35 11 v else S)) := by
  refine vx_M.intro (by decide) (Nat.le_of_ble_eq_true rfl) ?_
  intro p e s m args below meth c C
  refine vv_iload_n C dX5_length_0 rfl 1 rfl ?_
  refine vv_iconst (v := (1)) C dX5_length_1 (by decide) ?_
  refine vv_bipush (v := (99)) C dX5_length_2 (by decide) ?_
  refine vv_cS_F C (kk_X5_within l g _ _ _ _) yk_X5_within (tm_10 (List.mem_of_getElem? (i := 22) rfl)) (by decide) rfl (Nat.le_of_ble_eq_true rfl) rfl dX5_length_4 ?_
  refine vv_ifb_ne (tgt := 13) C dX5_length_7 (by decide) (fun h7 => ?_) (fun h7 => ?_)
  · simp only [pm_wi, Bool.and_eq_true, decide_eq_true_eq] at h7
    refine vv_aload_n C dX5_length_13 rfl 0 rfl ?_
    refine vv_getI C (a := 35) (k := 12) (o := 0) inlX5 rfl rfl rfl (by decide) rfl (tm_12 (List.mem_of_getElem? (i := 3) rfl)) dX5_length_14 ?_
    refine vv_if_le (tgt := 23) C dX5_length_17 (by decide) (fun h17 => ?_) (fun h17 => ?_)
    · have g17 := pu_le h17
      refine vv_aload_n C dX5_length_23 rfl 0 rfl ?_
      refine vv_getI C (a := 35) (k := 10) (o := 0) inlX5 rfl rfl rfl (by decide) rfl (tm_4 (List.mem_of_getElem? (i := 2) rfl)) dX5_length_24 ?_
      refine vv_istore_n (i := 2) (L' := [_, _, _]) C dX5_length_27 rfl (by decide) rfl ?_
      refine vv_aload_n C dX5_length_28 rfl 1 rfl ?_
      refine vv_iload_n C dX5_length_29 rfl 2 rfl ?_
      refine vv_putI C (a := 35) (k := 10) inlX5 tyX5 tyX5_ok nmX5 rfl rfl rfl (by decide) rfl rfl rfl (tm_4 (List.mem_of_getElem? (i := 2) rfl)) dX5_length_30 ?_
      refine vv_aload_n C dX5_length_33 rfl 1 rfl ?_
      refine vv_iload_n C dX5_length_34 rfl 2 rfl ?_
      refine vv_putI C (a := 35) (k := 11) inlX5 tyX5 tyX5_ok nmX5 rfl rfl rfl (by decide) rfl rfl rfl (tm_4 (List.mem_of_getElem? (i := 3) rfl)) dX5_length_35 ?_
      refine vv_iload_n C dX5_length_38 rfl 0 rfl ?_
      refine vv_jret C dX5_length_39 ?_
      exact ⟨by rw [aw_len, if_pos h7, if_neg g17], by simp [aw_lenB, g17, h7.1, h7.2]⟩
    · have g17 := pu_nle h17
      refine vv_bipush (v := (-103)) C dX5_length_20 (by decide) ?_
      refine vv_jret C dX5_length_22 ?_
      exact ⟨by rw [aw_len, if_pos h7, if_pos g17], by simp [aw_lenB, g17]⟩
  · simp only [pm_wi, Bool.and_eq_false_iff, decide_eq_false_iff_not] at h7
    refine vv_bipush (v := (-102)) C dX5_length_10 (by decide) ?_
    refine vv_jret C dX5_length_12 ?_
    have hB : aw_lenB v (S.1 35 12) = false := by rcases h7 with q | q <;> simp [aw_lenB, q]
    exact ⟨by rw [aw_len, if_neg (fun z => h7.elim (fun q => q z.1) (fun q => q z.2))], by rw [hB]; rfl⟩
theorem yk_X5_brake : vx_yV yX5_brake cX5_brake 4 (some .int) 2 := ⟨(tm_14 (List.mem_of_getElem? (i := 10) rfl)), (tm_1 (List.mem_of_getElem? (i := 5) rfl)), by decide +kernel, (tm_14 (List.mem_of_getElem? (i := 8) rfl)), (tm_14 (List.mem_of_getElem? (i := 9) rfl))⟩
set_option maxHeartbeats 4000000 in
set_option maxRecDepth 100000 in
theorem kk_X5_brake (l : Launch) (g : vx_G) (S : vx_St) (h b : Int32) (n : Nat) (hn : S.1 35 0 = nI n) (hn8 : n ≤ 8) : vx_M l g yX5_brake cX5_brake 4 (some .int) (vx_R 2 43) [.ref (g.2.2.1 35), .int h, .int b] S (vx_pi (fun r S' => r = (if pu_hq h (S.1 35 0) = true then vx_i (pu_in (S.1 35 9) h) else -101) ∧ S' = if pu_hq h (S.1 35 0) = true then vx_u S 35 9 (aw_brk (S.1 35 9) h b) else S)) := by
  refine vx_M.intro (by decide) (Nat.le_of_ble_eq_true rfl) ?_
  intro p e s m args below meth c C
  refine vv_aload_n C dX5_brake_0 rfl 0 rfl ?_
  refine vv_iload_n C dX5_brake_1 rfl 1 rfl ?_
  refine vv_cV_F C (a := 35) (kk_X5_isHouse l g _ _ n hn hn8) yk_X5_isHouse (tm_12 (List.mem_of_getElem? (i := 19) rfl)) rfl rfl rfl (by decide) rfl (Nat.le_of_ble_eq_true rfl) rfl dX5_brake_2 ?_
  refine vv_ifb_ne (tgt := 11) C dX5_brake_5 (by decide) (fun h5 => ?_) (fun h5 => ?_)
  · refine vv_aload_n C dX5_brake_11 rfl 0 rfl ?_
    refine vv_getI C (a := 35) (k := 9) (o := 0) inlX5 rfl rfl rfl (by decide) rfl (tm_12 (List.mem_of_getElem? (i := 4) rfl)) dX5_brake_12 ?_
    refine vv_iload_n C dX5_brake_15 rfl 1 rfl ?_
    refine vv_ishr C dX5_brake_16 ?_
    refine vv_iconst (v := (1)) C dX5_brake_17 (by decide) ?_
    refine vv_iand C dX5_brake_18 ?_
    refine vv_istore_n (i := 3) (L' := [_, _, _, _]) C dX5_brake_19 rfl (by decide) rfl ?_
    refine vv_aload_n C dX5_brake_20 rfl 1 rfl ?_
    refine vv_iload_n C dX5_brake_21 rfl 3 rfl ?_
    refine vv_if_eq (tgt := 36) C dX5_brake_22 (by decide) (fun h22 => ?_) (fun h22 => ?_)
    · refine vv_aload_n C dX5_brake_36 rfl 1 rfl ?_
      refine vv_getI C (a := 35) (k := 9) (o := 0) inlX5 rfl rfl rfl (by decide) rfl (tm_12 (List.mem_of_getElem? (i := 4) rfl)) dX5_brake_37 ?_
      refine vv_iconst (v := (1)) C dX5_brake_40 (by decide) ?_
      refine vv_iload_n C dX5_brake_41 rfl 2 rfl ?_
      refine vv_ishl C dX5_brake_42 ?_
      refine vv_iconst (v := (-1)) C dX5_brake_43 (by decide) ?_
      refine vv_ixor C dX5_brake_44 ?_
      refine vv_iand C dX5_brake_45 ?_
      refine vv_putI C (a := 35) (k := 9) inlX5 tyX5 tyX5_ok nmX5 rfl rfl rfl (by decide) rfl rfl rfl (tm_12 (List.mem_of_getElem? (i := 4) rfl)) dX5_brake_46 ?_
      refine vv_iload_n C dX5_brake_49 rfl 0 rfl ?_
      refine vv_jret C dX5_brake_50 ?_
      exact ⟨by rw [if_pos h5]; exact pm_in1, by rw [if_pos h5, aw_brk, if_pos h22]; rfl⟩
    · refine vv_aload_n C dX5_brake_25 rfl 1 rfl ?_
      refine vv_getI C (a := 35) (k := 9) (o := 0) inlX5 rfl rfl rfl (by decide) rfl (tm_12 (List.mem_of_getElem? (i := 4) rfl)) dX5_brake_26 ?_
      refine vv_iconst (v := (1)) C dX5_brake_29 (by decide) ?_
      refine vv_iload_n C dX5_brake_30 rfl 2 rfl ?_
      refine vv_ishl C dX5_brake_31 ?_
      refine vv_ior C dX5_brake_32 ?_
      refine vv_goto (tgt := 46) C dX5_brake_33 (by decide) ?_
      refine vv_putI C (a := 35) (k := 9) inlX5 tyX5 tyX5_ok nmX5 rfl rfl rfl (by decide) rfl rfl rfl (tm_12 (List.mem_of_getElem? (i := 4) rfl)) dX5_brake_46 ?_
      refine vv_iload_n C dX5_brake_49 rfl 0 rfl ?_
      refine vv_jret C dX5_brake_50 ?_
      exact ⟨by rw [if_pos h5]; exact pm_in1, by rw [if_pos h5, aw_brk, if_neg h22]; rfl⟩
  · refine vv_bipush (v := (-101)) C dX5_brake_8 (by decide) ?_
    refine vv_jret C dX5_brake_10 ?_
    exact ⟨by simp [h5], by simp [h5]⟩
theorem yk_X5_rain : vx_yV yX5_rain cX5_rain 3 (some .int) 1 := ⟨(tm_14 (List.mem_of_getElem? (i := 18) rfl)), (tm_1 (List.mem_of_getElem? (i := 5) rfl)), by decide +kernel, (tm_14 (List.mem_of_getElem? (i := 16) rfl)), (tm_14 (List.mem_of_getElem? (i := 17) rfl))⟩
set_option maxHeartbeats 4000000 in
set_option maxRecDepth 100000 in
theorem kk_X5_rain (l : Launch) (g : vx_G) (S : vx_St) (b : Int32) (hb : vx_b01 b = b) : vx_M l g yX5_rain cX5_rain 3 (some .int) (vx_R 0 0) [.ref (g.2.2.1 35), .int b] S (vx_pi (fun r S' => r = vx_b01 (S.1 35 16) ∧ S' = vx_u S 35 16 b)) := by
  refine vx_M.intro (by decide) (Nat.le_of_ble_eq_true rfl) ?_
  intro p e s m args below meth c C
  refine vv_aload_n C dX5_rain_0 rfl 0 rfl ?_
  refine vv_getZ C (a := 35) (k := 16) (o := 0) inlX5 rfl rfl rfl (by decide) rfl (tm_14 (List.mem_of_getElem? (i := 19) rfl)) dX5_rain_1 ?_
  refine vv_ifz_eq (tgt := 11) C dX5_rain_4 (by decide) (fun h4 => ?_) (fun h4 => ?_)
  · refine vv_iconst (v := (0)) C dX5_rain_11 (by decide) ?_
    refine vv_istore_n (i := 2) (L' := [_, _, _]) C dX5_rain_12 rfl (by decide) rfl ?_
    refine vv_aload_n C dX5_rain_13 rfl 1 rfl ?_
    refine vv_iload_n C dX5_rain_14 rfl 2 rfl ?_
    refine vv_putZ C (a := 35) (k := 16) inlX5 tyX5 tyX5_ok nmX5 rfl rfl rfl (by decide) rfl rfl rfl hb (tm_14 (List.mem_of_getElem? (i := 19) rfl)) dX5_rain_15 ?_
    refine vv_iload_n C dX5_rain_18 rfl 0 rfl ?_
    refine vv_jret C dX5_rain_19 ?_
    exact ⟨by simp [vx_b01, h4], rfl⟩
  · refine vv_iconst (v := (1)) C dX5_rain_7 (by decide) ?_
    refine vv_goto (tgt := 12) C dX5_rain_8 (by decide) ?_
    refine vv_istore_n (i := 2) (L' := [_, _, _]) C dX5_rain_12 rfl (by decide) rfl ?_
    refine vv_aload_n C dX5_rain_13 rfl 1 rfl ?_
    refine vv_iload_n C dX5_rain_14 rfl 2 rfl ?_
    refine vv_putZ C (a := 35) (k := 16) inlX5 tyX5 tyX5_ok nmX5 rfl rfl rfl (by decide) rfl rfl rfl hb (tm_14 (List.mem_of_getElem? (i := 19) rfl)) dX5_rain_15 ?_
    refine vv_iload_n C dX5_rain_18 rfl 0 rfl ?_
    refine vv_jret C dX5_rain_19 ?_
    exact ⟨by simp [vx_b01, h4], rfl⟩
theorem yk_X5_isTime : vx_yV yX5_isTime cX5_isTime 2 (some .boolean) 1 := ⟨(tm_15 (List.mem_of_getElem? (i := 20) rfl)), (tm_1 (List.mem_of_getElem? (i := 5) rfl)), by decide +kernel, (tm_15 (List.mem_of_getElem? (i := 18) rfl)), (tm_15 (List.mem_of_getElem? (i := 19) rfl))⟩
set_option maxHeartbeats 4000000 in
set_option maxRecDepth 100000 in
theorem kk_X5_isTime (l : Launch) (g : vx_G) (S : vx_St) (k : Nat) (hk : k < 8) : vx_M l g yX5_isTime cX5_isTime 2 (some .boolean) (vx_R 0 0) [.ref (g.2.2.1 35), .int (nI k)] S (vx_pf (vx_i (decide (S.1 35 12 < 9) && pu_open (S.1 38) (S.1 39) (S.1 35 12) k)) S) := by
  refine vx_M.intro (by decide) (Nat.le_of_ble_eq_true rfl) ?_
  intro p e s m args below meth c C
  refine vv_aload_n C dX5_isTime_0 rfl 0 rfl ?_
  refine vv_getI C (a := 35) (k := 12) (o := 0) inlX5 rfl rfl rfl (by decide) rfl (tm_12 (List.mem_of_getElem? (i := 3) rfl)) dX5_isTime_1 ?_
  refine vv_bipush (v := (9)) C dX5_isTime_4 (by decide) ?_
  refine vv_icmp_ge (tgt := 39) C dX5_isTime_6 (by decide) (fun h6 => ?_) (fun h6 => ?_)
  · have g6 := pu_le h6
    refine vv_iconst (v := (0)) C dX5_isTime_39 (by decide) ?_
    refine vv_fzret C dX5_isTime_40 rfl ?_
    simp [vx_i, pu_open, h6, g6]
  · have g6 := pu_nle h6
    refine vv_aload_n C dX5_isTime_9 rfl 0 rfl ?_
    refine vv_getI C (a := 35) (k := 12) (o := 0) inlX5 rfl rfl rfl (by decide) rfl (tm_12 (List.mem_of_getElem? (i := 3) rfl)) dX5_isTime_10 ?_
    refine vv_aload_n C dX5_isTime_13 rfl 0 rfl ?_
    refine vv_gR C (a := 35) (k := 3) (b := 38) inlX5 rfl rfl rfl rfl (by decide) rfl (tm_3 (List.mem_of_getElem? (i := 20) rfl)) dX5_isTime_14 ?_
    refine vv_iload_n C dX5_isTime_17 rfl 1 rfl ?_
    refine vv_ialdN C (a := 38) rfl (by omega) (by decide) dX5_isTime_18 ?_
    refine vv_icmp_lt (tgt := 39) C dX5_isTime_19 (by decide) (fun h19 => ?_) (fun h19 => ?_)
    · have g19 := pu_lt h19
      refine vv_iconst (v := (0)) C dX5_isTime_39 (by decide) ?_
      refine vv_fzret C dX5_isTime_40 rfl ?_
      simp [vx_i, pu_open, h6, g6, h19, g19]
    · have g19 := pu_nlt h19
      refine vv_aload_n C dX5_isTime_22 rfl 0 rfl ?_
      refine vv_getI C (a := 35) (k := 12) (o := 0) inlX5 rfl rfl rfl (by decide) rfl (tm_12 (List.mem_of_getElem? (i := 3) rfl)) dX5_isTime_23 ?_
      refine vv_aload_n C dX5_isTime_26 rfl 0 rfl ?_
      refine vv_gR C (a := 35) (k := 4) (b := 39) inlX5 rfl rfl rfl rfl (by decide) rfl (tm_3 (List.mem_of_getElem? (i := 21) rfl)) dX5_isTime_27 ?_
      refine vv_iload_n C dX5_isTime_30 rfl 1 rfl ?_
      refine vv_ialdN C (a := 39) rfl (by omega) (by decide) dX5_isTime_31 ?_
      refine vv_icmp_ge (tgt := 39) C dX5_isTime_32 (by decide) (fun h32 => ?_) (fun h32 => ?_)
      · have g32 := pu_le h32
        refine vv_iconst (v := (0)) C dX5_isTime_39 (by decide) ?_
        refine vv_fzret C dX5_isTime_40 rfl ?_
        simp [vx_i, pu_open, h6, g6, h19, g19, h32, g32]
      · have g32 := pu_nle h32
        refine vv_iconst (v := (1)) C dX5_isTime_35 (by decide) ?_
        refine vv_goto (tgt := 40) C dX5_isTime_36 (by decide) ?_
        refine vv_fzret C dX5_isTime_40 rfl ?_
        simp [vx_i, pu_open, h6, g6, h19, g19, h32, g32]
theorem yk_X5_wantsNow : vx_yV yX5_wantsNow cX5_wantsNow 4 (some .int) 1 := ⟨(tm_15 (List.mem_of_getElem? (i := 15) rfl)), (tm_1 (List.mem_of_getElem? (i := 5) rfl)), by decide +kernel, (tm_15 (List.mem_of_getElem? (i := 13) rfl)), (tm_15 (List.mem_of_getElem? (i := 14) rfl))⟩
set_option maxHeartbeats 4000000 in
set_option maxRecDepth 100000 in
theorem kk_X5_wantsNow (l : Launch) (g : vx_G) (S : vx_St) (k : Nat) (hk : k < 8) : vx_M l g yX5_wantsNow cX5_wantsNow 4 (some .int) (vx_R 1 21) [.ref (g.2.2.1 35), .int (nI k)] S (vx_pf (pm_W (pu_hm S) (S.1 35 12) (S.1 35 9) (S.1 35 14) k) S) := by
  refine vx_M.intro (by decide) (Nat.le_of_ble_eq_true rfl) ?_
  intro p e s m args below meth c C
  refine vv_aload_n C dX5_wantsNow_0 rfl 0 rfl ?_
  refine vv_iload_n C dX5_wantsNow_1 rfl 1 rfl ?_
  refine vv_cV_F C (a := 35) (kk_X5_isTime l g _ _ (by omega)) yk_X5_isTime (tm_15 (List.mem_of_getElem? (i := 17) rfl)) rfl rfl rfl (by decide) rfl (Nat.le_of_ble_eq_true rfl) rfl dX5_wantsNow_2 ?_
  refine vv_ifb_eq (tgt := 19) C dX5_wantsNow_5 (by decide) (fun h5 => ?_) (fun h5 => ?_)
  · rw [Bool.and_eq_false_iff] at h5
    refine vv_iconst (v := (0)) C dX5_wantsNow_19 (by decide) ?_
    refine vv_fret C dX5_wantsNow_20 ?_
    simp only [pm_W, pu_W, pu_want, show pu_hm S 0 = S.1 36 from rfl, show pu_hm S 2 = S.1 38 from rfl, show pu_hm S 3 = S.1 39 from rfl, show pu_hm S 4 = S.1 40 from rfl]
    split
    · rename_i h9
      have ho : pu_open (S.1 38) (S.1 39) (S.1 35 12) k = false := h5.elim (fun q => absurd h9 (of_decide_eq_false q)) id
      rw [if_pos (Or.inl ho)]
    · rfl
  · rw [Bool.and_eq_true, decide_eq_true_eq] at h5
    refine vv_aload_n C dX5_wantsNow_8 rfl 0 rfl ?_
    refine vv_getI C (a := 35) (k := 9) (o := 0) inlX5 rfl rfl rfl (by decide) rfl (tm_12 (List.mem_of_getElem? (i := 4) rfl)) dX5_wantsNow_9 ?_
    refine vv_iload_n C dX5_wantsNow_12 rfl 1 rfl ?_
    refine vv_cS_F C (kk_X5_has l g _ _ _) yk_X5_has (tm_13 (List.mem_of_getElem? (i := 3) rfl)) (by decide) rfl (Nat.le_of_ble_eq_true rfl) rfl dX5_wantsNow_13 ?_
    refine vv_ifb_eq (tgt := 21) C dX5_wantsNow_16 (by decide) (fun h16 => ?_) (fun h16 => ?_)
    · refine vv_aload_n C dX5_wantsNow_21 rfl 0 rfl ?_
      refine vv_gR C (a := 35) (k := 1) (b := 36) inlX5 rfl rfl rfl rfl (by decide) rfl (tm_3 (List.mem_of_getElem? (i := 18) rfl)) dX5_wantsNow_22 ?_
      refine vv_iload_n C dX5_wantsNow_25 rfl 1 rfl ?_
      refine vv_ialdN C (a := 36) rfl (by omega) (by decide) dX5_wantsNow_26 ?_
      refine vv_iconst (v := (2)) C dX5_wantsNow_27 (by decide) ?_
      refine vv_icmp_eq (tgt := 41) C dX5_wantsNow_28 (by decide) (fun h28 => ?_) (fun h28 => ?_)
      · refine vv_aload_n C dX5_wantsNow_41 rfl 0 rfl ?_
        refine vv_getI C (a := 35) (k := 12) (o := 0) inlX5 rfl rfl rfl (by decide) rfl (tm_12 (List.mem_of_getElem? (i := 3) rfl)) dX5_wantsNow_42 ?_
        refine vv_aload_n C dX5_wantsNow_45 rfl 0 rfl ?_
        refine vv_gR C (a := 35) (k := 3) (b := 38) inlX5 rfl rfl rfl rfl (by decide) rfl (tm_3 (List.mem_of_getElem? (i := 20) rfl)) dX5_wantsNow_46 ?_
        refine vv_iload_n C dX5_wantsNow_49 rfl 1 rfl ?_
        refine vv_ialdN C (a := 38) rfl (by omega) (by decide) dX5_wantsNow_50 ?_
        refine vv_icmp_ne (tgt := 58) C dX5_wantsNow_51 (by decide) (fun h51 => ?_) (fun h51 => ?_)
        · refine vv_iconst (v := (0)) C dX5_wantsNow_58 (by decide) ?_
          refine vv_istore_n (i := 2) (L' := [_, _, _]) C dX5_wantsNow_59 rfl (by decide) rfl ?_
          refine vv_aload_n C dX5_wantsNow_60 rfl 1 rfl ?_
          refine vv_gR C (a := 35) (k := 1) (b := 36) inlX5 rfl rfl rfl rfl (by decide) rfl (tm_3 (List.mem_of_getElem? (i := 18) rfl)) dX5_wantsNow_61 ?_
          refine vv_iload_n C dX5_wantsNow_64 rfl 2 rfl ?_
          refine vv_ialdN C (a := 36) rfl (by omega) (by decide) dX5_wantsNow_65 ?_
          refine vv_iconst (v := (3)) C dX5_wantsNow_66 (by decide) ?_
          refine vv_icmp_ne (tgt := 85) C dX5_wantsNow_67 (by decide) (fun h67 => ?_) (fun h67 => ?_)
          · refine vv_iconst (v := (0)) C dX5_wantsNow_85 (by decide) ?_
            refine vv_istore_n (i := 3) (L' := [_, _, _, _]) C dX5_wantsNow_86 rfl (by decide) rfl ?_
            refine vv_iload_n C dX5_wantsNow_87 rfl 1 rfl ?_
            refine vv_if_eq (tgt := 102) C dX5_wantsNow_88 (by decide) (fun h88 => ?_) (fun h88 => ?_)
            · refine vv_aload_n C dX5_wantsNow_102 rfl 2 rfl ?_
              refine vv_gR C (a := 35) (k := 5) (b := 40) inlX5 rfl rfl rfl rfl (by decide) rfl (tm_3 (List.mem_of_getElem? (i := 22) rfl)) dX5_wantsNow_103 ?_
              refine vv_iload_n C dX5_wantsNow_106 rfl 3 rfl ?_
              refine vv_ialdN C (a := 40) rfl (by omega) (by decide) dX5_wantsNow_107 ?_
              refine vv_iload_n C dX5_wantsNow_108 rfl 0 rfl ?_
              refine vv_isub C dX5_wantsNow_109 ?_
              refine vv_fret C dX5_wantsNow_110 ?_
              simp only [pm_W, pu_W, pu_want, show pu_hm S 0 = S.1 36 from rfl, show pu_hm S 2 = S.1 38 from rfl, show pu_hm S 3 = S.1 39 from rfl, show pu_hm S 4 = S.1 40 from rfl]
              rw [if_pos h5.1, if_neg (show ¬ (pu_open (S.1 38) (S.1 39) (S.1 35 12) k = false ∨ pu_in (S.1 35 9) (nI k) = true) from fun q => q.elim (fun z => by rw [h5.2] at z; cases z) (fun z => by rw [h16] at z; cases z))]
              simp [pm_isA2, pm_isA3, h28, h51, h67]
            · exact absurd rfl h88
          · exact absurd (h28.symm.trans h67) (by decide)
        · refine vv_iconst (v := (1)) C dX5_wantsNow_54 (by decide) ?_
          refine vv_goto (tgt := 59) C dX5_wantsNow_55 (by decide) ?_
          refine vv_istore_n (i := 2) (L' := [_, _, _]) C dX5_wantsNow_59 rfl (by decide) rfl ?_
          refine vv_aload_n C dX5_wantsNow_60 rfl 1 rfl ?_
          refine vv_gR C (a := 35) (k := 1) (b := 36) inlX5 rfl rfl rfl rfl (by decide) rfl (tm_3 (List.mem_of_getElem? (i := 18) rfl)) dX5_wantsNow_61 ?_
          refine vv_iload_n C dX5_wantsNow_64 rfl 2 rfl ?_
          refine vv_ialdN C (a := 36) rfl (by omega) (by decide) dX5_wantsNow_65 ?_
          refine vv_iconst (v := (3)) C dX5_wantsNow_66 (by decide) ?_
          refine vv_icmp_ne (tgt := 85) C dX5_wantsNow_67 (by decide) (fun h67 => ?_) (fun h67 => ?_)
          · refine vv_iconst (v := (0)) C dX5_wantsNow_85 (by decide) ?_
            refine vv_istore_n (i := 3) (L' := [_, _, _, _]) C dX5_wantsNow_86 rfl (by decide) rfl ?_
            refine vv_iload_n C dX5_wantsNow_87 rfl 1 rfl ?_
            refine vv_if_eq (tgt := 102) C dX5_wantsNow_88 (by decide) (fun h88 => ?_) (fun h88 => ?_)
            · exact absurd h88 (by decide)
            · refine vv_iconst (v := (2)) C dX5_wantsNow_91 (by decide) ?_
              refine vv_aload_n C dX5_wantsNow_92 rfl 2 rfl ?_
              refine vv_gR C (a := 35) (k := 5) (b := 40) inlX5 rfl rfl rfl rfl (by decide) rfl (tm_3 (List.mem_of_getElem? (i := 22) rfl)) dX5_wantsNow_93 ?_
              refine vv_iload_n C dX5_wantsNow_96 rfl 3 rfl ?_
              refine vv_ialdN C (a := 40) rfl (by omega) (by decide) dX5_wantsNow_97 ?_
              refine vv_imul C dX5_wantsNow_98 ?_
              refine vv_goto (tgt := 110) C dX5_wantsNow_99 (by decide) ?_
              refine vv_fret C dX5_wantsNow_110 ?_
              simp only [pm_W, pu_W, pu_want, show pu_hm S 0 = S.1 36 from rfl, show pu_hm S 2 = S.1 38 from rfl, show pu_hm S 3 = S.1 39 from rfl, show pu_hm S 4 = S.1 40 from rfl]
              rw [if_pos h5.1, if_neg (show ¬ (pu_open (S.1 38) (S.1 39) (S.1 35 12) k = false ∨ pu_in (S.1 35 9) (nI k) = true) from fun q => q.elim (fun z => by rw [h5.2] at z; cases z) (fun z => by rw [h16] at z; cases z))]
              simp [pm_isA2, pm_isA3, h28, h51, h67]
          · exact absurd (h28.symm.trans h67) (by decide)
      · refine vv_aload_n C dX5_wantsNow_31 rfl 0 rfl ?_
        refine vv_gR C (a := 35) (k := 1) (b := 36) inlX5 rfl rfl rfl rfl (by decide) rfl (tm_3 (List.mem_of_getElem? (i := 18) rfl)) dX5_wantsNow_32 ?_
        refine vv_iload_n C dX5_wantsNow_35 rfl 1 rfl ?_
        refine vv_ialdN C (a := 36) rfl (by omega) (by decide) dX5_wantsNow_36 ?_
        refine vv_iconst (v := (4)) C dX5_wantsNow_37 (by decide) ?_
        refine vv_icmp_ne (tgt := 58) C dX5_wantsNow_38 (by decide) (fun h38 => ?_) (fun h38 => ?_)
        · refine vv_iconst (v := (0)) C dX5_wantsNow_58 (by decide) ?_
          refine vv_istore_n (i := 2) (L' := [_, _, _]) C dX5_wantsNow_59 rfl (by decide) rfl ?_
          refine vv_aload_n C dX5_wantsNow_60 rfl 1 rfl ?_
          refine vv_gR C (a := 35) (k := 1) (b := 36) inlX5 rfl rfl rfl rfl (by decide) rfl (tm_3 (List.mem_of_getElem? (i := 18) rfl)) dX5_wantsNow_61 ?_
          refine vv_iload_n C dX5_wantsNow_64 rfl 2 rfl ?_
          refine vv_ialdN C (a := 36) rfl (by omega) (by decide) dX5_wantsNow_65 ?_
          refine vv_iconst (v := (3)) C dX5_wantsNow_66 (by decide) ?_
          refine vv_icmp_ne (tgt := 85) C dX5_wantsNow_67 (by decide) (fun h67 => ?_) (fun h67 => ?_)
          · refine vv_iconst (v := (0)) C dX5_wantsNow_85 (by decide) ?_
            refine vv_istore_n (i := 3) (L' := [_, _, _, _]) C dX5_wantsNow_86 rfl (by decide) rfl ?_
            refine vv_iload_n C dX5_wantsNow_87 rfl 1 rfl ?_
            refine vv_if_eq (tgt := 102) C dX5_wantsNow_88 (by decide) (fun h88 => ?_) (fun h88 => ?_)
            · refine vv_aload_n C dX5_wantsNow_102 rfl 2 rfl ?_
              refine vv_gR C (a := 35) (k := 5) (b := 40) inlX5 rfl rfl rfl rfl (by decide) rfl (tm_3 (List.mem_of_getElem? (i := 22) rfl)) dX5_wantsNow_103 ?_
              refine vv_iload_n C dX5_wantsNow_106 rfl 3 rfl ?_
              refine vv_ialdN C (a := 40) rfl (by omega) (by decide) dX5_wantsNow_107 ?_
              refine vv_iload_n C dX5_wantsNow_108 rfl 0 rfl ?_
              refine vv_isub C dX5_wantsNow_109 ?_
              refine vv_fret C dX5_wantsNow_110 ?_
              simp only [pm_W, pu_W, pu_want, show pu_hm S 0 = S.1 36 from rfl, show pu_hm S 2 = S.1 38 from rfl, show pu_hm S 3 = S.1 39 from rfl, show pu_hm S 4 = S.1 40 from rfl]
              rw [if_pos h5.1, if_neg (show ¬ (pu_open (S.1 38) (S.1 39) (S.1 35 12) k = false ∨ pu_in (S.1 35 9) (nI k) = true) from fun q => q.elim (fun z => by rw [h5.2] at z; cases z) (fun z => by rw [h16] at z; cases z))]
              simp [pm_isA2, pm_isA3, h28, h38, h67]
            · exact absurd rfl h88
          · refine vv_aload_n C dX5_wantsNow_70 rfl 1 rfl ?_
            refine vv_getI C (a := 35) (k := 14) (o := 0) inlX5 rfl rfl rfl (by decide) rfl (tm_15 (List.mem_of_getElem? (i := 16) rfl)) dX5_wantsNow_71 ?_
            refine vv_iload_n C dX5_wantsNow_74 rfl 2 rfl ?_
            refine vv_cS_F C (kk_X5_has l g _ _ _) yk_X5_has (tm_13 (List.mem_of_getElem? (i := 3) rfl)) (by decide) rfl (Nat.le_of_ble_eq_true rfl) rfl dX5_wantsNow_75 ?_
            refine vv_ifb_eq (tgt := 85) C dX5_wantsNow_78 (by decide) (fun h78 => ?_) (fun h78 => ?_)
            · refine vv_iconst (v := (0)) C dX5_wantsNow_85 (by decide) ?_
              refine vv_istore_n (i := 3) (L' := [_, _, _, _]) C dX5_wantsNow_86 rfl (by decide) rfl ?_
              refine vv_iload_n C dX5_wantsNow_87 rfl 1 rfl ?_
              refine vv_if_eq (tgt := 102) C dX5_wantsNow_88 (by decide) (fun h88 => ?_) (fun h88 => ?_)
              · refine vv_aload_n C dX5_wantsNow_102 rfl 2 rfl ?_
                refine vv_gR C (a := 35) (k := 5) (b := 40) inlX5 rfl rfl rfl rfl (by decide) rfl (tm_3 (List.mem_of_getElem? (i := 22) rfl)) dX5_wantsNow_103 ?_
                refine vv_iload_n C dX5_wantsNow_106 rfl 3 rfl ?_
                refine vv_ialdN C (a := 40) rfl (by omega) (by decide) dX5_wantsNow_107 ?_
                refine vv_iload_n C dX5_wantsNow_108 rfl 0 rfl ?_
                refine vv_isub C dX5_wantsNow_109 ?_
                refine vv_fret C dX5_wantsNow_110 ?_
                simp only [pm_W, pu_W, pu_want, show pu_hm S 0 = S.1 36 from rfl, show pu_hm S 2 = S.1 38 from rfl, show pu_hm S 3 = S.1 39 from rfl, show pu_hm S 4 = S.1 40 from rfl]
                rw [if_pos h5.1, if_neg (show ¬ (pu_open (S.1 38) (S.1 39) (S.1 35 12) k = false ∨ pu_in (S.1 35 9) (nI k) = true) from fun q => q.elim (fun z => by rw [h5.2] at z; cases z) (fun z => by rw [h16] at z; cases z))]
                simp [pm_isA2, pm_isA3, h28, h38, h67, h78]
              · exact absurd rfl h88
            · refine vv_iconst (v := (1)) C dX5_wantsNow_81 (by decide) ?_
              refine vv_goto (tgt := 86) C dX5_wantsNow_82 (by decide) ?_
              refine vv_istore_n (i := 3) (L' := [_, _, _, _]) C dX5_wantsNow_86 rfl (by decide) rfl ?_
              refine vv_iload_n C dX5_wantsNow_87 rfl 1 rfl ?_
              refine vv_if_eq (tgt := 102) C dX5_wantsNow_88 (by decide) (fun h88 => ?_) (fun h88 => ?_)
              · refine vv_aload_n C dX5_wantsNow_102 rfl 2 rfl ?_
                refine vv_gR C (a := 35) (k := 5) (b := 40) inlX5 rfl rfl rfl rfl (by decide) rfl (tm_3 (List.mem_of_getElem? (i := 22) rfl)) dX5_wantsNow_103 ?_
                refine vv_iload_n C dX5_wantsNow_106 rfl 3 rfl ?_
                refine vv_ialdN C (a := 40) rfl (by omega) (by decide) dX5_wantsNow_107 ?_
                refine vv_iload_n C dX5_wantsNow_108 rfl 0 rfl ?_
                refine vv_isub C dX5_wantsNow_109 ?_
                refine vv_fret C dX5_wantsNow_110 ?_
                simp only [pm_W, pu_W, pu_want, show pu_hm S 0 = S.1 36 from rfl, show pu_hm S 2 = S.1 38 from rfl, show pu_hm S 3 = S.1 39 from rfl, show pu_hm S 4 = S.1 40 from rfl]
                rw [if_pos h5.1, if_neg (show ¬ (pu_open (S.1 38) (S.1 39) (S.1 35 12) k = false ∨ pu_in (S.1 35 9) (nI k) = true) from fun q => q.elim (fun z => by rw [h5.2] at z; cases z) (fun z => by rw [h16] at z; cases z))]
                simp [pm_isA2, pm_isA3, h28, h38, h67, h78]
              · exact absurd rfl h88
        · refine vv_aload_n C dX5_wantsNow_41 rfl 0 rfl ?_
          refine vv_getI C (a := 35) (k := 12) (o := 0) inlX5 rfl rfl rfl (by decide) rfl (tm_12 (List.mem_of_getElem? (i := 3) rfl)) dX5_wantsNow_42 ?_
          refine vv_aload_n C dX5_wantsNow_45 rfl 0 rfl ?_
          refine vv_gR C (a := 35) (k := 3) (b := 38) inlX5 rfl rfl rfl rfl (by decide) rfl (tm_3 (List.mem_of_getElem? (i := 20) rfl)) dX5_wantsNow_46 ?_
          refine vv_iload_n C dX5_wantsNow_49 rfl 1 rfl ?_
          refine vv_ialdN C (a := 38) rfl (by omega) (by decide) dX5_wantsNow_50 ?_
          refine vv_icmp_ne (tgt := 58) C dX5_wantsNow_51 (by decide) (fun h51 => ?_) (fun h51 => ?_)
          · refine vv_iconst (v := (0)) C dX5_wantsNow_58 (by decide) ?_
            refine vv_istore_n (i := 2) (L' := [_, _, _]) C dX5_wantsNow_59 rfl (by decide) rfl ?_
            refine vv_aload_n C dX5_wantsNow_60 rfl 1 rfl ?_
            refine vv_gR C (a := 35) (k := 1) (b := 36) inlX5 rfl rfl rfl rfl (by decide) rfl (tm_3 (List.mem_of_getElem? (i := 18) rfl)) dX5_wantsNow_61 ?_
            refine vv_iload_n C dX5_wantsNow_64 rfl 2 rfl ?_
            refine vv_ialdN C (a := 36) rfl (by omega) (by decide) dX5_wantsNow_65 ?_
            refine vv_iconst (v := (3)) C dX5_wantsNow_66 (by decide) ?_
            refine vv_icmp_ne (tgt := 85) C dX5_wantsNow_67 (by decide) (fun h67 => ?_) (fun h67 => ?_)
            · refine vv_iconst (v := (0)) C dX5_wantsNow_85 (by decide) ?_
              refine vv_istore_n (i := 3) (L' := [_, _, _, _]) C dX5_wantsNow_86 rfl (by decide) rfl ?_
              refine vv_iload_n C dX5_wantsNow_87 rfl 1 rfl ?_
              refine vv_if_eq (tgt := 102) C dX5_wantsNow_88 (by decide) (fun h88 => ?_) (fun h88 => ?_)
              · refine vv_aload_n C dX5_wantsNow_102 rfl 2 rfl ?_
                refine vv_gR C (a := 35) (k := 5) (b := 40) inlX5 rfl rfl rfl rfl (by decide) rfl (tm_3 (List.mem_of_getElem? (i := 22) rfl)) dX5_wantsNow_103 ?_
                refine vv_iload_n C dX5_wantsNow_106 rfl 3 rfl ?_
                refine vv_ialdN C (a := 40) rfl (by omega) (by decide) dX5_wantsNow_107 ?_
                refine vv_iload_n C dX5_wantsNow_108 rfl 0 rfl ?_
                refine vv_isub C dX5_wantsNow_109 ?_
                refine vv_fret C dX5_wantsNow_110 ?_
                simp only [pm_W, pu_W, pu_want, show pu_hm S 0 = S.1 36 from rfl, show pu_hm S 2 = S.1 38 from rfl, show pu_hm S 3 = S.1 39 from rfl, show pu_hm S 4 = S.1 40 from rfl]
                rw [if_pos h5.1, if_neg (show ¬ (pu_open (S.1 38) (S.1 39) (S.1 35 12) k = false ∨ pu_in (S.1 35 9) (nI k) = true) from fun q => q.elim (fun z => by rw [h5.2] at z; cases z) (fun z => by rw [h16] at z; cases z))]
                simp [pm_isA2, pm_isA3, h28, h38, h51, h67]
              · exact absurd rfl h88
            · exact absurd (h38.symm.trans h67) (by decide)
          · refine vv_iconst (v := (1)) C dX5_wantsNow_54 (by decide) ?_
            refine vv_goto (tgt := 59) C dX5_wantsNow_55 (by decide) ?_
            refine vv_istore_n (i := 2) (L' := [_, _, _]) C dX5_wantsNow_59 rfl (by decide) rfl ?_
            refine vv_aload_n C dX5_wantsNow_60 rfl 1 rfl ?_
            refine vv_gR C (a := 35) (k := 1) (b := 36) inlX5 rfl rfl rfl rfl (by decide) rfl (tm_3 (List.mem_of_getElem? (i := 18) rfl)) dX5_wantsNow_61 ?_
            refine vv_iload_n C dX5_wantsNow_64 rfl 2 rfl ?_
            refine vv_ialdN C (a := 36) rfl (by omega) (by decide) dX5_wantsNow_65 ?_
            refine vv_iconst (v := (3)) C dX5_wantsNow_66 (by decide) ?_
            refine vv_icmp_ne (tgt := 85) C dX5_wantsNow_67 (by decide) (fun h67 => ?_) (fun h67 => ?_)
            · refine vv_iconst (v := (0)) C dX5_wantsNow_85 (by decide) ?_
              refine vv_istore_n (i := 3) (L' := [_, _, _, _]) C dX5_wantsNow_86 rfl (by decide) rfl ?_
              refine vv_iload_n C dX5_wantsNow_87 rfl 1 rfl ?_
              refine vv_if_eq (tgt := 102) C dX5_wantsNow_88 (by decide) (fun h88 => ?_) (fun h88 => ?_)
              · exact absurd h88 (by decide)
              · refine vv_iconst (v := (2)) C dX5_wantsNow_91 (by decide) ?_
                refine vv_aload_n C dX5_wantsNow_92 rfl 2 rfl ?_
                refine vv_gR C (a := 35) (k := 5) (b := 40) inlX5 rfl rfl rfl rfl (by decide) rfl (tm_3 (List.mem_of_getElem? (i := 22) rfl)) dX5_wantsNow_93 ?_
                refine vv_iload_n C dX5_wantsNow_96 rfl 3 rfl ?_
                refine vv_ialdN C (a := 40) rfl (by omega) (by decide) dX5_wantsNow_97 ?_
                refine vv_imul C dX5_wantsNow_98 ?_
                refine vv_goto (tgt := 110) C dX5_wantsNow_99 (by decide) ?_
                refine vv_fret C dX5_wantsNow_110 ?_
                simp only [pm_W, pu_W, pu_want, show pu_hm S 0 = S.1 36 from rfl, show pu_hm S 2 = S.1 38 from rfl, show pu_hm S 3 = S.1 39 from rfl, show pu_hm S 4 = S.1 40 from rfl]
                rw [if_pos h5.1, if_neg (show ¬ (pu_open (S.1 38) (S.1 39) (S.1 35 12) k = false ∨ pu_in (S.1 35 9) (nI k) = true) from fun q => q.elim (fun z => by rw [h5.2] at z; cases z) (fun z => by rw [h16] at z; cases z))]
                simp [pm_isA2, pm_isA3, h28, h38, h51, h67]
            · exact absurd (h38.symm.trans h67) (by decide)
    · refine vv_iconst (v := (0)) C dX5_wantsNow_19 (by decide) ?_
      refine vv_fret C dX5_wantsNow_20 ?_
      simp only [pm_W, pu_W, pu_want, show pu_hm S 0 = S.1 36 from rfl, show pu_hm S 2 = S.1 38 from rfl, show pu_hm S 3 = S.1 39 from rfl, show pu_hm S 4 = S.1 40 from rfl]
      rw [if_pos h5.1, if_pos (Or.inr h16)]
theorem yk_X5_wants : vx_yV yX5_wants cX5_wants 2 (some .int) 1 := ⟨(tm_15 (List.mem_of_getElem? (i := 11) rfl)), (tm_1 (List.mem_of_getElem? (i := 5) rfl)), by decide +kernel, (tm_15 (List.mem_of_getElem? (i := 9) rfl)), (tm_15 (List.mem_of_getElem? (i := 10) rfl))⟩
set_option maxHeartbeats 4000000 in
set_option maxRecDepth 100000 in
theorem kk_X5_wants (l : Launch) (g : vx_G) (S : vx_St) (h : Int32) (n : Nat) (hn : S.1 35 0 = nI n) (hn8 : n ≤ 8) : vx_M l g yX5_wants cX5_wants 2 (some .int) (vx_R 2 44) [.ref (g.2.2.1 35), .int h] S (vx_pf (if pu_hq h (S.1 35 0) = true then pm_W (pu_hm S) (S.1 35 12) (S.1 35 9) (S.1 35 14) h.toNatClampNeg else -101) S) := by
  refine vx_M.intro (by decide) (Nat.le_of_ble_eq_true rfl) ?_
  intro p e s m args below meth c C
  refine vv_aload_n C dX5_wants_0 rfl 0 rfl ?_
  refine vv_iload_n C dX5_wants_1 rfl 1 rfl ?_
  refine vv_cV_F C (a := 35) (kk_X5_isHouse l g _ _ n hn hn8) yk_X5_isHouse (tm_12 (List.mem_of_getElem? (i := 19) rfl)) rfl rfl rfl (by decide) rfl (Nat.le_of_ble_eq_true rfl) rfl dX5_wants_2 ?_
  refine vv_ifb_eq (tgt := 16) C dX5_wants_5 (by decide) (fun h5 => ?_) (fun h5 => ?_)
  · refine vv_bipush (v := (-101)) C dX5_wants_16 (by decide) ?_
    refine vv_fret C dX5_wants_18 ?_
    rw [if_neg (by rw [h5]; decide)]
  · have hq := h5
    obtain ⟨k, hk, rfl⟩ := pu_hq_k hn (by omega) h5
    refine vv_aload_n C dX5_wants_8 rfl 0 rfl ?_
    refine vv_iload_n C dX5_wants_9 rfl 1 rfl ?_
    refine vv_cV_F C (a := 35) (kk_X5_wantsNow l g _ k (by omega)) yk_X5_wantsNow (tm_15 (List.mem_of_getElem? (i := 12) rfl)) rfl rfl rfl (by decide) rfl (Nat.le_of_ble_eq_true rfl) rfl dX5_wants_10 ?_
    refine vv_goto (tgt := 18) C dX5_wants_13 (by decide) ?_
    refine vv_fret C dX5_wants_18 ?_
    rw [if_pos hq, nI_clamp (by omega)]
theorem yk_X5_shafts : vx_yV yX5_shafts cX5_shafts 4 (some .int) 1 := ⟨(tm_17 (List.mem_of_getElem? (i := 14) rfl)), (tm_1 (List.mem_of_getElem? (i := 5) rfl)), by decide +kernel, (tm_17 (List.mem_of_getElem? (i := 12) rfl)), (tm_17 (List.mem_of_getElem? (i := 13) rfl))⟩
set_option maxHeartbeats 4000000 in
set_option maxRecDepth 100000 in
theorem kk_X5_shafts (l : Launch) (g : vx_G) (S : vx_St) (t : Int32) (n : Nat) (hn : S.1 35 0 = nI n) (hn8 : n ≤ 8) : vx_M l g yX5_shafts cX5_shafts 4 (some .int) (vx_R 1 21) [.ref (g.2.2.1 35), .int t] S (vx_pf (pm_sh (S.1 37) n t) S) := by
  refine vx_M.intro (by decide) (Nat.le_of_ble_eq_true rfl) ?_
  intro p e s m args below meth c C
  have lp9 : ∀ (fu : Nat) (k : Nat) (t1 : Int32), (k < fu ∧ k ≤ n ∧ pm_sh (S.1 37) k t1 = pm_sh (S.1 37) n t) → vx_V p l e (vx_R 1 21) s m args below meth c (MQ below (vx_Q g (vx_pf (pm_sh (S.1 37) n t) S)) args s 0 0 (vx_A g)) g 4 9 [(0, .ref (g.2.2.1 35)), (2, .int t1), (3, .int (nI k - 1))] [] (S) := by
    intro fu
    induction fu with
    | zero =>
      intro k t1 hfu
      exact absurd hfu.1 (by omega)
    | succ fu ih =>
      intro k t1 hfu
      obtain ⟨hf1, hf2, hst⟩ := hfu
      refine vv_iload_n C dX5_shafts_9 rfl 2 rfl ?_
      refine vv_if_lt (tgt := 52) C dX5_shafts_10 (by decide) (fun h10 => ?_) (fun h10 => ?_)
      · obtain rfl := pu_dT (by omega) h10
        refine vv_iload_n C dX5_shafts_52 rfl 1 rfl ?_
        refine vv_fret C dX5_shafts_53 ?_
        exact hst
      · obtain ⟨j, rfl⟩ := pu_dF h10
        rw [nI_pred]
        refine vv_iload_n C dX5_shafts_13 rfl 1 rfl ?_
        refine vv_iload_n C dX5_shafts_14 rfl 1 rfl ?_
        refine vv_iload_n C dX5_shafts_15 rfl 2 rfl ?_
        refine vv_cS_F C (kk_X5_has l g _ _ _) yk_X5_has (tm_13 (List.mem_of_getElem? (i := 3) rfl)) (by decide) rfl (Nat.le_of_ble_eq_true rfl) rfl dX5_shafts_16 ?_
        refine vv_ifb_eq (tgt := 43) C dX5_shafts_19 (by decide) (fun h19 => ?_) (fun h19 => ?_)
        · refine vv_iconst (v := (0)) C dX5_shafts_43 (by decide) ?_
          refine vv_ior C dX5_shafts_44 ?_
          refine vv_istore_n (i := 2) (L' := [_, _, _]) C dX5_shafts_45 rfl (by decide) rfl ?_
          refine vv_iinc (L' := [_, _, _]) (j := 2) (v := (nI j - 1)) C dX5_shafts_46 rfl (pu_m1 _) (by decide) rfl ?_
          refine vv_goto (tgt := 9) C dX5_shafts_49 (by decide) ?_
          refine vv_sub (L' := [_, _, _]) [2, 1, 0] rfl ?_
          refine ih j _ ⟨by omega, by omega, ?_⟩
          rw [← hst, pm_sh, if_neg (fun q => by rw [h19] at q; cases q.1), pm_or0]
        · refine vv_aload_n C dX5_shafts_22 rfl 0 rfl ?_
          refine vv_gR C (a := 35) (k := 2) (b := 37) inlX5 rfl rfl rfl rfl (by decide) rfl (tm_3 (List.mem_of_getElem? (i := 19) rfl)) dX5_shafts_23 ?_
          refine vv_iload_n C dX5_shafts_26 rfl 2 rfl ?_
          refine vv_ialdN C (a := 37) rfl (by omega) (by decide) dX5_shafts_27 ?_
          refine vv_iconst (v := (-1)) C dX5_shafts_28 (by decide) ?_
          refine vv_icmp_eq (tgt := 43) C dX5_shafts_29 (by decide) (fun h29 => ?_) (fun h29 => ?_)
          · refine vv_iconst (v := (0)) C dX5_shafts_43 (by decide) ?_
            refine vv_ior C dX5_shafts_44 ?_
            refine vv_istore_n (i := 2) (L' := [_, _, _]) C dX5_shafts_45 rfl (by decide) rfl ?_
            refine vv_iinc (L' := [_, _, _]) (j := 2) (v := (nI j - 1)) C dX5_shafts_46 rfl (pu_m1 _) (by decide) rfl ?_
            refine vv_goto (tgt := 9) C dX5_shafts_49 (by decide) ?_
            refine vv_sub (L' := [_, _, _]) [2, 1, 0] rfl ?_
            refine ih j _ ⟨by omega, by omega, ?_⟩
            rw [← hst, pm_sh, if_neg (fun q => q.2 h29), pm_or0]
          · refine vv_iconst (v := (1)) C dX5_shafts_32 (by decide) ?_
            refine vv_aload_n C dX5_shafts_33 rfl 0 rfl ?_
            refine vv_gR C (a := 35) (k := 2) (b := 37) inlX5 rfl rfl rfl rfl (by decide) rfl (tm_3 (List.mem_of_getElem? (i := 19) rfl)) dX5_shafts_34 ?_
            refine vv_iload_n C dX5_shafts_37 rfl 2 rfl ?_
            refine vv_ialdN C (a := 37) rfl (by omega) (by decide) dX5_shafts_38 ?_
            refine vv_ishl C dX5_shafts_39 ?_
            refine vv_goto (tgt := 44) C dX5_shafts_40 (by decide) ?_
            refine vv_ior C dX5_shafts_44 ?_
            refine vv_istore_n (i := 2) (L' := [_, _, _]) C dX5_shafts_45 rfl (by decide) rfl ?_
            refine vv_iinc (L' := [_, _, _]) (j := 2) (v := (nI j - 1)) C dX5_shafts_46 rfl (pu_m1 _) (by decide) rfl ?_
            refine vv_goto (tgt := 9) C dX5_shafts_49 (by decide) ?_
            refine vv_sub (L' := [_, _, _]) [2, 1, 0] rfl ?_
            refine ih j _ ⟨by omega, by omega, ?_⟩
            rw [← hst, pm_sh, if_pos ⟨h19, h29⟩]
            rfl
  refine vv_iload_n C dX5_shafts_0 rfl 1 rfl ?_
  refine vv_istore_n (i := 2) (L' := [_, _, _]) C dX5_shafts_1 rfl (by decide) rfl ?_
  refine vv_aload_n C dX5_shafts_2 rfl 1 rfl ?_
  refine vv_getI C (a := 35) (k := 0) (o := 0) inlX5 rfl rfl rfl (by decide) rfl (tm_10 (List.mem_of_getElem? (i := 18) rfl)) dX5_shafts_3 ?_
  rw [hn]
  refine vv_iconst (v := (1)) C dX5_shafts_6 (by decide) ?_
  refine vv_isub C dX5_shafts_7 ?_
  refine vv_istore_n (i := 3) (L' := [_, _, _, _]) C dX5_shafts_8 rfl (by decide) rfl ?_
  refine vv_sub (L' := [_, _, _]) [2, 1, 0] rfl ?_
  exact lp9 (n + 1) n _ ⟨by omega, by omega, rfl⟩
theorem yk_X5_wanting : vx_yV yX5_wanting cX5_wanting 4 (some .int) 1 := ⟨(tm_17 (List.mem_of_getElem? (i := 10) rfl)), (tm_1 (List.mem_of_getElem? (i := 5) rfl)), by decide +kernel, (tm_17 (List.mem_of_getElem? (i := 8) rfl)), (tm_17 (List.mem_of_getElem? (i := 9) rfl))⟩
set_option maxHeartbeats 4000000 in
set_option maxRecDepth 100000 in
theorem kk_X5_wanting (l : Launch) (g : vx_G) (S : vx_St) (t : Int32) (n : Nat) (hn : S.1 35 0 = nI n) (hn8 : n ≤ 8) : vx_M l g yX5_wanting cX5_wanting 4 (some .int) (vx_R 2 44) [.ref (g.2.2.1 35), .int t] S (vx_pf (pu_work (pm_W (pu_hm S) (S.1 35 12) (S.1 35 9) (S.1 35 14)) t n) S) := by
  refine vx_M.intro (by decide) (Nat.le_of_ble_eq_true rfl) ?_
  intro p e s m args below meth c C
  have lp4 : ∀ (fu : Nat) (i : Nat), (n - i < fu ∧ i ≤ n) → vx_V p l e (vx_R 2 44) s m args below meth c (MQ below (vx_Q g (vx_pf (pu_work (pm_W (pu_hm S) (S.1 35 12) (S.1 35 9) (S.1 35 14)) t n) S)) args s 0 0 (vx_A g)) g 4 4 [(0, .ref (g.2.2.1 35)), (1, .int t), (2, .int (pu_work (pm_W (pu_hm S) (S.1 35 12) (S.1 35 9) (S.1 35 14)) t i)), (3, .int (nI i))] [] (S) := by
    intro fu
    induction fu with
    | zero =>
      intro i hfu
      exact absurd hfu.1 (by omega)
    | succ fu ih =>
      intro i hfu
      obtain ⟨hf1, hf2⟩ := hfu
      refine vv_iload_n C dX5_wanting_4 rfl 3 rfl ?_
      refine vv_aload_n C dX5_wanting_5 rfl 0 rfl ?_
      refine vv_getI C (a := 35) (k := 0) (o := 0) inlX5 rfl rfl rfl (by decide) rfl (tm_10 (List.mem_of_getElem? (i := 18) rfl)) dX5_wanting_6 ?_
      refine vv_icmp_ge (tgt := 44) C dX5_wanting_9 (by decide) (fun h9 => ?_) (fun h9 => ?_)
      · have g9 := pu_le h9
        have hge := pu_geT hn (by omega) (by omega) h9
        obtain rfl : n = i := by omega
        refine vv_iload_n C dX5_wanting_44 rfl 2 rfl ?_
        refine vv_fret C dX5_wanting_45 ?_
        rfl
      · have g9 := pu_nle h9
        have hlt := pu_geF hn (by omega) (by omega) h9
        refine vv_iload_n C dX5_wanting_12 rfl 2 rfl ?_
        refine vv_iload_n C dX5_wanting_13 rfl 1 rfl ?_
        refine vv_iload_n C dX5_wanting_14 rfl 3 rfl ?_
        refine vv_cS_F C (kk_X5_has l g _ _ _) yk_X5_has (tm_13 (List.mem_of_getElem? (i := 3) rfl)) (by decide) rfl (Nat.le_of_ble_eq_true rfl) rfl dX5_wanting_15 ?_
        refine vv_ifb_eq (tgt := 35) C dX5_wanting_18 (by decide) (fun h18 => ?_) (fun h18 => ?_)
        · refine vv_iconst (v := (0)) C dX5_wanting_35 (by decide) ?_
          refine vv_ior C dX5_wanting_36 ?_
          refine vv_istore_n (i := 2) (L' := [_, _, _, _]) C dX5_wanting_37 rfl (by decide) rfl ?_
          refine vv_iincN (L' := [_, _, _, _]) (j := 3) C dX5_wanting_38 rfl (by decide) rfl ?_
          refine vv_goto (tgt := 4) C dX5_wanting_41 (by decide) ?_
          refine vv_sub (L' := [_, _, _, _]) [2, 3, 1, 0] rfl ?_
          have q := ih (i + 1) ⟨by omega, by omega⟩
          rw [pu_work, if_neg (fun z => by rw [h18] at z; cases z.1)] at q
          rw [pm_or0]
          exact q
        · refine vv_aload_n C dX5_wanting_21 rfl 0 rfl ?_
          refine vv_iload_n C dX5_wanting_22 rfl 3 rfl ?_
          refine vv_cV_F C (a := 35) (kk_X5_wantsNow l g _ _ (by omega)) yk_X5_wantsNow (tm_15 (List.mem_of_getElem? (i := 12) rfl)) rfl rfl rfl (by decide) rfl (Nat.le_of_ble_eq_true rfl) rfl dX5_wanting_23 ?_
          refine vv_if_le (tgt := 35) C dX5_wanting_26 (by decide) (fun h26 => ?_) (fun h26 => ?_)
          · have g26 := pu_le h26
            refine vv_iconst (v := (0)) C dX5_wanting_35 (by decide) ?_
            refine vv_ior C dX5_wanting_36 ?_
            refine vv_istore_n (i := 2) (L' := [_, _, _, _]) C dX5_wanting_37 rfl (by decide) rfl ?_
            refine vv_iincN (L' := [_, _, _, _]) (j := 3) C dX5_wanting_38 rfl (by decide) rfl ?_
            refine vv_goto (tgt := 4) C dX5_wanting_41 (by decide) ?_
            refine vv_sub (L' := [_, _, _, _]) [2, 3, 1, 0] rfl ?_
            have q := ih (i + 1) ⟨by omega, by omega⟩
            rw [pu_work, if_neg (fun z => g26 z.2)] at q
            rw [pm_or0]
            exact q
          · have g26 := pu_nle h26
            refine vv_iconst (v := (1)) C dX5_wanting_29 (by decide) ?_
            refine vv_iload_n C dX5_wanting_30 rfl 3 rfl ?_
            refine vv_ishl C dX5_wanting_31 ?_
            refine vv_goto (tgt := 36) C dX5_wanting_32 (by decide) ?_
            refine vv_ior C dX5_wanting_36 ?_
            refine vv_istore_n (i := 2) (L' := [_, _, _, _]) C dX5_wanting_37 rfl (by decide) rfl ?_
            refine vv_iincN (L' := [_, _, _, _]) (j := 3) C dX5_wanting_38 rfl (by decide) rfl ?_
            refine vv_goto (tgt := 4) C dX5_wanting_41 (by decide) ?_
            refine vv_sub (L' := [_, _, _, _]) [2, 3, 1, 0] rfl ?_
            have q := ih (i + 1) ⟨by omega, by omega⟩
            rw [pu_work, if_pos ⟨h18, g26⟩] at q
            exact q
  refine vv_iconst (v := (0)) C dX5_wanting_0 (by decide) ?_
  refine vv_istore_n (i := 2) (L' := [_, _, _]) C dX5_wanting_1 rfl (by decide) rfl ?_
  refine vv_iconst (v := (nI 0)) C dX5_wanting_2 (by decide) ?_
  refine vv_istore_n (i := 3) (L' := [_, _, _, _]) C dX5_wanting_3 rfl (by decide) rfl ?_
  refine vv_sub (L' := [_, _, _, _]) [2, 3, 1, 0] rfl ?_
  exact lp4 (n + 1) 0 ⟨by omega, by omega⟩
theorem yk_X5_takesBy : vx_yV yX5_takesBy cX5_takesBy 4 (some .int) 1 := ⟨(tm_17 (List.mem_of_getElem? (i := 18) rfl)), (tm_1 (List.mem_of_getElem? (i := 5) rfl)), by decide +kernel, (tm_17 (List.mem_of_getElem? (i := 16) rfl)), (tm_17 (List.mem_of_getElem? (i := 17) rfl))⟩
set_option maxHeartbeats 4000000 in
set_option maxRecDepth 100000 in
theorem kk_X5_takesBy (l : Launch) (g : vx_G) (S : vx_St) (t : Int32) (n : Nat) (hn : S.1 35 0 = nI n) (hn8 : n ≤ 8) : vx_M l g yX5_takesBy cX5_takesBy 4 (some .int) (vx_R 2 44) [.ref (g.2.2.1 35), .int t] S (vx_pf (pu_sum (pm_W (pu_hm S) (S.1 35 12) (S.1 35 9) (S.1 35 14)) t n) S) := by
  refine vx_M.intro (by decide) (Nat.le_of_ble_eq_true rfl) ?_
  intro p e s m args below meth c C
  have lp4 : ∀ (fu : Nat) (i : Nat), (n - i < fu ∧ i ≤ n) → vx_V p l e (vx_R 2 44) s m args below meth c (MQ below (vx_Q g (vx_pf (pu_sum (pm_W (pu_hm S) (S.1 35 12) (S.1 35 9) (S.1 35 14)) t n) S)) args s 0 0 (vx_A g)) g 4 4 [(0, .ref (g.2.2.1 35)), (1, .int t), (2, .int (pu_sum (pm_W (pu_hm S) (S.1 35 12) (S.1 35 9) (S.1 35 14)) t i)), (3, .int (nI i))] [] (S) := by
    intro fu
    induction fu with
    | zero =>
      intro i hfu
      exact absurd hfu.1 (by omega)
    | succ fu ih =>
      intro i hfu
      obtain ⟨hf1, hf2⟩ := hfu
      refine vv_iload_n C dX5_takesBy_4 rfl 3 rfl ?_
      refine vv_aload_n C dX5_takesBy_5 rfl 0 rfl ?_
      refine vv_getI C (a := 35) (k := 0) (o := 0) inlX5 rfl rfl rfl (by decide) rfl (tm_10 (List.mem_of_getElem? (i := 18) rfl)) dX5_takesBy_6 ?_
      refine vv_icmp_ge (tgt := 38) C dX5_takesBy_9 (by decide) (fun h9 => ?_) (fun h9 => ?_)
      · have hge := pu_geT hn (by omega) (by omega) h9
        obtain rfl : n = i := by omega
        refine vv_iload_n C dX5_takesBy_38 rfl 2 rfl ?_
        refine vv_fret C dX5_takesBy_39 ?_
        rfl
      · have hlt := pu_geF hn (by omega) (by omega) h9
        refine vv_iload_n C dX5_takesBy_12 rfl 2 rfl ?_
        refine vv_iload_n C dX5_takesBy_13 rfl 1 rfl ?_
        refine vv_iload_n C dX5_takesBy_14 rfl 3 rfl ?_
        refine vv_cS_F C (kk_X5_has l g _ _ _) yk_X5_has (tm_13 (List.mem_of_getElem? (i := 3) rfl)) (by decide) rfl (Nat.le_of_ble_eq_true rfl) rfl dX5_takesBy_15 ?_
        refine vv_ifb_eq (tgt := 29) C dX5_takesBy_18 (by decide) (fun h18 => ?_) (fun h18 => ?_)
        · refine vv_iconst (v := (0)) C dX5_takesBy_29 (by decide) ?_
          refine vv_iadd C dX5_takesBy_30 ?_
          refine vv_istore_n (i := 2) (L' := [_, _, _, _]) C dX5_takesBy_31 rfl (by decide) rfl ?_
          refine vv_iincN (L' := [_, _, _, _]) (j := 3) C dX5_takesBy_32 rfl (by decide) rfl ?_
          refine vv_goto (tgt := 4) C dX5_takesBy_35 (by decide) ?_
          refine vv_sub (L' := [_, _, _, _]) [2, 3, 1, 0] rfl ?_
          have q := ih (i + 1) ⟨by omega, by omega⟩
          rw [pu_sum, if_neg (fun z => by rw [h18] at z; cases z)] at q
          rw [pm_add0]
          exact q
        · refine vv_aload_n C dX5_takesBy_21 rfl 0 rfl ?_
          refine vv_iload_n C dX5_takesBy_22 rfl 3 rfl ?_
          refine vv_cV_F C (a := 35) (kk_X5_wantsNow l g _ _ (by omega)) yk_X5_wantsNow (tm_15 (List.mem_of_getElem? (i := 12) rfl)) rfl rfl rfl (by decide) rfl (Nat.le_of_ble_eq_true rfl) rfl dX5_takesBy_23 ?_
          refine vv_goto (tgt := 30) C dX5_takesBy_26 (by decide) ?_
          refine vv_iadd C dX5_takesBy_30 ?_
          refine vv_istore_n (i := 2) (L' := [_, _, _, _]) C dX5_takesBy_31 rfl (by decide) rfl ?_
          refine vv_iincN (L' := [_, _, _, _]) (j := 3) C dX5_takesBy_32 rfl (by decide) rfl ?_
          refine vv_goto (tgt := 4) C dX5_takesBy_35 (by decide) ?_
          refine vv_sub (L' := [_, _, _, _]) [2, 3, 1, 0] rfl ?_
          have q := ih (i + 1) ⟨by omega, by omega⟩
          rw [pu_sum, if_pos h18] at q
          exact q
  refine vv_iconst (v := (0)) C dX5_takesBy_0 (by decide) ?_
  refine vv_istore_n (i := 2) (L' := [_, _, _]) C dX5_takesBy_1 rfl (by decide) rfl ?_
  refine vv_iconst (v := (nI 0)) C dX5_takesBy_2 (by decide) ?_
  refine vv_istore_n (i := 3) (L' := [_, _, _, _]) C dX5_takesBy_3 rfl (by decide) rfl ?_
  refine vv_sub (L' := [_, _, _, _]) [2, 3, 1, 0] rfl ?_
  exact lp4 (n + 1) 0 ⟨by omega, by omega⟩
theorem yk_X5_sumOf : vx_yV yX5_sumOf cX5_sumOf 4 (some .int) 1 := ⟨(tm_24 (List.mem_of_getElem? (i := 18) rfl)), (tm_1 (List.mem_of_getElem? (i := 5) rfl)), by decide +kernel, (tm_24 (List.mem_of_getElem? (i := 16) rfl)), (tm_24 (List.mem_of_getElem? (i := 17) rfl))⟩
set_option maxHeartbeats 4000000 in
set_option maxRecDepth 100000 in
theorem kk_X5_sumOf (l : Launch) (g : vx_G) (S : vx_St) (t : Int32) (n : Nat) (hn : S.1 35 0 = nI n) (hn8 : n ≤ 8) : vx_M l g yX5_sumOf cX5_sumOf 4 (some .int) (vx_R 1 21) [.ref (g.2.2.1 35), .int t] S (vx_pf (pu_sum (S.1 40) t n) S) := by
  refine vx_M.intro (by decide) (Nat.le_of_ble_eq_true rfl) ?_
  intro p e s m args below meth c C
  have lp4 : ∀ (fu : Nat) (i : Nat), (n - i < fu ∧ i ≤ n) → vx_V p l e (vx_R 1 21) s m args below meth c (MQ below (vx_Q g (vx_pf (pu_sum (S.1 40) t n) S)) args s 0 0 (vx_A g)) g 4 4 [(0, .ref (g.2.2.1 35)), (1, .int t), (2, .int (pu_sum (S.1 40) t i)), (3, .int (nI i))] [] (S) := by
    intro fu
    induction fu with
    | zero =>
      intro i hfu
      exact absurd hfu.1 (by omega)
    | succ fu ih =>
      intro i hfu
      obtain ⟨hf1, hf2⟩ := hfu
      refine vv_iload_n C dX5_sumOf_4 rfl 3 rfl ?_
      refine vv_aload_n C dX5_sumOf_5 rfl 0 rfl ?_
      refine vv_getI C (a := 35) (k := 0) (o := 0) inlX5 rfl rfl rfl (by decide) rfl (tm_10 (List.mem_of_getElem? (i := 18) rfl)) dX5_sumOf_6 ?_
      refine vv_icmp_ge (tgt := 39) C dX5_sumOf_9 (by decide) (fun h9 => ?_) (fun h9 => ?_)
      · have hge := pu_geT hn (by omega) (by omega) h9
        obtain rfl : n = i := by omega
        refine vv_iload_n C dX5_sumOf_39 rfl 2 rfl ?_
        refine vv_fret C dX5_sumOf_40 ?_
        rfl
      · have hlt := pu_geF hn (by omega) (by omega) h9
        refine vv_iload_n C dX5_sumOf_12 rfl 2 rfl ?_
        refine vv_iload_n C dX5_sumOf_13 rfl 1 rfl ?_
        refine vv_iload_n C dX5_sumOf_14 rfl 3 rfl ?_
        refine vv_cS_F C (kk_X5_has l g _ _ _) yk_X5_has (tm_13 (List.mem_of_getElem? (i := 3) rfl)) (by decide) rfl (Nat.le_of_ble_eq_true rfl) rfl dX5_sumOf_15 ?_
        refine vv_ifb_eq (tgt := 30) C dX5_sumOf_18 (by decide) (fun h18 => ?_) (fun h18 => ?_)
        · refine vv_iconst (v := (0)) C dX5_sumOf_30 (by decide) ?_
          refine vv_iadd C dX5_sumOf_31 ?_
          refine vv_istore_n (i := 2) (L' := [_, _, _, _]) C dX5_sumOf_32 rfl (by decide) rfl ?_
          refine vv_iincN (L' := [_, _, _, _]) (j := 3) C dX5_sumOf_33 rfl (by decide) rfl ?_
          refine vv_goto (tgt := 4) C dX5_sumOf_36 (by decide) ?_
          refine vv_sub (L' := [_, _, _, _]) [2, 3, 1, 0] rfl ?_
          have q := ih (i + 1) ⟨by omega, by omega⟩
          rw [pu_sum, if_neg (fun z => by rw [h18] at z; cases z)] at q
          rw [pm_add0]
          exact q
        · refine vv_aload_n C dX5_sumOf_21 rfl 0 rfl ?_
          refine vv_gR C (a := 35) (k := 5) (b := 40) inlX5 rfl rfl rfl rfl (by decide) rfl (tm_3 (List.mem_of_getElem? (i := 22) rfl)) dX5_sumOf_22 ?_
          refine vv_iload_n C dX5_sumOf_25 rfl 3 rfl ?_
          refine vv_ialdN C (a := 40) rfl (by omega) (by decide) dX5_sumOf_26 ?_
          refine vv_goto (tgt := 31) C dX5_sumOf_27 (by decide) ?_
          refine vv_iadd C dX5_sumOf_31 ?_
          refine vv_istore_n (i := 2) (L' := [_, _, _, _]) C dX5_sumOf_32 rfl (by decide) rfl ?_
          refine vv_iincN (L' := [_, _, _, _]) (j := 3) C dX5_sumOf_33 rfl (by decide) rfl ?_
          refine vv_goto (tgt := 4) C dX5_sumOf_36 (by decide) ?_
          refine vv_sub (L' := [_, _, _, _]) [2, 3, 1, 0] rfl ?_
          have q := ih (i + 1) ⟨by omega, by omega⟩
          rw [pu_sum, if_pos h18] at q
          exact q
  refine vv_iconst (v := (0)) C dX5_sumOf_0 (by decide) ?_
  refine vv_istore_n (i := 2) (L' := [_, _, _]) C dX5_sumOf_1 rfl (by decide) rfl ?_
  refine vv_iconst (v := (nI 0)) C dX5_sumOf_2 (by decide) ?_
  refine vv_istore_n (i := 3) (L' := [_, _, _, _]) C dX5_sumOf_3 rfl (by decide) rfl ?_
  refine vv_sub (L' := [_, _, _, _]) [2, 3, 1, 0] rfl ?_
  exact lp4 (n + 1) 0 ⟨by omega, by omega⟩
theorem yk_X5_goesBy : vx_yV yX5_goesBy cX5_goesBy 6 (some .int) 1 := ⟨(tm_17 (List.mem_of_getElem? (i := 6) rfl)), (tm_1 (List.mem_of_getElem? (i := 5) rfl)), by decide +kernel, (tm_17 (List.mem_of_getElem? (i := 4) rfl)), (tm_17 (List.mem_of_getElem? (i := 5) rfl))⟩
set_option maxHeartbeats 4000000 in
set_option maxRecDepth 100000 in
theorem kk_X5_goesBy (l : Launch) (g : vx_G) (S : vx_St) (t : Int32) (n : Nat) (hn : S.1 35 0 = nI n) (hn8 : n ≤ 8) : vx_M l g yX5_goesBy cX5_goesBy 6 (some .int) (vx_R 3 67) [.ref (g.2.2.1 35), .int t] S (vx_pf (pm_G (pu_hm S) (S.1 35 16) (S.1 35 12) (S.1 35 9) (S.1 35 14) n t) S) := by
  refine vx_M.intro (by decide) (Nat.le_of_ble_eq_true rfl) ?_
  intro p e s m args below meth c C
  have lp22 : ∀ (fu : Nat) (i : Nat), (n - i < fu ∧ i ≤ n) → vx_V p l e (vx_R 3 67) s m args below meth c (MQ below (vx_Q g (vx_pf (pm_G (pu_hm S) (S.1 35 16) (S.1 35 12) (S.1 35 9) (S.1 35 14) n t) S)) args s 0 0 (vx_A g)) g 6 22 [(0, .ref (g.2.2.1 35)), (3, .int (pm_sh (S.1 37) n (pu_work (pm_W (pu_hm S) (S.1 35 12) (S.1 35 9) (S.1 35 14)) t n))), (4, .int (pm_gl (S.1 36) (S.1 41) (S.1 35 16) (pm_sh (S.1 37) n (pu_work (pm_W (pu_hm S) (S.1 35 12) (S.1 35 9) (S.1 35 14)) t n)) (pu_sum (pm_W (pu_hm S) (S.1 35 12) (S.1 35 9) (S.1 35 14)) (pu_work (pm_W (pu_hm S) (S.1 35 12) (S.1 35 9) (S.1 35 14)) t n) n) i)), (5, .int (nI i))] [] (S) := by
    intro fu
    induction fu with
    | zero =>
      intro i hfu
      exact absurd hfu.1 (by omega)
    | succ fu ih =>
      intro i hfu
      obtain ⟨hf1, hf2⟩ := hfu
      refine vv_iload C dX5_goesBy_22 3 rfl ?_
      refine vv_aload_n C dX5_goesBy_24 rfl 0 rfl ?_
      refine vv_getI C (a := 35) (k := 0) (o := 0) inlX5 rfl rfl rfl (by decide) rfl (tm_10 (List.mem_of_getElem? (i := 18) rfl)) dX5_goesBy_25 ?_
      refine vv_icmp_ge (tgt := 86) C dX5_goesBy_28 (by decide) (fun h28 => ?_) (fun h28 => ?_)
      · have hge := pu_geT hn (by omega) (by omega) h28
        obtain rfl : n = i := by omega
        refine vv_iload C dX5_goesBy_86 2 rfl ?_
        refine vv_fret C dX5_goesBy_88 ?_
        rfl
      · have hlt := pu_geF hn (by omega) (by omega) h28
        refine vv_iload C dX5_goesBy_31 2 rfl ?_
        refine vv_iload_n C dX5_goesBy_33 rfl 1 rfl ?_
        refine vv_iload C dX5_goesBy_34 3 rfl ?_
        refine vv_cS_F C (kk_X5_has l g _ _ _) yk_X5_has (tm_13 (List.mem_of_getElem? (i := 3) rfl)) (by decide) rfl (Nat.le_of_ble_eq_true rfl) rfl dX5_goesBy_36 ?_
        refine vv_ifb_eq (tgt := 76) C dX5_goesBy_39 (by decide) (fun h39 => ?_) (fun h39 => ?_)
        · refine vv_iconst (v := (0)) C dX5_goesBy_76 (by decide) ?_
          refine vv_iadd C dX5_goesBy_77 ?_
          refine vv_istore (L' := [_, _, _, _]) C dX5_goesBy_78 (by decide) rfl ?_
          refine vv_iincN (L' := [_, _, _, _]) (j := 3) C dX5_goesBy_80 rfl (by decide) rfl ?_
          refine vv_goto (tgt := 22) C dX5_goesBy_83 (by decide) ?_
          refine vv_sub (L' := [_, _, _, _]) [2, 3, 1, 0] rfl ?_
          have q := ih (i + 1) ⟨by omega, by omega⟩
          rw [pm_gl, if_neg (fun z => by rw [h39] at z; cases z.1)] at q
          rw [pm_add0]
          exact q
        · refine vv_aload_n C dX5_goesBy_42 rfl 0 rfl ?_
          refine vv_gR C (a := 35) (k := 1) (b := 36) inlX5 rfl rfl rfl rfl (by decide) rfl (tm_3 (List.mem_of_getElem? (i := 18) rfl)) dX5_goesBy_43 ?_
          refine vv_iload C dX5_goesBy_46 3 rfl ?_
          refine vv_ialdN C (a := 36) rfl (by omega) (by decide) dX5_goesBy_48 ?_
          refine vv_iconst (v := (4)) C dX5_goesBy_49 (by decide) ?_
          refine vv_icmp_eq (tgt := 76) C dX5_goesBy_50 (by decide) (fun h50 => ?_) (fun h50 => ?_)
          · refine vv_iconst (v := (0)) C dX5_goesBy_76 (by decide) ?_
            refine vv_iadd C dX5_goesBy_77 ?_
            refine vv_istore (L' := [_, _, _, _]) C dX5_goesBy_78 (by decide) rfl ?_
            refine vv_iincN (L' := [_, _, _, _]) (j := 3) C dX5_goesBy_80 rfl (by decide) rfl ?_
            refine vv_goto (tgt := 22) C dX5_goesBy_83 (by decide) ?_
            refine vv_sub (L' := [_, _, _, _]) [2, 3, 1, 0] rfl ?_
            have q := ih (i + 1) ⟨by omega, by omega⟩
            rw [pm_gl, if_neg (fun z => z.2 h50)] at q
            rw [pm_add0]
            exact q
          · refine vv_aload_n C dX5_goesBy_53 rfl 0 rfl ?_
            refine vv_gR C (a := 35) (k := 6) (b := 41) inlX5 rfl rfl rfl rfl (by decide) rfl (tm_3 (List.mem_of_getElem? (i := 23) rfl)) dX5_goesBy_54 ?_
            refine vv_iload C dX5_goesBy_57 3 rfl ?_
            refine vv_ialdN C (a := 41) rfl (by omega) (by decide) dX5_goesBy_59 ?_
            refine vv_aload_n C dX5_goesBy_60 rfl 0 rfl ?_
            refine vv_getZ C (a := 35) (k := 16) (o := 0) inlX5 rfl rfl rfl (by decide) rfl (tm_14 (List.mem_of_getElem? (i := 19) rfl)) dX5_goesBy_61 ?_
            refine vv_ifz_eq (tgt := 71) C dX5_goesBy_64 (by decide) (fun h64 => ?_) (fun h64 => ?_)
            · refine vv_iconst (v := (0)) C dX5_goesBy_71 (by decide) ?_
              refine vv_iadd C dX5_goesBy_72 ?_
              refine vv_goto (tgt := 77) C dX5_goesBy_73 (by decide) ?_
              refine vv_iadd C dX5_goesBy_77 ?_
              refine vv_istore (L' := [_, _, _, _]) C dX5_goesBy_78 (by decide) rfl ?_
              refine vv_iincN (L' := [_, _, _, _]) (j := 3) C dX5_goesBy_80 rfl (by decide) rfl ?_
              refine vv_goto (tgt := 22) C dX5_goesBy_83 (by decide) ?_
              refine vv_sub (L' := [_, _, _, _]) [2, 3, 1, 0] rfl ?_
              have q := ih (i + 1) ⟨by omega, by omega⟩
              rw [pm_gl, if_pos ⟨h39, h50⟩, if_pos h64] at q
              exact q
            · refine vv_iconst (v := (1)) C dX5_goesBy_67 (by decide) ?_
              refine vv_goto (tgt := 72) C dX5_goesBy_68 (by decide) ?_
              refine vv_iadd C dX5_goesBy_72 ?_
              refine vv_goto (tgt := 77) C dX5_goesBy_73 (by decide) ?_
              refine vv_iadd C dX5_goesBy_77 ?_
              refine vv_istore (L' := [_, _, _, _]) C dX5_goesBy_78 (by decide) rfl ?_
              refine vv_iincN (L' := [_, _, _, _]) (j := 3) C dX5_goesBy_80 rfl (by decide) rfl ?_
              refine vv_goto (tgt := 22) C dX5_goesBy_83 (by decide) ?_
              refine vv_sub (L' := [_, _, _, _]) [2, 3, 1, 0] rfl ?_
              have q := ih (i + 1) ⟨by omega, by omega⟩
              rw [pm_gl, if_pos ⟨h39, h50⟩, if_neg h64] at q
              exact q
  refine vv_aload_n C dX5_goesBy_0 rfl 0 rfl ?_
  refine vv_iload_n C dX5_goesBy_1 rfl 1 rfl ?_
  refine vv_cV_F C (a := 35) (kk_X5_wanting l g _ _ n hn hn8) yk_X5_wanting (tm_17 (List.mem_of_getElem? (i := 7) rfl)) rfl rfl rfl (by decide) rfl (Nat.le_of_ble_eq_true rfl) rfl dX5_goesBy_2 ?_
  refine vv_istore_n (i := 2) (L' := [_, _, _]) C dX5_goesBy_5 rfl (by decide) rfl ?_
  refine vv_aload_n C dX5_goesBy_6 rfl 1 rfl ?_
  refine vv_iload_n C dX5_goesBy_7 rfl 0 rfl ?_
  refine vv_cV_F C (a := 35) (kk_X5_shafts l g _ _ n hn hn8) yk_X5_shafts (tm_17 (List.mem_of_getElem? (i := 11) rfl)) rfl rfl rfl (by decide) rfl (Nat.le_of_ble_eq_true rfl) rfl dX5_goesBy_8 ?_
  refine vv_istore_n (i := 3) (L' := [_, _, _, _]) C dX5_goesBy_11 rfl (by decide) rfl ?_
  refine vv_aload_n C dX5_goesBy_12 rfl 2 rfl ?_
  refine vv_iload_n C dX5_goesBy_13 rfl 1 rfl ?_
  refine vv_cV_F C (a := 35) (kk_X5_takesBy l g _ _ n hn hn8) yk_X5_takesBy (tm_17 (List.mem_of_getElem? (i := 15) rfl)) rfl rfl rfl (by decide) rfl (Nat.le_of_ble_eq_true rfl) rfl dX5_goesBy_14 ?_
  refine vv_istore (L' := [_, _, _, _, _]) C dX5_goesBy_17 (by decide) rfl ?_
  refine vv_iconst (v := (nI 0)) C dX5_goesBy_19 (by decide) ?_
  refine vv_istore (L' := [_, _, _, _, _, _]) C dX5_goesBy_20 (by decide) rfl ?_
  refine vv_sub (L' := [_, _, _, _]) [4, 2, 1, 0] rfl ?_
  exact lp22 (n + 1) 0 ⟨by omega, by omega⟩
theorem yk_X5_everybody : vx_yV yX5_everybody cX5_everybody 1 (some .int) 0 := ⟨(tm_17 (List.mem_of_getElem? (i := 2) rfl)), (tm_1 (List.mem_of_getElem? (i := 5) rfl)), by decide +kernel, (tm_17 (List.mem_of_getElem? (i := 0) rfl)), (tm_17 (List.mem_of_getElem? (i := 1) rfl))⟩
set_option maxHeartbeats 4000000 in
set_option maxRecDepth 100000 in
theorem kk_X5_everybody (l : Launch) (g : vx_G) (S : vx_St)  : vx_M l g yX5_everybody cX5_everybody 1 (some .int) (vx_R 0 0) [.ref (g.2.2.1 35)] S (vx_pf (pu_all (S.1 35 0)) S) := by
  refine vx_M.intro (by decide) (Nat.le_of_ble_eq_true rfl) ?_
  intro p e s m args below meth c C
  refine vv_iconst (v := (1)) C dX5_everybody_0 (by decide) ?_
  refine vv_aload_n C dX5_everybody_1 rfl 0 rfl ?_
  refine vv_getI C (a := 35) (k := 0) (o := 0) inlX5 rfl rfl rfl (by decide) rfl (tm_10 (List.mem_of_getElem? (i := 18) rfl)) dX5_everybody_2 ?_
  refine vv_ishl C dX5_everybody_5 ?_
  refine vv_iconst (v := (1)) C dX5_everybody_6 (by decide) ?_
  refine vv_isub C dX5_everybody_7 ?_
  refine vv_fret C dX5_everybody_8 ?_
  rfl
theorem yk_X5_goes : vx_yV yX5_goes cX5_goes 2 (some .int) 1 := ⟨(tm_16 (List.mem_of_getElem? (i := 22) rfl)), (tm_1 (List.mem_of_getElem? (i := 5) rfl)), by decide +kernel, (tm_16 (List.mem_of_getElem? (i := 20) rfl)), (tm_16 (List.mem_of_getElem? (i := 21) rfl))⟩
set_option maxHeartbeats 4000000 in
set_option maxRecDepth 100000 in
theorem kk_X5_goes (l : Launch) (g : vx_G) (S : vx_St) (t : Int32) (n : Nat) (hn : S.1 35 0 = nI n) (hn8 : n ≤ 8) : vx_M l g yX5_goes cX5_goes 2 (some .int) (vx_R 4 92) [.ref (g.2.2.1 35), .int t] S (vx_pf (if aw_bits t (S.1 35 0) = true then pm_G (pu_hm S) (S.1 35 16) (S.1 35 12) (S.1 35 9) (S.1 35 14) n t else -102) S) := by
  refine vx_M.intro (by decide) (Nat.le_of_ble_eq_true rfl) ?_
  intro p e s m args below meth c C
  refine vv_iload_n C dX5_goes_0 rfl 1 rfl ?_
  refine vv_iconst (v := (0)) C dX5_goes_1 (by decide) ?_
  refine vv_aload_n C dX5_goes_2 rfl 0 rfl ?_
  refine vv_cV_F C (a := 35) (kk_X5_everybody l g _) yk_X5_everybody (tm_16 (List.mem_of_getElem? (i := 23) rfl)) rfl rfl rfl (by decide) rfl (Nat.le_of_ble_eq_true rfl) rfl dX5_goes_3 ?_
  refine vv_cS_F C (kk_X5_within l g _ _ _ _) yk_X5_within (tm_10 (List.mem_of_getElem? (i := 22) rfl)) (by decide) rfl (Nat.le_of_ble_eq_true rfl) rfl dX5_goes_6 ?_
  refine vv_ifb_eq (tgt := 20) C dX5_goes_9 (by decide) (fun h9 => ?_) (fun h9 => ?_)
  · refine vv_bipush (v := (-102)) C dX5_goes_20 (by decide) ?_
    refine vv_fret C dX5_goes_22 ?_
    rw [if_neg (show ¬ aw_bits t (S.1 35 0) = true by rw [show aw_bits t (S.1 35 0) = false from h9]; decide)]
  · refine vv_aload_n C dX5_goes_12 rfl 0 rfl ?_
    refine vv_iload_n C dX5_goes_13 rfl 1 rfl ?_
    refine vv_cV_F C (a := 35) (kk_X5_goesBy l g _ _ n hn hn8) yk_X5_goesBy (tm_17 (List.mem_of_getElem? (i := 3) rfl)) rfl rfl rfl (by decide) rfl (Nat.le_of_ble_eq_true rfl) rfl dX5_goes_14 ?_
    refine vv_goto (tgt := 22) C dX5_goes_17 (by decide) ?_
    refine vv_fret C dX5_goes_22 ?_
    rw [if_pos (show aw_bits t (S.1 35 0) = true from h9)]
theorem yk_X5_working : vx_yV yX5_working cX5_working 4 (some .int) 0 := ⟨(tm_19 (List.mem_of_getElem? (i := 7) rfl)), (tm_1 (List.mem_of_getElem? (i := 5) rfl)), by decide +kernel, (tm_19 (List.mem_of_getElem? (i := 5) rfl)), (tm_19 (List.mem_of_getElem? (i := 6) rfl))⟩
set_option maxHeartbeats 4000000 in
set_option maxRecDepth 100000 in
theorem kk_X5_working (l : Launch) (g : vx_G) (S : vx_St) (n : Nat) (hn : S.1 35 0 = nI n) (hn8 : n ≤ 8) : vx_M l g yX5_working cX5_working 4 (some .int) (vx_R 4 92) [.ref (g.2.2.1 35)] S (vx_pf (pm_set (pu_hm S) (S.1 35 16) (S.1 35 11) (S.1 35 12) (S.1 35 9) (S.1 35 14) n) S) := by
  refine vx_M.intro (by decide) (Nat.le_of_ble_eq_true rfl) ?_
  intro p e s m args below meth c C
  have lp16 : ∀ (fu : Nat) (k : Nat) (t : Int32), (k < fu ∧ k ≤ n ∧ pm_wk (pm_G (pu_hm S) (S.1 35 16) (S.1 35 12) (S.1 35 9) (S.1 35 14) n) (S.1 36) (S.1 35 11) k t = pm_set (pu_hm S) (S.1 35 16) (S.1 35 11) (S.1 35 12) (S.1 35 9) (S.1 35 14) n) → vx_V p l e (vx_R 4 92) s m args below meth c (MQ below (vx_Q g (vx_pf (pm_set (pu_hm S) (S.1 35 16) (S.1 35 11) (S.1 35 12) (S.1 35 9) (S.1 35 14) n) S)) args s 0 0 (vx_A g)) g 4 16 [(0, .ref (g.2.2.1 35)), (1, .int t), (2, .int (nI k - 1))] [] (S) := by
    intro fu
    induction fu with
    | zero =>
      intro k t hfu
      exact absurd hfu.1 (by omega)
    | succ fu ih =>
      intro k t hfu
      obtain ⟨hf1, hf2, hst⟩ := hfu
      refine vv_iload_n C dX5_working_16 rfl 2 rfl ?_
      refine vv_if_lt (tgt := 78) C dX5_working_17 (by decide) (fun h17 => ?_) (fun h17 => ?_)
      · obtain rfl := pu_dT (by omega) h17
        refine vv_iload_n C dX5_working_78 rfl 1 rfl ?_
        refine vv_fret C dX5_working_79 ?_
        exact hst
      · obtain ⟨j, rfl⟩ := pu_dF h17
        rw [nI_pred]
        refine vv_iload_n C dX5_working_20 rfl 1 rfl ?_
        refine vv_iload_n C dX5_working_21 rfl 2 rfl ?_
        refine vv_cS_F C (kk_X5_has l g _ _ _) yk_X5_has (tm_13 (List.mem_of_getElem? (i := 3) rfl)) (by decide) rfl (Nat.le_of_ble_eq_true rfl) rfl dX5_working_22 ?_
        refine vv_ifb_eq (tgt := 54) C dX5_working_25 (by decide) (fun h25 => ?_) (fun h25 => ?_)
        · refine vv_iconst (v := (0)) C dX5_working_54 (by decide) ?_
          refine vv_istore_n (i := 3) (L' := [_, _, _, _]) C dX5_working_55 rfl (by decide) rfl ?_
          refine vv_iload_n C dX5_working_56 rfl 0 rfl ?_
          refine vv_if_eq (tgt := 70) C dX5_working_57 (by decide) (fun h57 => ?_) (fun h57 => ?_)
          · refine vv_iload_n C dX5_working_70 rfl 2 rfl ?_
            refine vv_istore_n (i := 1) (L' := [_, _, _, _]) C dX5_working_71 rfl (by decide) rfl ?_
            refine vv_iinc (L' := [_, _, _, _]) (j := 3) (v := (nI j - 1)) C dX5_working_72 rfl (pu_m1 _) (by decide) rfl ?_
            refine vv_goto (tgt := 16) C dX5_working_75 (by decide) ?_
            refine vv_sub (L' := [_, _, _]) [3, 1, 0] rfl ?_
            refine ih j _ ⟨by omega, by omega, ?_⟩
            rw [← hst, pm_wk, if_neg (fun z => by rw [h25] at z; cases z.1)]
          · exact absurd rfl h57
        · refine vv_aload_n C dX5_working_28 rfl 0 rfl ?_
          refine vv_gR C (a := 35) (k := 1) (b := 36) inlX5 rfl rfl rfl rfl (by decide) rfl (tm_3 (List.mem_of_getElem? (i := 18) rfl)) dX5_working_29 ?_
          refine vv_iload_n C dX5_working_32 rfl 2 rfl ?_
          refine vv_ialdN C (a := 36) rfl (by omega) (by decide) dX5_working_33 ?_
          refine vv_iconst (v := (1)) C dX5_working_34 (by decide) ?_
          refine vv_icmp_eq (tgt := 54) C dX5_working_35 (by decide) (fun h35 => ?_) (fun h35 => ?_)
          · refine vv_iconst (v := (0)) C dX5_working_54 (by decide) ?_
            refine vv_istore_n (i := 3) (L' := [_, _, _, _]) C dX5_working_55 rfl (by decide) rfl ?_
            refine vv_iload_n C dX5_working_56 rfl 0 rfl ?_
            refine vv_if_eq (tgt := 70) C dX5_working_57 (by decide) (fun h57 => ?_) (fun h57 => ?_)
            · refine vv_iload_n C dX5_working_70 rfl 2 rfl ?_
              refine vv_istore_n (i := 1) (L' := [_, _, _, _]) C dX5_working_71 rfl (by decide) rfl ?_
              refine vv_iinc (L' := [_, _, _, _]) (j := 3) (v := (nI j - 1)) C dX5_working_72 rfl (pu_m1 _) (by decide) rfl ?_
              refine vv_goto (tgt := 16) C dX5_working_75 (by decide) ?_
              refine vv_sub (L' := [_, _, _]) [3, 1, 0] rfl ?_
              refine ih j _ ⟨by omega, by omega, ?_⟩
              rw [← hst, pm_wk, if_neg (fun z => z.2.1 h35)]
            · exact absurd rfl h57
          · refine vv_aload_n C dX5_working_38 rfl 0 rfl ?_
            refine vv_iload_n C dX5_working_39 rfl 1 rfl ?_
            refine vv_cV_F C (a := 35) (kk_X5_goesBy l g _ _ n hn hn8) yk_X5_goesBy (tm_17 (List.mem_of_getElem? (i := 3) rfl)) rfl rfl rfl (by decide) rfl (Nat.le_of_ble_eq_true rfl) rfl dX5_working_40 ?_
            refine vv_aload_n C dX5_working_43 rfl 0 rfl ?_
            refine vv_getI C (a := 35) (k := 11) (o := 0) inlX5 rfl rfl rfl (by decide) rfl (tm_4 (List.mem_of_getElem? (i := 3) rfl)) dX5_working_44 ?_
            refine vv_icmp_le (tgt := 54) C dX5_working_47 (by decide) (fun h47 => ?_) (fun h47 => ?_)
            · refine vv_iconst (v := (0)) C dX5_working_54 (by decide) ?_
              refine vv_istore_n (i := 3) (L' := [_, _, _, _]) C dX5_working_55 rfl (by decide) rfl ?_
              refine vv_iload_n C dX5_working_56 rfl 0 rfl ?_
              refine vv_if_eq (tgt := 70) C dX5_working_57 (by decide) (fun h57 => ?_) (fun h57 => ?_)
              · refine vv_iload_n C dX5_working_70 rfl 2 rfl ?_
                refine vv_istore_n (i := 1) (L' := [_, _, _, _]) C dX5_working_71 rfl (by decide) rfl ?_
                refine vv_iinc (L' := [_, _, _, _]) (j := 3) (v := (nI j - 1)) C dX5_working_72 rfl (pu_m1 _) (by decide) rfl ?_
                refine vv_goto (tgt := 16) C dX5_working_75 (by decide) ?_
                refine vv_sub (L' := [_, _, _]) [3, 1, 0] rfl ?_
                refine ih j _ ⟨by omega, by omega, ?_⟩
                rw [← hst, pm_wk, if_neg (fun z => z.2.2 h47)]
              · exact absurd rfl h57
            · refine vv_iconst (v := (1)) C dX5_working_50 (by decide) ?_
              refine vv_goto (tgt := 55) C dX5_working_51 (by decide) ?_
              refine vv_istore_n (i := 3) (L' := [_, _, _, _]) C dX5_working_55 rfl (by decide) rfl ?_
              refine vv_iload_n C dX5_working_56 rfl 0 rfl ?_
              refine vv_if_eq (tgt := 70) C dX5_working_57 (by decide) (fun h57 => ?_) (fun h57 => ?_)
              · exact absurd h57 (by decide)
              · refine vv_iload_n C dX5_working_60 rfl 2 rfl ?_
                refine vv_iconst (v := (1)) C dX5_working_61 (by decide) ?_
                refine vv_iload_n C dX5_working_62 rfl 3 rfl ?_
                refine vv_ishl C dX5_working_63 ?_
                refine vv_iconst (v := (-1)) C dX5_working_64 (by decide) ?_
                refine vv_ixor C dX5_working_65 ?_
                refine vv_iand C dX5_working_66 ?_
                refine vv_goto (tgt := 71) C dX5_working_67 (by decide) ?_
                refine vv_istore_n (i := 1) (L' := [_, _, _, _]) C dX5_working_71 rfl (by decide) rfl ?_
                refine vv_iinc (L' := [_, _, _, _]) (j := 3) (v := (nI j - 1)) C dX5_working_72 rfl (pu_m1 _) (by decide) rfl ?_
                refine vv_goto (tgt := 16) C dX5_working_75 (by decide) ?_
                refine vv_sub (L' := [_, _, _]) [3, 1, 0] rfl ?_
                refine ih j _ ⟨by omega, by omega, ?_⟩
                rw [← hst, pm_wk, if_pos ⟨h25, h35, h47⟩]
                rfl
  refine vv_aload_n C dX5_working_0 rfl 0 rfl ?_
  refine vv_aload_n C dX5_working_1 rfl 0 rfl ?_
  refine vv_cV_F C (a := 35) (kk_X5_everybody l g _) yk_X5_everybody (tm_16 (List.mem_of_getElem? (i := 23) rfl)) rfl rfl rfl (by decide) rfl (Nat.le_of_ble_eq_true rfl) rfl dX5_working_2 ?_
  rw [hn]
  refine vv_cV_F C (a := 35) (kk_X5_wanting l g _ _ n hn hn8) yk_X5_wanting (tm_17 (List.mem_of_getElem? (i := 7) rfl)) rfl rfl rfl (by decide) rfl (Nat.le_of_ble_eq_true rfl) rfl dX5_working_5 ?_
  refine vv_istore_n (i := 1) (L' := [_, _]) C dX5_working_8 rfl (by decide) rfl ?_
  refine vv_aload_n C dX5_working_9 rfl 1 rfl ?_
  refine vv_getI C (a := 35) (k := 0) (o := 0) inlX5 rfl rfl rfl (by decide) rfl (tm_10 (List.mem_of_getElem? (i := 18) rfl)) dX5_working_10 ?_
  rw [hn]
  refine vv_iconst (v := (1)) C dX5_working_13 (by decide) ?_
  refine vv_isub C dX5_working_14 ?_
  refine vv_istore_n (i := 2) (L' := [_, _, _]) C dX5_working_15 rfl (by decide) rfl ?_
  refine vv_sub (L' := [_, _, _]) [2, 1, 0] rfl ?_
  exact lp16 (n + 1) n _ ⟨by omega, by omega, rfl⟩
theorem yk_X5_isOver : vx_yV yX5_isOver cX5_isOver 1 (some .boolean) 0 := ⟨(tm_18 (List.mem_of_getElem? (i := 21) rfl)), (tm_1 (List.mem_of_getElem? (i := 5) rfl)), by decide +kernel, (tm_18 (List.mem_of_getElem? (i := 19) rfl)), (tm_18 (List.mem_of_getElem? (i := 20) rfl))⟩
set_option maxHeartbeats 4000000 in
set_option maxRecDepth 100000 in
theorem kk_X5_isOver (l : Launch) (g : vx_G) (S : vx_St)  : vx_M l g yX5_isOver cX5_isOver 1 (some .boolean) (vx_R 0 0) [.ref (g.2.2.1 35)] S (vx_pf (vx_i (!aw_goB (S.1 35 12) (S.1 35 15))) S) := by
  refine vx_M.intro (by decide) (Nat.le_of_ble_eq_true rfl) ?_
  intro p e s m args below meth c C
  refine vv_aload_n C dX5_isOver_0 rfl 0 rfl ?_
  refine vv_getI C (a := 35) (k := 12) (o := 0) inlX5 rfl rfl rfl (by decide) rfl (tm_12 (List.mem_of_getElem? (i := 3) rfl)) dX5_isOver_1 ?_
  refine vv_bipush (v := (9)) C dX5_isOver_4 (by decide) ?_
  refine vv_icmp_ge (tgt := 16) C dX5_isOver_6 (by decide) (fun h6 => ?_) (fun h6 => ?_)
  · have g6 := pu_le h6
    refine vv_iconst (v := (1)) C dX5_isOver_16 (by decide) ?_
    refine vv_goto (tgt := 21) C dX5_isOver_17 (by decide) ?_
    refine vv_fzret C dX5_isOver_21 rfl ?_
    simp [vx_i, aw_goB, h6, g6]
  · have g6 := pu_nle h6
    refine vv_aload_n C dX5_isOver_9 rfl 0 rfl ?_
    refine vv_getZ C (a := 35) (k := 15) (o := 0) inlX5 rfl rfl rfl (by decide) rfl (tm_18 (List.mem_of_getElem? (i := 22) rfl)) dX5_isOver_10 ?_
    refine vv_ifz_eq (tgt := 20) C dX5_isOver_13 (by decide) (fun h13 => ?_) (fun h13 => ?_)
    · refine vv_iconst (v := (0)) C dX5_isOver_20 (by decide) ?_
      refine vv_fzret C dX5_isOver_21 rfl ?_
      simp [vx_i, aw_goB, h6, g6, h13]
    · refine vv_iconst (v := (1)) C dX5_isOver_16 (by decide) ?_
      refine vv_goto (tgt := 21) C dX5_isOver_17 (by decide) ?_
      refine vv_fzret C dX5_isOver_21 rfl ?_
      simp [vx_i, aw_goB, h6, g6, h13]
theorem yk_X5_worked : vx_yV yX5_worked cX5_worked 1 (some .int) 0 := ⟨(tm_19 (List.mem_of_getElem? (i := 15) rfl)), (tm_1 (List.mem_of_getElem? (i := 5) rfl)), by decide +kernel, (tm_19 (List.mem_of_getElem? (i := 13) rfl)), (tm_19 (List.mem_of_getElem? (i := 14) rfl))⟩
set_option maxHeartbeats 4000000 in
set_option maxRecDepth 100000 in
theorem kk_X5_worked (l : Launch) (g : vx_G) (S : vx_St)  : vx_M l g yX5_worked cX5_worked 1 (some .int) (vx_R 0 0) [.ref (g.2.2.1 35)] S (vx_pf (S.1 35 14) S) := by
  refine vx_M.intro (by decide) (Nat.le_of_ble_eq_true rfl) ?_
  intro p e s m args below meth c C
  refine vv_aload_n C dX5_worked_0 rfl 0 rfl ?_
  refine vv_getI C (a := 35) (k := 14) (o := 0) inlX5 rfl rfl rfl (by decide) rfl (tm_15 (List.mem_of_getElem? (i := 16) rfl)) dX5_worked_1 ?_
  refine vv_fret C dX5_worked_4 ?_
  rfl
theorem yk_X5_takenAll : vx_yV yX5_takenAll cX5_takenAll 3 (some .int) 0 := ⟨(tm_20 (List.mem_of_getElem? (i := 14) rfl)), (tm_1 (List.mem_of_getElem? (i := 5) rfl)), by decide +kernel, (tm_20 (List.mem_of_getElem? (i := 12) rfl)), (tm_20 (List.mem_of_getElem? (i := 13) rfl))⟩
set_option maxHeartbeats 4000000 in
set_option maxRecDepth 100000 in
theorem kk_X5_takenAll (l : Launch) (g : vx_G) (S : vx_St) (n : Nat) (hn : S.1 35 0 = nI n) (hn8 : n ≤ 8) : vx_M l g yX5_takenAll cX5_takenAll 3 (some .int) (vx_R 0 0) [.ref (g.2.2.1 35)] S (vx_pf (pm_sm (S.1 42) n) S) := by
  refine vx_M.intro (by decide) (Nat.le_of_ble_eq_true rfl) ?_
  intro p e s m args below meth c C
  have lp4 : ∀ (fu : Nat) (i : Nat), (n - i < fu ∧ i ≤ n) → vx_V p l e (vx_R 0 0) s m args below meth c (MQ below (vx_Q g (vx_pf (pm_sm (S.1 42) n) S)) args s 0 0 (vx_A g)) g 3 4 [(0, .ref (g.2.2.1 35)), (1, .int (pm_sm (S.1 42) i)), (2, .int (nI i))] [] (S) := by
    intro fu
    induction fu with
    | zero =>
      intro i hfu
      exact absurd hfu.1 (by omega)
    | succ fu ih =>
      intro i hfu
      obtain ⟨hf1, hf2⟩ := hfu
      refine vv_iload_n C dX5_takenAll_4 rfl 2 rfl ?_
      refine vv_aload_n C dX5_takenAll_5 rfl 0 rfl ?_
      refine vv_getI C (a := 35) (k := 0) (o := 0) inlX5 rfl rfl rfl (by decide) rfl (tm_10 (List.mem_of_getElem? (i := 18) rfl)) dX5_takenAll_6 ?_
      refine vv_icmp_ge (tgt := 27) C dX5_takenAll_9 (by decide) (fun h9 => ?_) (fun h9 => ?_)
      · have hge := pu_geT hn (by omega) (by omega) h9
        obtain rfl : n = i := by omega
        refine vv_iload_n C dX5_takenAll_27 rfl 1 rfl ?_
        refine vv_fret C dX5_takenAll_28 ?_
        rfl
      · have hlt := pu_geF hn (by omega) (by omega) h9
        refine vv_iload_n C dX5_takenAll_12 rfl 1 rfl ?_
        refine vv_aload_n C dX5_takenAll_13 rfl 0 rfl ?_
        refine vv_gR C (a := 35) (k := 7) (b := 42) inlX5 rfl rfl rfl rfl (by decide) rfl (tm_4 (List.mem_of_getElem? (i := 0) rfl)) dX5_takenAll_14 ?_
        refine vv_iload_n C dX5_takenAll_17 rfl 2 rfl ?_
        refine vv_ialdN C (a := 42) rfl (by omega) (by decide) dX5_takenAll_18 ?_
        refine vv_iadd C dX5_takenAll_19 ?_
        refine vv_istore_n (i := 1) (L' := [_, _, _]) C dX5_takenAll_20 rfl (by decide) rfl ?_
        refine vv_iincN (L' := [_, _, _]) (j := 2) C dX5_takenAll_21 rfl (by decide) rfl ?_
        refine vv_goto (tgt := 4) C dX5_takenAll_24 (by decide) ?_
        refine vv_sub (L' := [_, _, _]) [2, 1, 0] rfl ?_
        exact ih (i + 1) ⟨by omega, by omega⟩
  refine vv_iconst (v := (0)) C dX5_takenAll_0 (by decide) ?_
  refine vv_istore_n (i := 1) (L' := [_, _]) C dX5_takenAll_1 rfl (by decide) rfl ?_
  refine vv_iconst (v := (nI 0)) C dX5_takenAll_2 (by decide) ?_
  refine vv_istore_n (i := 2) (L' := [_, _, _]) C dX5_takenAll_3 rfl (by decide) rfl ?_
  refine vv_sub (L' := [_, _, _]) [2, 1, 0] rfl ?_
  exact lp4 (n + 1) 0 ⟨by omega, by omega⟩
