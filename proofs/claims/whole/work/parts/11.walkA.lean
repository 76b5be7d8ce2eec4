theorem yk_X4_bit : vx_yS yX4_bit cX4_bit 1 (some .int) 1 := ⟨(tm_11 (List.mem_of_getElem? (i := 18) rfl)), (tm_1 (List.mem_of_getElem? (i := 2) rfl)), by decide +kernel, (tm_11 (List.mem_of_getElem? (i := 17) rfl))⟩
set_option maxHeartbeats 4000000 in
set_option maxRecDepth 100000 in
theorem kk_X4_bit (l : Launch) (g : vx_G) (S : vx_St) (k : Int32) : vx_M l g yX4_bit cX4_bit 1 (some .int) (vx_R 0 0) [.int k] S (vx_pf (pu_bit k) S) := by
  refine vx_M.intro (by decide) (Nat.le_of_ble_eq_true rfl) ?_
  intro p e s m args below meth c C
  refine vv_iconst (v := (1)) C dX4_bit_0 (by decide) ?_
  refine vv_iload_n C dX4_bit_1 rfl 0 rfl ?_
  refine vv_ishl C dX4_bit_2 ?_
  refine vv_fret C dX4_bit_3 ?_
  rfl
theorem yk_X4_isIn : vx_yS yX4_isIn cX4_isIn 2 (some .boolean) 2 := ⟨(tm_12 (List.mem_of_getElem? (i := 11) rfl)), (tm_1 (List.mem_of_getElem? (i := 2) rfl)), by decide +kernel, (tm_12 (List.mem_of_getElem? (i := 10) rfl))⟩
set_option maxHeartbeats 4000000 in
set_option maxRecDepth 100000 in
theorem kk_X4_isIn (l : Launch) (g : vx_G) (S : vx_St) (x k : Int32) : vx_M l g yX4_isIn cX4_isIn 2 (some .boolean) (vx_R 0 0) [.int x, .int k] S (vx_pf (vx_i (pu_in x k)) S) := by
  refine vx_M.intro (by decide) (Nat.le_of_ble_eq_true rfl) ?_
  intro p e s m args below meth c C
  refine vv_iload_n C dX4_isIn_0 rfl 0 rfl ?_
  refine vv_iload_n C dX4_isIn_1 rfl 1 rfl ?_
  refine vv_ishr C dX4_isIn_2 ?_
  refine vv_iconst (v := (1)) C dX4_isIn_3 (by decide) ?_
  refine vv_iand C dX4_isIn_4 ?_
  refine vv_if_eq (tgt := 12) C dX4_isIn_5 (by decide) (fun h5 => ?_) (fun h5 => ?_)
  · refine vv_iconst (v := (0)) C dX4_isIn_12 (by decide) ?_
    refine vv_fzret C dX4_isIn_13 rfl ?_
    simp [vx_i, pu_in, *]
  · refine vv_iconst (v := (1)) C dX4_isIn_8 (by decide) ?_
    refine vv_goto (tgt := 13) C dX4_isIn_9 (by decide) ?_
    refine vv_fzret C dX4_isIn_13 rfl ?_
    simp [vx_i, pu_in, *]
theorem yk_X4_oneIf : vx_yS yX4_oneIf cX4_oneIf 1 (some .int) 1 := ⟨(tm_12 (List.mem_of_getElem? (i := 14) rfl)), (tm_1 (List.mem_of_getElem? (i := 2) rfl)), by decide +kernel, (tm_12 (List.mem_of_getElem? (i := 13) rfl))⟩
set_option maxHeartbeats 4000000 in
set_option maxRecDepth 100000 in
theorem kk_X4_oneIf (l : Launch) (g : vx_G) (S : vx_St) (x : Int32) : vx_M l g yX4_oneIf cX4_oneIf 1 (some .int) (vx_R 0 0) [.int x] S (vx_pf (vx_b01 x) S) := by
  refine vx_M.intro (by decide) (Nat.le_of_ble_eq_true rfl) ?_
  intro p e s m args below meth c C
  refine vv_iload_n C dX4_oneIf_0 rfl 0 rfl ?_
  refine vv_if_eq (tgt := 8) C dX4_oneIf_1 (by decide) (fun h1 => ?_) (fun h1 => ?_)
  · refine vv_iconst (v := (0)) C dX4_oneIf_8 (by decide) ?_
    refine vv_fret C dX4_oneIf_9 ?_
    simp [vx_b01, *]
  · refine vv_iconst (v := (1)) C dX4_oneIf_4 (by decide) ?_
    refine vv_goto (tgt := 9) C dX4_oneIf_5 (by decide) ?_
    refine vv_fret C dX4_oneIf_9 ?_
    simp [vx_b01, *]
theorem yk_X1_has : vx_yV yX1_has cX1_has 2 (some .boolean) 1 := ⟨(tm_11 (List.mem_of_getElem? (i := 22) rfl)), (tm_1 (List.mem_of_getElem? (i := 19) rfl)), by decide +kernel, (tm_11 (List.mem_of_getElem? (i := 20) rfl)), (tm_11 (List.mem_of_getElem? (i := 21) rfl))⟩
set_option maxHeartbeats 4000000 in
set_option maxRecDepth 100000 in
theorem kk_X1_has (l : Launch) (g : vx_G) (S : vx_St) (h : Int32) : vx_M l g yX1_has cX1_has 2 (some .boolean) (vx_R 0 0) [.ref (g.2.2.1 3), .int h] S (vx_pf (vx_i (decide (0 ≤ h) && decide (h < S.1 3 0))) S) := by
  refine vx_M.intro (by decide) (Nat.le_of_ble_eq_true rfl) ?_
  intro p e s m args below meth c C
  refine vv_iload_n C dX1_has_0 rfl 1 rfl ?_
  refine vv_if_lt (tgt := 16) C dX1_has_1 (by decide) (fun h1 => ?_) (fun h1 => ?_)
  · have g1 := pu_lt h1
    refine vv_iconst (v := (0)) C dX1_has_16 (by decide) ?_
    refine vv_fzret C dX1_has_17 rfl ?_
    simp [vx_i, h1, g1]
  · have g1 := pu_nlt h1
    refine vv_iload_n C dX1_has_4 rfl 1 rfl ?_
    refine vv_aload_n C dX1_has_5 rfl 0 rfl ?_
    refine vv_getI C (a := 3) (k := 0) (o := 0) inlX1 rfl rfl rfl (by decide) rfl (tm_11 (List.mem_of_getElem? (i := 16) rfl)) dX1_has_6 ?_
    refine vv_icmp_ge (tgt := 16) C dX1_has_9 (by decide) (fun h9 => ?_) (fun h9 => ?_)
    · have g9 := pu_le h9
      refine vv_iconst (v := (0)) C dX1_has_16 (by decide) ?_
      refine vv_fzret C dX1_has_17 rfl ?_
      simp [vx_i, h1, g1, h9, g9]
    · have g9 := pu_nle h9
      refine vv_iconst (v := (1)) C dX1_has_12 (by decide) ?_
      refine vv_goto (tgt := 17) C dX1_has_13 (by decide) ?_
      refine vv_fzret C dX1_has_17 rfl ?_
      simp [vx_i, h1, g1, h9, g9]
theorem yk_X1_all : vx_yV yX1_all cX1_all 1 (some .int) 0 := ⟨(tm_16 (List.mem_of_getElem? (i := 7) rfl)), (tm_1 (List.mem_of_getElem? (i := 19) rfl)), by decide +kernel, (tm_16 (List.mem_of_getElem? (i := 5) rfl)), (tm_16 (List.mem_of_getElem? (i := 6) rfl))⟩
set_option maxHeartbeats 4000000 in
set_option maxRecDepth 100000 in
theorem kk_X1_all (l : Launch) (g : vx_G) (S : vx_St)  : vx_M l g yX1_all cX1_all 1 (some .int) (vx_R 1 20) [.ref (g.2.2.1 3)] S (vx_pf (pu_all (S.1 3 0)) S) := by
  refine vx_M.intro (by decide) (Nat.le_of_ble_eq_true rfl) ?_
  intro p e s m args below meth c C
  refine vv_aload_n C dX1_all_0 rfl 0 rfl ?_
  refine vv_getI C (a := 3) (k := 0) (o := 0) inlX1 rfl rfl rfl (by decide) rfl (tm_11 (List.mem_of_getElem? (i := 16) rfl)) dX1_all_1 ?_
  refine vv_cSN_F C (kk_X4_bit l g _ _) yk_X4_bit (List.mem_of_getElem? (i := 39) rfl) (by decide) rfl (Nat.le_of_ble_eq_true rfl) rfl dX1_all_4 ?_
  refine vv_iconst (v := (1)) C dX1_all_7 (by decide) ?_
  refine vv_isub C dX1_all_8 ?_
  refine vv_fret C dX1_all_9 ?_
  rfl
theorem yk_X1_areBits : vx_yV yX1_areBits cX1_areBits 2 (some .boolean) 1 := ⟨(tm_16 (List.mem_of_getElem? (i := 3) rfl)), (tm_1 (List.mem_of_getElem? (i := 19) rfl)), by decide +kernel, (tm_16 (List.mem_of_getElem? (i := 1) rfl)), (tm_16 (List.mem_of_getElem? (i := 2) rfl))⟩
set_option maxHeartbeats 4000000 in
set_option maxRecDepth 100000 in
theorem kk_X1_areBits (l : Launch) (g : vx_G) (S : vx_St) (t : Int32) : vx_M l g yX1_areBits cX1_areBits 2 (some .boolean) (vx_R 2 40) [.ref (g.2.2.1 3), .int t] S (vx_pf (vx_i (decide (0 ≤ t) && decide (t ≤ pu_all (S.1 3 0)))) S) := by
  refine vx_M.intro (by decide) (Nat.le_of_ble_eq_true rfl) ?_
  intro p e s m args below meth c C
  refine vv_iload_n C dX1_areBits_0 rfl 1 rfl ?_
  refine vv_if_lt (tgt := 16) C dX1_areBits_1 (by decide) (fun h1 => ?_) (fun h1 => ?_)
  · have g1 := pu_lt h1
    refine vv_iconst (v := (0)) C dX1_areBits_16 (by decide) ?_
    refine vv_fzret C dX1_areBits_17 rfl ?_
    simp [vx_i, h1, g1]
  · have g1 := pu_nlt h1
    refine vv_iload_n C dX1_areBits_4 rfl 1 rfl ?_
    refine vv_aload_n C dX1_areBits_5 rfl 0 rfl ?_
    refine vv_cV_F C (a := 3) (kk_X1_all l g _) yk_X1_all (tm_16 (List.mem_of_getElem? (i := 4) rfl)) rfl rfl rfl (by decide) rfl (Nat.le_of_ble_eq_true rfl) rfl dX1_areBits_6 ?_
    refine vv_icmp_gt (tgt := 16) C dX1_areBits_9 (by decide) (fun h9 => ?_) (fun h9 => ?_)
    · have g9 := pu_lt h9
      refine vv_iconst (v := (0)) C dX1_areBits_16 (by decide) ?_
      refine vv_fzret C dX1_areBits_17 rfl ?_
      simp [vx_i, h1, g1, h9, g9]
    · have g9 := pu_nlt h9
      refine vv_iconst (v := (1)) C dX1_areBits_12 (by decide) ?_
      refine vv_goto (tgt := 17) C dX1_areBits_13 (by decide) ?_
      refine vv_fzret C dX1_areBits_17 rfl ?_
      simp [vx_i, h1, g1, h9, g9]
theorem yk_X1_isA : vx_yV yX1_isA cX1_isA 3 (some .boolean) 2 := ⟨(tm_13 (List.mem_of_getElem? (i := 13) rfl)), (tm_1 (List.mem_of_getElem? (i := 19) rfl)), by decide +kernel, (tm_13 (List.mem_of_getElem? (i := 11) rfl)), (tm_13 (List.mem_of_getElem? (i := 12) rfl))⟩
set_option maxHeartbeats 4000000 in
set_option maxRecDepth 100000 in
theorem kk_X1_isA (l : Launch) (g : vx_G) (S : vx_St) (h : Nat) (hh : h < 8) (k : Int32) : vx_M l g yX1_isA cX1_isA 3 (some .boolean) (vx_R 0 0) [.ref (g.2.2.1 3), .int (nI h), .int k] S (vx_pf (vx_i (pu_isA (S.1 4) h k)) S) := by
  refine vx_M.intro (by decide) (Nat.le_of_ble_eq_true rfl) ?_
  intro p e s m args below meth c C
  refine vv_iload_n C dX1_isA_0 rfl 2 rfl ?_
  refine vv_if_eq (tgt := 29) C dX1_isA_1 (by decide) (fun h1 => ?_) (fun h1 => ?_)
  · refine vv_iconst (v := (1)) C dX1_isA_29 (by decide) ?_
    refine vv_goto (tgt := 34) C dX1_isA_30 (by decide) ?_
    refine vv_fzret C dX1_isA_34 rfl ?_
    simp_all [vx_i, pu_isA]
  · refine vv_aload_n C dX1_isA_4 rfl 0 rfl ?_
    refine vv_gR C (a := 3) (k := 1) (b := 4) inlX1 rfl rfl rfl rfl (by decide) rfl (tm_2 (List.mem_of_getElem? (i := 16) rfl)) dX1_isA_5 ?_
    refine vv_iload_n C dX1_isA_8 rfl 1 rfl ?_
    refine vv_ialdN C (a := 4) rfl (by omega) (by decide) dX1_isA_9 ?_
    refine vv_iload_n C dX1_isA_10 rfl 2 rfl ?_
    refine vv_icmp_eq (tgt := 29) C dX1_isA_11 (by decide) (fun h11 => ?_) (fun h11 => ?_)
    · refine vv_iconst (v := (1)) C dX1_isA_29 (by decide) ?_
      refine vv_goto (tgt := 34) C dX1_isA_30 (by decide) ?_
      refine vv_fzret C dX1_isA_34 rfl ?_
      simp_all [vx_i, pu_isA]
    · refine vv_iload_n C dX1_isA_14 rfl 2 rfl ?_
      refine vv_iconst (v := (2)) C dX1_isA_15 (by decide) ?_
      refine vv_icmp_ne (tgt := 33) C dX1_isA_16 (by decide) (fun h16 => ?_) (fun h16 => ?_)
      · refine vv_iconst (v := (0)) C dX1_isA_33 (by decide) ?_
        refine vv_fzret C dX1_isA_34 rfl ?_
        simp_all [vx_i, pu_isA]
      · refine vv_aload_n C dX1_isA_19 rfl 0 rfl ?_
        refine vv_gR C (a := 3) (k := 1) (b := 4) inlX1 rfl rfl rfl rfl (by decide) rfl (tm_2 (List.mem_of_getElem? (i := 16) rfl)) dX1_isA_20 ?_
        refine vv_iload_n C dX1_isA_23 rfl 1 rfl ?_
        refine vv_ialdN C (a := 4) rfl (by omega) (by decide) dX1_isA_24 ?_
        refine vv_iconst (v := (4)) C dX1_isA_25 (by decide) ?_
        refine vv_icmp_ne (tgt := 33) C dX1_isA_26 (by decide) (fun h26 => ?_) (fun h26 => ?_)
        · refine vv_iconst (v := (0)) C dX1_isA_33 (by decide) ?_
          refine vv_fzret C dX1_isA_34 rfl ?_
          simp_all [vx_i, pu_isA]
        · refine vv_iconst (v := (1)) C dX1_isA_29 (by decide) ?_
          refine vv_goto (tgt := 34) C dX1_isA_30 (by decide) ?_
          refine vv_fzret C dX1_isA_34 rfl ?_
          simp_all [vx_i, pu_isA]
theorem yk_X1_isOpen : vx_yV yX1_isOpen cX1_isOpen 3 (some .boolean) 2 := ⟨(tm_15 (List.mem_of_getElem? (i := 7) rfl)), (tm_1 (List.mem_of_getElem? (i := 19) rfl)), by decide +kernel, (tm_15 (List.mem_of_getElem? (i := 5) rfl)), (tm_15 (List.mem_of_getElem? (i := 6) rfl))⟩
set_option maxHeartbeats 4000000 in
set_option maxRecDepth 100000 in
theorem kk_X1_isOpen (l : Launch) (g : vx_G) (S : vx_St) (h : Nat) (hh : h < 8) (hr : Int32) : vx_M l g yX1_isOpen cX1_isOpen 3 (some .boolean) (vx_R 0 0) [.ref (g.2.2.1 3), .int (nI h), .int hr] S (vx_pf (vx_i (pu_open (S.1 6) (S.1 7) hr h)) S) := by
  refine vx_M.intro (by decide) (Nat.le_of_ble_eq_true rfl) ?_
  intro p e s m args below meth c C
  refine vv_aload_n C dX1_isOpen_0 rfl 0 rfl ?_
  refine vv_gR C (a := 3) (k := 3) (b := 6) inlX1 rfl rfl rfl rfl (by decide) rfl (tm_2 (List.mem_of_getElem? (i := 18) rfl)) dX1_isOpen_1 ?_
  refine vv_iload_n C dX1_isOpen_4 rfl 1 rfl ?_
  refine vv_ialdN C (a := 6) rfl (by omega) (by decide) dX1_isOpen_5 ?_
  refine vv_iload_n C dX1_isOpen_6 rfl 2 rfl ?_
  refine vv_icmp_gt (tgt := 24) C dX1_isOpen_7 (by decide) (fun h7 => ?_) (fun h7 => ?_)
  · have g7 := pu_lt h7
    refine vv_iconst (v := (0)) C dX1_isOpen_24 (by decide) ?_
    refine vv_fzret C dX1_isOpen_25 rfl ?_
    simp [vx_i, pu_open, h7, g7]
  · have g7 := pu_nlt h7
    refine vv_iload_n C dX1_isOpen_10 rfl 2 rfl ?_
    refine vv_aload_n C dX1_isOpen_11 rfl 0 rfl ?_
    refine vv_gR C (a := 3) (k := 4) (b := 7) inlX1 rfl rfl rfl rfl (by decide) rfl (tm_2 (List.mem_of_getElem? (i := 19) rfl)) dX1_isOpen_12 ?_
    refine vv_iload_n C dX1_isOpen_15 rfl 1 rfl ?_
    refine vv_ialdN C (a := 7) rfl (by omega) (by decide) dX1_isOpen_16 ?_
    refine vv_icmp_ge (tgt := 24) C dX1_isOpen_17 (by decide) (fun h17 => ?_) (fun h17 => ?_)
    · have g17 := pu_le h17
      refine vv_iconst (v := (0)) C dX1_isOpen_24 (by decide) ?_
      refine vv_fzret C dX1_isOpen_25 rfl ?_
      simp [vx_i, pu_open, h7, g7, h17, g17]
    · have g17 := pu_nle h17
      refine vv_iconst (v := (1)) C dX1_isOpen_20 (by decide) ?_
      refine vv_goto (tgt := 25) C dX1_isOpen_21 (by decide) ?_
      refine vv_fzret C dX1_isOpen_25 rfl ?_
      simp [vx_i, pu_open, h7, g7, h17, g17]
theorem yk_X1_takesOf : vx_yV yX1_takesOf cX1_takesOf 4 (some .int) 1 := ⟨(tm_24 (List.mem_of_getElem? (i := 10) rfl)), (tm_1 (List.mem_of_getElem? (i := 19) rfl)), by decide +kernel, (tm_24 (List.mem_of_getElem? (i := 8) rfl)), (tm_24 (List.mem_of_getElem? (i := 9) rfl))⟩
set_option maxHeartbeats 4000000 in
set_option maxRecDepth 100000 in
theorem kk_X1_takesOf (l : Launch) (g : vx_G) (S : vx_St) (t : Int32) (n : Nat) (hn : S.1 3 0 = nI n) (hn8 : n ≤ 8) : vx_M l g yX1_takesOf cX1_takesOf 4 (some .int) (vx_R 1 21) [.ref (g.2.2.1 3), .int t] S (vx_pf (pu_sum (S.1 8) t n) S) := by
  refine vx_M.intro (by decide) (Nat.le_of_ble_eq_true rfl) ?_
  intro p e s m args below meth c C
  have lp4 : ∀ (fu : Nat) (i : Nat), (n - i < fu ∧ i ≤ n) → vx_V p l e (vx_R 1 21) s m args below meth c (MQ below (vx_Q g (vx_pf (pu_sum (S.1 8) t n) S)) args s 0 0 (vx_A g)) g 4 4 [(0, .ref (g.2.2.1 3)), (1, .int t), (2, .int (pu_sum (S.1 8) t i)), (3, .int (nI i))] [] (S) := by
    intro fu
    induction fu with
    | zero =>
      intro i hfu
      exact absurd hfu.1 (by omega)
    | succ fu ih =>
      intro i hfu
      obtain ⟨hf1, hf2⟩ := hfu
      refine vv_iload_n C dX1_takesOf_4 rfl 3 rfl ?_
      refine vv_aload_n C dX1_takesOf_5 rfl 0 rfl ?_
      refine vv_getI C (a := 3) (k := 0) (o := 0) inlX1 rfl rfl rfl (by decide) rfl (tm_11 (List.mem_of_getElem? (i := 16) rfl)) dX1_takesOf_6 ?_
      refine vv_icmp_ge (tgt := 35) C dX1_takesOf_9 (by decide) (fun h9 => ?_) (fun h9 => ?_)
      · have hge := pu_geT hn (by omega) (by omega) h9
        obtain rfl : n = i := by omega
        refine vv_iload_n C dX1_takesOf_35 rfl 2 rfl ?_
        refine vv_fret C dX1_takesOf_36 ?_
        rfl
      · have hlt := pu_geF hn (by omega) (by omega) h9
        refine vv_iload_n C dX1_takesOf_12 rfl 1 rfl ?_
        refine vv_iload_n C dX1_takesOf_13 rfl 3 rfl ?_
        refine vv_cSN_F C (kk_X4_isIn l g _ _ _) yk_X4_isIn (List.mem_of_getElem? (i := 50) rfl) (by decide) rfl (Nat.le_of_ble_eq_true rfl) rfl dX1_takesOf_14 ?_
        refine vv_ifb_eq (tgt := 29) C dX1_takesOf_17 (by decide) (fun h17 => ?_) (fun h17 => ?_)
        · refine vv_iincN (L' := [_, _, _, _]) (j := 3) C dX1_takesOf_29 rfl (by decide) rfl ?_
          refine vv_goto (tgt := 4) C dX1_takesOf_32 (by decide) ?_
          refine vv_sub (L' := [_, _, _, _]) [1, 2, 3, 0] rfl ?_
          have q := ih (i + 1) ⟨by omega, by omega⟩
          simp only [pu_sum, h9, h17, if_true, if_false, reduceIte, Bool.false_eq_true, and_true, true_and, and_false, false_and, not_true, not_false_iff, and_self, ite_true, ite_false, not_true_eq_false, not_false_eq_true, or_true, true_or, or_false, false_or] at q
          exact q
        · refine vv_iload_n C dX1_takesOf_20 rfl 2 rfl ?_
          refine vv_aload_n C dX1_takesOf_21 rfl 0 rfl ?_
          refine vv_gR C (a := 3) (k := 5) (b := 8) inlX1 rfl rfl rfl rfl (by decide) rfl (tm_2 (List.mem_of_getElem? (i := 20) rfl)) dX1_takesOf_22 ?_
          refine vv_iload_n C dX1_takesOf_25 rfl 3 rfl ?_
          refine vv_ialdN C (a := 8) rfl (by omega) (by decide) dX1_takesOf_26 ?_
          refine vv_iadd C dX1_takesOf_27 ?_
          refine vv_istore_n (i := 2) (L' := [_, _, _, _]) C dX1_takesOf_28 rfl (by decide) rfl ?_
          refine vv_iincN (L' := [_, _, _, _]) (j := 3) C dX1_takesOf_29 rfl (by decide) rfl ?_
          refine vv_goto (tgt := 4) C dX1_takesOf_32 (by decide) ?_
          refine vv_sub (L' := [_, _, _, _]) [2, 3, 1, 0] rfl ?_
          have q := ih (i + 1) ⟨by omega, by omega⟩
          simp only [pu_sum, h9, h17, if_true, if_false, reduceIte, Bool.false_eq_true, and_true, true_and, and_false, false_and, not_true, not_false_iff, and_self, ite_true, ite_false, not_true_eq_false, not_false_eq_true, or_true, true_or, or_false, false_or] at q
          exact q
  refine vv_iconst (v := (0)) C dX1_takesOf_0 (by decide) ?_
  refine vv_istore_n (i := 2) (L' := [_, _, _]) C dX1_takesOf_1 rfl (by decide) rfl ?_
  refine vv_iconst (v := (nI 0)) C dX1_takesOf_2 (by decide) ?_
  refine vv_istore_n (i := 3) (L' := [_, _, _, _]) C dX1_takesOf_3 rfl (by decide) rfl ?_
  refine vv_sub (L' := [_, _, _, _]) [2, 3, 1, 0] rfl ?_
  exact lp4 (n + 1) 0 ⟨by omega, by omega⟩
theorem yk_X1_waysTo : vx_yV yX1_waysTo cX1_waysTo 4 (some .int) 1 := ⟨(tm_26 (List.mem_of_getElem? (i := 1) rfl)), (tm_1 (List.mem_of_getElem? (i := 19) rfl)), by decide +kernel, (tm_25 (List.mem_of_getElem? (i := 23) rfl)), (tm_26 (List.mem_of_getElem? (i := 0) rfl))⟩
set_option maxHeartbeats 4000000 in
set_option maxRecDepth 100000 in
theorem kk_X1_waysTo (l : Launch) (g : vx_G) (S : vx_St) (t : Int32) (n : Nat) (hn : S.1 3 0 = nI n) (hn8 : n ≤ 8) : vx_M l g yX1_waysTo cX1_waysTo 4 (some .int) (vx_R 1 21) [.ref (g.2.2.1 3), .int t] S (vx_pf (pu_or (S.1 10) t n) S) := by
  refine vx_M.intro (by decide) (Nat.le_of_ble_eq_true rfl) ?_
  intro p e s m args below meth c C
  have lp4 : ∀ (fu : Nat) (i : Nat), (n - i < fu ∧ i ≤ n) → vx_V p l e (vx_R 1 21) s m args below meth c (MQ below (vx_Q g (vx_pf (pu_or (S.1 10) t n) S)) args s 0 0 (vx_A g)) g 4 4 [(0, .ref (g.2.2.1 3)), (1, .int t), (2, .int (pu_or (S.1 10) t i)), (3, .int (nI i))] [] (S) := by
    intro fu
    induction fu with
    | zero =>
      intro i hfu
      exact absurd hfu.1 (by omega)
    | succ fu ih =>
      intro i hfu
      obtain ⟨hf1, hf2⟩ := hfu
      refine vv_iload_n C dX1_waysTo_4 rfl 3 rfl ?_
      refine vv_aload_n C dX1_waysTo_5 rfl 0 rfl ?_
      refine vv_getI C (a := 3) (k := 0) (o := 0) inlX1 rfl rfl rfl (by decide) rfl (tm_11 (List.mem_of_getElem? (i := 16) rfl)) dX1_waysTo_6 ?_
      refine vv_icmp_ge (tgt := 35) C dX1_waysTo_9 (by decide) (fun h9 => ?_) (fun h9 => ?_)
      · have hge := pu_geT hn (by omega) (by omega) h9
        obtain rfl : n = i := by omega
        refine vv_iload_n C dX1_waysTo_35 rfl 2 rfl ?_
        refine vv_fret C dX1_waysTo_36 ?_
        rfl
      · have hlt := pu_geF hn (by omega) (by omega) h9
        refine vv_iload_n C dX1_waysTo_12 rfl 1 rfl ?_
        refine vv_iload_n C dX1_waysTo_13 rfl 3 rfl ?_
        refine vv_cSN_F C (kk_X4_isIn l g _ _ _) yk_X4_isIn (List.mem_of_getElem? (i := 50) rfl) (by decide) rfl (Nat.le_of_ble_eq_true rfl) rfl dX1_waysTo_14 ?_
        refine vv_ifb_eq (tgt := 29) C dX1_waysTo_17 (by decide) (fun h17 => ?_) (fun h17 => ?_)
        · refine vv_iincN (L' := [_, _, _, _]) (j := 3) C dX1_waysTo_29 rfl (by decide) rfl ?_
          refine vv_goto (tgt := 4) C dX1_waysTo_32 (by decide) ?_
          refine vv_sub (L' := [_, _, _, _]) [1, 2, 3, 0] rfl ?_
          have q := ih (i + 1) ⟨by omega, by omega⟩
          simp only [pu_or, h9, h17, if_true, if_false, reduceIte, Bool.false_eq_true, and_true, true_and, and_false, false_and, not_true, not_false_iff, and_self, ite_true, ite_false, not_true_eq_false, not_false_eq_true, or_true, true_or, or_false, false_or] at q
          exact q
        · refine vv_iload_n C dX1_waysTo_20 rfl 2 rfl ?_
          refine vv_aload_n C dX1_waysTo_21 rfl 0 rfl ?_
          refine vv_gR C (a := 3) (k := 7) (b := 10) inlX1 rfl rfl rfl rfl (by decide) rfl (tm_2 (List.mem_of_getElem? (i := 22) rfl)) dX1_waysTo_22 ?_
          refine vv_iload_n C dX1_waysTo_25 rfl 3 rfl ?_
          refine vv_ialdN C (a := 10) rfl (by omega) (by decide) dX1_waysTo_26 ?_
          refine vv_ior C dX1_waysTo_27 ?_
          refine vv_istore_n (i := 2) (L' := [_, _, _, _]) C dX1_waysTo_28 rfl (by decide) rfl ?_
          refine vv_iincN (L' := [_, _, _, _]) (j := 3) C dX1_waysTo_29 rfl (by decide) rfl ?_
          refine vv_goto (tgt := 4) C dX1_waysTo_32 (by decide) ?_
          refine vv_sub (L' := [_, _, _, _]) [2, 3, 1, 0] rfl ?_
          have q := ih (i + 1) ⟨by omega, by omega⟩
          simp only [pu_or, h9, h17, if_true, if_false, reduceIte, Bool.false_eq_true, and_true, true_and, and_false, false_and, not_true, not_false_iff, and_self, ite_true, ite_false, not_true_eq_false, not_false_eq_true, or_true, true_or, or_false, false_or] at q
          exact q
  refine vv_iconst (v := (0)) C dX1_waysTo_0 (by decide) ?_
  refine vv_istore_n (i := 2) (L' := [_, _, _]) C dX1_waysTo_1 rfl (by decide) rfl ?_
  refine vv_iconst (v := (nI 0)) C dX1_waysTo_2 (by decide) ?_
  refine vv_istore_n (i := 3) (L' := [_, _, _, _]) C dX1_waysTo_3 rfl (by decide) rfl ?_
  refine vv_sub (L' := [_, _, _, _]) [2, 3, 1, 0] rfl ?_
  exact lp4 (n + 1) 0 ⟨by omega, by omega⟩
theorem yk_X1_toldLossOf : vx_yV yX1_toldLossOf cX1_toldLossOf 4 (some .int) 1 := ⟨(tm_26 (List.mem_of_getElem? (i := 4) rfl)), (tm_1 (List.mem_of_getElem? (i := 19) rfl)), by decide +kernel, (tm_26 (List.mem_of_getElem? (i := 2) rfl)), (tm_26 (List.mem_of_getElem? (i := 3) rfl))⟩
set_option maxHeartbeats 4000000 in
set_option maxRecDepth 100000 in
theorem kk_X1_toldLossOf (l : Launch) (g : vx_G) (S : vx_St) (t : Int32) (n : Nat) (hn : S.1 3 0 = nI n) (hn8 : n ≤ 8) : vx_M l g yX1_toldLossOf cX1_toldLossOf 4 (some .int) (vx_R 1 21) [.ref (g.2.2.1 3), .int t] S (vx_pf (pu_sum (S.1 9) t n) S) := by
  refine vx_M.intro (by decide) (Nat.le_of_ble_eq_true rfl) ?_
  intro p e s m args below meth c C
  have lp4 : ∀ (fu : Nat) (i : Nat), (n - i < fu ∧ i ≤ n) → vx_V p l e (vx_R 1 21) s m args below meth c (MQ below (vx_Q g (vx_pf (pu_sum (S.1 9) t n) S)) args s 0 0 (vx_A g)) g 4 4 [(0, .ref (g.2.2.1 3)), (1, .int t), (2, .int (pu_sum (S.1 9) t i)), (3, .int (nI i))] [] (S) := by
    intro fu
    induction fu with
    | zero =>
      intro i hfu
      exact absurd hfu.1 (by omega)
    | succ fu ih =>
      intro i hfu
      obtain ⟨hf1, hf2⟩ := hfu
      refine vv_iload_n C dX1_toldLossOf_4 rfl 3 rfl ?_
      refine vv_aload_n C dX1_toldLossOf_5 rfl 0 rfl ?_
      refine vv_getI C (a := 3) (k := 0) (o := 0) inlX1 rfl rfl rfl (by decide) rfl (tm_11 (List.mem_of_getElem? (i := 16) rfl)) dX1_toldLossOf_6 ?_
      refine vv_icmp_ge (tgt := 35) C dX1_toldLossOf_9 (by decide) (fun h9 => ?_) (fun h9 => ?_)
      · have hge := pu_geT hn (by omega) (by omega) h9
        obtain rfl : n = i := by omega
        refine vv_iload_n C dX1_toldLossOf_35 rfl 2 rfl ?_
        refine vv_fret C dX1_toldLossOf_36 ?_
        rfl
      · have hlt := pu_geF hn (by omega) (by omega) h9
        refine vv_iload_n C dX1_toldLossOf_12 rfl 1 rfl ?_
        refine vv_iload_n C dX1_toldLossOf_13 rfl 3 rfl ?_
        refine vv_cSN_F C (kk_X4_isIn l g _ _ _) yk_X4_isIn (List.mem_of_getElem? (i := 50) rfl) (by decide) rfl (Nat.le_of_ble_eq_true rfl) rfl dX1_toldLossOf_14 ?_
        refine vv_ifb_eq (tgt := 29) C dX1_toldLossOf_17 (by decide) (fun h17 => ?_) (fun h17 => ?_)
        · refine vv_iincN (L' := [_, _, _, _]) (j := 3) C dX1_toldLossOf_29 rfl (by decide) rfl ?_
          refine vv_goto (tgt := 4) C dX1_toldLossOf_32 (by decide) ?_
          refine vv_sub (L' := [_, _, _, _]) [1, 2, 3, 0] rfl ?_
          have q := ih (i + 1) ⟨by omega, by omega⟩
          simp only [pu_sum, h9, h17, if_true, if_false, reduceIte, Bool.false_eq_true, and_true, true_and, and_false, false_and, not_true, not_false_iff, and_self, ite_true, ite_false, not_true_eq_false, not_false_eq_true, or_true, true_or, or_false, false_or] at q
          exact q
        · refine vv_iload_n C dX1_toldLossOf_20 rfl 2 rfl ?_
          refine vv_aload_n C dX1_toldLossOf_21 rfl 0 rfl ?_
          refine vv_gR C (a := 3) (k := 6) (b := 9) inlX1 rfl rfl rfl rfl (by decide) rfl (tm_2 (List.mem_of_getElem? (i := 21) rfl)) dX1_toldLossOf_22 ?_
          refine vv_iload_n C dX1_toldLossOf_25 rfl 3 rfl ?_
          refine vv_ialdN C (a := 9) rfl (by omega) (by decide) dX1_toldLossOf_26 ?_
          refine vv_iadd C dX1_toldLossOf_27 ?_
          refine vv_istore_n (i := 2) (L' := [_, _, _, _]) C dX1_toldLossOf_28 rfl (by decide) rfl ?_
          refine vv_iincN (L' := [_, _, _, _]) (j := 3) C dX1_toldLossOf_29 rfl (by decide) rfl ?_
          refine vv_goto (tgt := 4) C dX1_toldLossOf_32 (by decide) ?_
          refine vv_sub (L' := [_, _, _, _]) [2, 3, 1, 0] rfl ?_
          have q := ih (i + 1) ⟨by omega, by omega⟩
          simp only [pu_sum, h9, h17, if_true, if_false, reduceIte, Bool.false_eq_true, and_true, true_and, and_false, false_and, not_true, not_false_iff, and_self, ite_true, ite_false, not_true_eq_false, not_false_eq_true, or_true, true_or, or_false, false_or] at q
          exact q
  refine vv_iconst (v := (0)) C dX1_toldLossOf_0 (by decide) ?_
  refine vv_istore_n (i := 2) (L' := [_, _, _]) C dX1_toldLossOf_1 rfl (by decide) rfl ?_
  refine vv_iconst (v := (nI 0)) C dX1_toldLossOf_2 (by decide) ?_
  refine vv_istore_n (i := 3) (L' := [_, _, _, _]) C dX1_toldLossOf_3 rfl (by decide) rfl ?_
  refine vv_sub (L' := [_, _, _, _]) [2, 3, 1, 0] rfl ?_
  exact lp4 (n + 1) 0 ⟨by omega, by omega⟩
theorem yk_X1_openIn : vx_yV yX1_openIn cX1_openIn 4 (some .int) 1 := ⟨(tm_24 (List.mem_of_getElem? (i := 6) rfl)), (tm_1 (List.mem_of_getElem? (i := 19) rfl)), by decide +kernel, (tm_24 (List.mem_of_getElem? (i := 4) rfl)), (tm_24 (List.mem_of_getElem? (i := 5) rfl))⟩
set_option maxHeartbeats 4000000 in
set_option maxRecDepth 100000 in
theorem kk_X1_openIn (l : Launch) (g : vx_G) (S : vx_St) (hr : Int32) (n : Nat) (hn : S.1 3 0 = nI n) (hn8 : n ≤ 8) : vx_M l g yX1_openIn cX1_openIn 4 (some .int) (vx_R 1 22) [.ref (g.2.2.1 3), .int hr] S (vx_pf (pu_openIn (S.1 6) (S.1 7) hr n) S) := by
  refine vx_M.intro (by decide) (Nat.le_of_ble_eq_true rfl) ?_
  intro p e s m args below meth c C
  have lp4 : ∀ (fu : Nat) (i : Nat), (n - i < fu ∧ i ≤ n) → vx_V p l e (vx_R 1 22) s m args below meth c (MQ below (vx_Q g (vx_pf (pu_openIn (S.1 6) (S.1 7) hr n) S)) args s 0 0 (vx_A g)) g 4 4 [(0, .ref (g.2.2.1 3)), (1, .int hr), (2, .int (pu_openIn (S.1 6) (S.1 7) hr i)), (3, .int (nI i))] [] (S) := by
    intro fu
    induction fu with
    | zero =>
      intro i hfu
      exact absurd hfu.1 (by omega)
    | succ fu ih =>
      intro i hfu
      obtain ⟨hf1, hf2⟩ := hfu
      refine vv_iload_n C dX1_openIn_4 rfl 3 rfl ?_
      refine vv_aload_n C dX1_openIn_5 rfl 0 rfl ?_
      refine vv_getI C (a := 3) (k := 0) (o := 0) inlX1 rfl rfl rfl (by decide) rfl (tm_11 (List.mem_of_getElem? (i := 16) rfl)) dX1_openIn_6 ?_
      refine vv_icmp_ge (tgt := 34) C dX1_openIn_9 (by decide) (fun h9 => ?_) (fun h9 => ?_)
      · have hge := pu_geT hn (by omega) (by omega) h9
        obtain rfl : n = i := by omega
        refine vv_iload_n C dX1_openIn_34 rfl 2 rfl ?_
        refine vv_fret C dX1_openIn_35 ?_
        rfl
      · have hlt := pu_geF hn (by omega) (by omega) h9
        refine vv_aload_n C dX1_openIn_12 rfl 0 rfl ?_
        refine vv_iload_n C dX1_openIn_13 rfl 3 rfl ?_
        refine vv_iload_n C dX1_openIn_14 rfl 1 rfl ?_
        refine vv_cV_F C (a := 3) (kk_X1_isOpen l g _ _ (by omega) _) yk_X1_isOpen (tm_24 (List.mem_of_getElem? (i := 7) rfl)) rfl rfl rfl (by decide) rfl (Nat.le_of_ble_eq_true rfl) rfl dX1_openIn_15 ?_
        refine vv_ifb_eq (tgt := 28) C dX1_openIn_18 (by decide) (fun h18 => ?_) (fun h18 => ?_)
        · refine vv_iincN (L' := [_, _, _, _]) (j := 3) C dX1_openIn_28 rfl (by decide) rfl ?_
          refine vv_goto (tgt := 4) C dX1_openIn_31 (by decide) ?_
          refine vv_sub (L' := [_, _, _, _]) [1, 2, 3, 0] rfl ?_
          have q := ih (i + 1) ⟨by omega, by omega⟩
          simp only [pu_openIn, h9, h18, if_true, if_false, reduceIte, Bool.false_eq_true, and_true, true_and, and_false, false_and, not_true, not_false_iff, and_self, ite_true, ite_false, not_true_eq_false, not_false_eq_true, or_true, true_or, or_false, false_or] at q
          exact q
        · refine vv_iload_n C dX1_openIn_21 rfl 2 rfl ?_
          refine vv_iload_n C dX1_openIn_22 rfl 3 rfl ?_
          refine vv_cSN_F C (kk_X4_bit l g _ _) yk_X4_bit (List.mem_of_getElem? (i := 39) rfl) (by decide) rfl (Nat.le_of_ble_eq_true rfl) rfl dX1_openIn_23 ?_
          refine vv_ior C dX1_openIn_26 ?_
          refine vv_istore_n (i := 2) (L' := [_, _, _, _]) C dX1_openIn_27 rfl (by decide) rfl ?_
          refine vv_iincN (L' := [_, _, _, _]) (j := 3) C dX1_openIn_28 rfl (by decide) rfl ?_
          refine vv_goto (tgt := 4) C dX1_openIn_31 (by decide) ?_
          refine vv_sub (L' := [_, _, _, _]) [2, 3, 1, 0] rfl ?_
          have q := ih (i + 1) ⟨by omega, by omega⟩
          simp only [pu_openIn, h9, h18, if_true, if_false, reduceIte, Bool.false_eq_true, and_true, true_and, and_false, false_and, not_true, not_false_iff, and_self, ite_true, ite_false, not_true_eq_false, not_false_eq_true, or_true, true_or, or_false, false_or] at q
          exact q
  refine vv_iconst (v := (0)) C dX1_openIn_0 (by decide) ?_
  refine vv_istore_n (i := 2) (L' := [_, _, _]) C dX1_openIn_1 rfl (by decide) rfl ?_
  refine vv_iconst (v := (nI 0)) C dX1_openIn_2 (by decide) ?_
  refine vv_istore_n (i := 3) (L' := [_, _, _, _]) C dX1_openIn_3 rfl (by decide) rfl ?_
  refine vv_sub (L' := [_, _, _, _]) [2, 3, 1, 0] rfl ?_
  exact lp4 (n + 1) 0 ⟨by omega, by omega⟩
theorem yk_X1_lossOf : vx_yV yX1_lossOf cX1_lossOf 5 (some .int) 2 := ⟨(tm_16 (List.mem_of_getElem? (i := 18) rfl)), (tm_1 (List.mem_of_getElem? (i := 19) rfl)), by decide +kernel, (tm_16 (List.mem_of_getElem? (i := 16) rfl)), (tm_16 (List.mem_of_getElem? (i := 17) rfl))⟩
set_option maxHeartbeats 4000000 in
set_option maxRecDepth 100000 in
theorem kk_X1_lossOf (l : Launch) (g : vx_G) (S : vx_St) (t rn : Int32) (n : Nat) (hn : S.1 3 0 = nI n) (hn8 : n ≤ 8) : vx_M l g yX1_lossOf cX1_lossOf 5 (some .int) (vx_R 1 21) [.ref (g.2.2.1 3), .int t, .int rn] S (vx_pf (pu_loss (S.1 4) (S.1 9) rn t n) S) := by
  refine vx_M.intro (by decide) (Nat.le_of_ble_eq_true rfl) ?_
  intro p e s m args below meth c C
  have lp5 : ∀ (fu : Nat) (i : Nat), (n - i < fu ∧ i ≤ n) → vx_V p l e (vx_R 1 21) s m args below meth c (MQ below (vx_Q g (vx_pf (pu_loss (S.1 4) (S.1 9) rn t n) S)) args s 0 0 (vx_A g)) g 5 5 [(0, .ref (g.2.2.1 3)), (1, .int t), (2, .int rn), (3, .int (pu_loss (S.1 4) (S.1 9) rn t i)), (4, .int (nI i))] [] (S) := by
    intro fu
    induction fu with
    | zero =>
      intro i hfu
      exact absurd hfu.1 (by omega)
    | succ fu ih =>
      intro i hfu
      obtain ⟨hf1, hf2⟩ := hfu
      refine vv_iload C dX1_lossOf_5 4 rfl ?_
      refine vv_aload_n C dX1_lossOf_7 rfl 0 rfl ?_
      refine vv_getI C (a := 3) (k := 0) (o := 0) inlX1 rfl rfl rfl (by decide) rfl (tm_11 (List.mem_of_getElem? (i := 16) rfl)) dX1_lossOf_8 ?_
      refine vv_icmp_ge (tgt := 66) C dX1_lossOf_11 (by decide) (fun h11 => ?_) (fun h11 => ?_)
      · have hge := pu_geT hn (by omega) (by omega) h11
        obtain rfl : n = i := by omega
        refine vv_iload_n C dX1_lossOf_66 rfl 3 rfl ?_
        refine vv_fret C dX1_lossOf_67 ?_
        rfl
      · have hlt := pu_geF hn (by omega) (by omega) h11
        refine vv_iload_n C dX1_lossOf_14 rfl 1 rfl ?_
        refine vv_iload C dX1_lossOf_15 4 rfl ?_
        refine vv_cSN_F C (kk_X4_isIn l g _ _ _) yk_X4_isIn (List.mem_of_getElem? (i := 50) rfl) (by decide) rfl (Nat.le_of_ble_eq_true rfl) rfl dX1_lossOf_17 ?_
        refine vv_ifb_eq (tgt := 60) C dX1_lossOf_20 (by decide) (fun h20 => ?_) (fun h20 => ?_)
        · refine vv_iincN (L' := [_, _, _, _, _]) (j := 4) C dX1_lossOf_60 rfl (by decide) rfl ?_
          refine vv_goto (tgt := 5) C dX1_lossOf_63 (by decide) ?_
          refine vv_sub (L' := [_, _, _, _, _]) [1, 2, 3, 4, 0] rfl ?_
          have q := ih (i + 1) ⟨by omega, by omega⟩
          simp only [pu_loss, h11, h20, if_true, if_false, reduceIte, Bool.false_eq_true, and_true, true_and, and_false, false_and, not_true, not_false_iff, and_self, ite_true, ite_false, not_true_eq_false, not_false_eq_true, or_true, true_or, or_false, false_or] at q
          exact q
        · refine vv_aload_n C dX1_lossOf_23 rfl 0 rfl ?_
          refine vv_gR C (a := 3) (k := 1) (b := 4) inlX1 rfl rfl rfl rfl (by decide) rfl (tm_2 (List.mem_of_getElem? (i := 16) rfl)) dX1_lossOf_24 ?_
          refine vv_iload C dX1_lossOf_27 4 rfl ?_
          refine vv_ialdN C (a := 4) rfl (by omega) (by decide) dX1_lossOf_29 ?_
          refine vv_iconst (v := (4)) C dX1_lossOf_30 (by decide) ?_
          refine vv_icmp_eq (tgt := 60) C dX1_lossOf_31 (by decide) (fun h31 => ?_) (fun h31 => ?_)
          · refine vv_iincN (L' := [_, _, _, _, _]) (j := 4) C dX1_lossOf_60 rfl (by decide) rfl ?_
            refine vv_goto (tgt := 5) C dX1_lossOf_63 (by decide) ?_
            refine vv_sub (L' := [_, _, _, _, _]) [1, 2, 3, 4, 0] rfl ?_
            have q := ih (i + 1) ⟨by omega, by omega⟩
            simp only [pu_loss, h11, h20, h31, if_true, if_false, reduceIte, Bool.false_eq_true, and_true, true_and, and_false, false_and, not_true, not_false_iff, and_self, ite_true, ite_false, not_true_eq_false, not_false_eq_true, or_true, true_or, or_false, false_or] at q
            exact q
          · refine vv_iload_n C dX1_lossOf_34 rfl 3 rfl ?_
            refine vv_iload_n C dX1_lossOf_35 rfl 2 rfl ?_
            refine vv_if_eq (tgt := 51) C dX1_lossOf_36 (by decide) (fun h36 => ?_) (fun h36 => ?_)
            · refine vv_aload_n C dX1_lossOf_51 rfl 0 rfl ?_
              refine vv_gR C (a := 3) (k := 6) (b := 9) inlX1 rfl rfl rfl rfl (by decide) rfl (tm_2 (List.mem_of_getElem? (i := 21) rfl)) dX1_lossOf_52 ?_
              refine vv_iload C dX1_lossOf_55 4 rfl ?_
              refine vv_ialdN C (a := 9) rfl (by omega) (by decide) dX1_lossOf_57 ?_
              refine vv_iadd C dX1_lossOf_58 ?_
              refine vv_istore_n (i := 3) (L' := [_, _, _, _, _]) C dX1_lossOf_59 rfl (by decide) rfl ?_
              refine vv_iincN (L' := [_, _, _, _, _]) (j := 4) C dX1_lossOf_60 rfl (by decide) rfl ?_
              refine vv_goto (tgt := 5) C dX1_lossOf_63 (by decide) ?_
              refine vv_sub (L' := [_, _, _, _, _]) [2, 3, 4, 1, 0] rfl ?_
              have q := ih (i + 1) ⟨by omega, by omega⟩
              simp only [pu_loss, h11, h20, h31, if_pos h36, if_true, if_false, reduceIte, Bool.false_eq_true, and_true, true_and, and_false, false_and, not_true, not_false_iff, and_self, ite_true, ite_false, not_true_eq_false, not_false_eq_true, or_true, true_or, or_false, false_or] at q
              exact q
            · refine vv_aload_n C dX1_lossOf_39 rfl 0 rfl ?_
              refine vv_gR C (a := 3) (k := 6) (b := 9) inlX1 rfl rfl rfl rfl (by decide) rfl (tm_2 (List.mem_of_getElem? (i := 21) rfl)) dX1_lossOf_40 ?_
              refine vv_iload C dX1_lossOf_43 4 rfl ?_
              refine vv_ialdN C (a := 9) rfl (by omega) (by decide) dX1_lossOf_45 ?_
              refine vv_iconst (v := (1)) C dX1_lossOf_46 (by decide) ?_
              refine vv_iadd C dX1_lossOf_47 ?_
              refine vv_goto (tgt := 58) C dX1_lossOf_48 (by decide) ?_
              refine vv_iadd C dX1_lossOf_58 ?_
              refine vv_istore_n (i := 3) (L' := [_, _, _, _, _]) C dX1_lossOf_59 rfl (by decide) rfl ?_
              refine vv_iincN (L' := [_, _, _, _, _]) (j := 4) C dX1_lossOf_60 rfl (by decide) rfl ?_
              refine vv_goto (tgt := 5) C dX1_lossOf_63 (by decide) ?_
              refine vv_sub (L' := [_, _, _, _, _]) [2, 3, 4, 1, 0] rfl ?_
              have q := ih (i + 1) ⟨by omega, by omega⟩
              simp only [pu_loss, h11, h20, h31, if_neg h36, if_true, if_false, reduceIte, Bool.false_eq_true, and_true, true_and, and_false, false_and, not_true, not_false_iff, and_self, ite_true, ite_false, not_true_eq_false, not_false_eq_true, or_true, true_or, or_false, false_or] at q
              exact q
  refine vv_iconst (v := (0)) C dX1_lossOf_0 (by decide) ?_
  refine vv_istore_n (i := 3) (L' := [_, _, _, _]) C dX1_lossOf_1 rfl (by decide) rfl ?_
  refine vv_iconst (v := (nI 0)) C dX1_lossOf_2 (by decide) ?_
  refine vv_istore (L' := [_, _, _, _, _]) C dX1_lossOf_3 (by decide) rfl ?_
  refine vv_sub (L' := [_, _, _, _, _]) [2, 3, 4, 1, 0] rfl ?_
  exact lp5 (n + 1) 0 ⟨by omega, by omega⟩
theorem yk_X0_hasBegun : vx_yV yX0_hasBegun cX0_hasBegun 1 (some .boolean) 0 := ⟨(tm_11 (List.mem_of_getElem? (i := 11) rfl)), (tm_1 (List.mem_of_getElem? (i := 23) rfl)), by decide +kernel, (tm_11 (List.mem_of_getElem? (i := 9) rfl)), (tm_11 (List.mem_of_getElem? (i := 10) rfl))⟩
set_option maxHeartbeats 4000000 in
set_option maxRecDepth 100000 in
theorem kk_X0_hasBegun (l : Launch) (g : vx_G) (S : vx_St) (d : Nat) (hd0 : vx_SH[d]? = some vx_sDay) : vx_M l g yX0_hasBegun cX0_hasBegun 1 (some .boolean) (vx_R 0 0) [.ref (g.2.2.1 d)] S (vx_pf (vx_i (decide (0 < S.1 d 2))) S) := by
  refine vx_M.intro (by decide) (Nat.le_of_ble_eq_true rfl) ?_
  intro p e s m args below meth c C
  refine vv_aload_n C dX0_hasBegun_0 rfl 0 rfl ?_
  refine vv_getI C (a := d) (k := 2) (o := 0) inlX0 hd0 rfl rfl (by decide) rfl (tm_11 (List.mem_of_getElem? (i := 12) rfl)) dX0_hasBegun_1 ?_
  refine vv_if_le (tgt := 11) C dX0_hasBegun_4 (by decide) (fun h4 => ?_) (fun h4 => ?_)
  · have g4 := pu_le h4
    refine vv_iconst (v := (0)) C dX0_hasBegun_11 (by decide) ?_
    refine vv_fzret C dX0_hasBegun_12 rfl ?_
    simp [vx_i, h4, g4]
  · have g4 := pu_nle h4
    refine vv_iconst (v := (1)) C dX0_hasBegun_7 (by decide) ?_
    refine vv_goto (tgt := 12) C dX0_hasBegun_8 (by decide) ?_
    refine vv_fzret C dX0_hasBegun_12 rfl ?_
    simp [vx_i, h4, g4]
theorem yk_X0_hourComes : vx_yV yX0_hourComes cX0_hourComes 1 (some .boolean) 0 := ⟨(tm_18 (List.mem_of_getElem? (i := 1) rfl)), (tm_1 (List.mem_of_getElem? (i := 23) rfl)), by decide +kernel, (tm_17 (List.mem_of_getElem? (i := 23) rfl)), (tm_18 (List.mem_of_getElem? (i := 0) rfl))⟩
set_option maxHeartbeats 4000000 in
set_option maxRecDepth 100000 in
theorem kk_X0_hourComes (l : Launch) (g : vx_G) (S : vx_St) (d : Nat) (hd0 : vx_SH[d]? = some vx_sDay) : vx_M l g yX0_hourComes cX0_hourComes 1 (some .boolean) (vx_R 0 0) [.ref (g.2.2.1 d)] S (vx_pf (vx_i (decide (S.1 d 2 < 9) && decide (S.1 d 7 = 0))) S) := by
  refine vx_M.intro (by decide) (Nat.le_of_ble_eq_true rfl) ?_
  intro p e s m args below meth c C
  refine vv_aload_n C dX0_hourComes_0 rfl 0 rfl ?_
  refine vv_getI C (a := d) (k := 2) (o := 0) inlX0 hd0 rfl rfl (by decide) rfl (tm_11 (List.mem_of_getElem? (i := 12) rfl)) dX0_hourComes_1 ?_
  refine vv_bipush (v := (9)) C dX0_hourComes_4 (by decide) ?_
  refine vv_icmp_ge (tgt := 20) C dX0_hourComes_6 (by decide) (fun h6 => ?_) (fun h6 => ?_)
  · have g6 := pu_le h6
    refine vv_iconst (v := (0)) C dX0_hourComes_20 (by decide) ?_
    refine vv_fzret C dX0_hourComes_21 rfl ?_
    simp [vx_i, h6, g6]
  · have g6 := pu_nle h6
    refine vv_aload_n C dX0_hourComes_9 rfl 0 rfl ?_
    refine vv_getZ C (a := d) (k := 7) (o := 0) inlX0 hd0 rfl rfl (by decide) rfl (tm_18 (List.mem_of_getElem? (i := 2) rfl)) dX0_hourComes_10 ?_
    refine vv_ifz_ne (tgt := 20) C dX0_hourComes_13 (by decide) (fun h13 => ?_) (fun h13 => ?_)
    · refine vv_iconst (v := (0)) C dX0_hourComes_20 (by decide) ?_
      refine vv_fzret C dX0_hourComes_21 rfl ?_
      simp [vx_i, h6, g6, h13]
    · refine vv_iconst (v := (1)) C dX0_hourComes_16 (by decide) ?_
      refine vv_goto (tgt := 21) C dX0_hourComes_17 (by decide) ?_
      refine vv_fzret C dX0_hourComes_21 rfl ?_
      simp [vx_i, h6, g6, h13]
theorem yk_X0_wantOf : vx_yV yX0_wantOf cX0_wantOf 4 (some .int) 2 := ⟨(tm_15 (List.mem_of_getElem? (i := 2) rfl)), (tm_1 (List.mem_of_getElem? (i := 23) rfl)), by decide +kernel, (tm_15 (List.mem_of_getElem? (i := 0) rfl)), (tm_15 (List.mem_of_getElem? (i := 1) rfl))⟩
set_option maxHeartbeats 4000000 in
set_option maxRecDepth 100000 in
theorem kk_X0_wantOf (l : Launch) (g : vx_G) (S : vx_St) (d : Nat) (hd0 : vx_SH[d]? = some vx_sDay) (h : Nat) (hh : h < 8) : vx_M l g yX0_wantOf cX0_wantOf 4 (some .int) (vx_R 1 22) [.ref (g.2.2.1 d), .ref (g.2.2.1 3), .int (nI h)] S (vx_pf (pu_want (S.1 4) (S.1 6) (S.1 7) (S.1 8) (S.1 d 2) (S.1 d 5) (S.1 d 4) h) S) := by
  refine vx_M.intro (by decide) (Nat.le_of_ble_eq_true rfl) ?_
  intro p e s m args below meth c C
  refine vv_aload_n C dX0_wantOf_0 rfl 1 rfl ?_
  refine vv_iload_n C dX0_wantOf_1 rfl 2 rfl ?_
  refine vv_aload_n C dX0_wantOf_2 rfl 0 rfl ?_
  refine vv_getI C (a := d) (k := 2) (o := 0) inlX0 hd0 rfl rfl (by decide) rfl (tm_11 (List.mem_of_getElem? (i := 12) rfl)) dX0_wantOf_3 ?_
  refine vv_cVN_F C (a := 3) (kk_X1_isOpen l g _ _ (by omega) _) yk_X1_isOpen (List.mem_of_getElem? (i := 43) rfl) rfl rfl rfl (by decide) rfl (Nat.le_of_ble_eq_true rfl) rfl dX0_wantOf_6 ?_
  refine vv_ifb_eq (tgt := 23) C dX0_wantOf_9 (by decide) (fun h9 => ?_) (fun h9 => ?_)
  · refine vv_iconst (v := (0)) C dX0_wantOf_23 (by decide) ?_
    refine vv_fret C dX0_wantOf_24 ?_
    simp_all [pu_want]
  · refine vv_aload_n C dX0_wantOf_12 rfl 0 rfl ?_
    refine vv_getI C (a := d) (k := 5) (o := 0) inlX0 hd0 rfl rfl (by decide) rfl (tm_15 (List.mem_of_getElem? (i := 3) rfl)) dX0_wantOf_13 ?_
    refine vv_iload_n C dX0_wantOf_16 rfl 2 rfl ?_
    refine vv_cSN_F C (kk_X4_isIn l g _ _ _) yk_X4_isIn (List.mem_of_getElem? (i := 44) rfl) (by decide) rfl (Nat.le_of_ble_eq_true rfl) rfl dX0_wantOf_17 ?_
    refine vv_ifb_eq (tgt := 25) C dX0_wantOf_20 (by decide) (fun h20 => ?_) (fun h20 => ?_)
    · refine vv_aload_n C dX0_wantOf_25 rfl 1 rfl ?_
      refine vv_gRN C (a := 3) (k := 5) (b := 8) inlX1 rfl rfl rfl rfl (by decide) rfl (List.mem_of_getElem? (i := 12) rfl) dX0_wantOf_26 ?_
      refine vv_iload_n C dX0_wantOf_29 rfl 2 rfl ?_
      refine vv_ialdN C (a := 8) rfl (by omega) (by decide) dX0_wantOf_30 ?_
      refine vv_istore_n (i := 3) (L' := [_, _, _, _]) C dX0_wantOf_31 rfl (by decide) rfl ?_
      refine vv_aload_n C dX0_wantOf_32 rfl 2 rfl ?_
      refine vv_iload_n C dX0_wantOf_33 rfl 3 rfl ?_
      refine vv_iconst (v := (2)) C dX0_wantOf_34 (by decide) ?_
      refine vv_cVN_F C (a := 3) (kk_X1_isA l g _ _ (by omega) _) yk_X1_isA (List.mem_of_getElem? (i := 45) rfl) rfl rfl rfl (by decide) rfl (Nat.le_of_ble_eq_true rfl) rfl dX0_wantOf_35 ?_
      refine vv_ifb_eq (tgt := 58) C dX0_wantOf_38 (by decide) (fun h38 => ?_) (fun h38 => ?_)
      · refine vv_aload_n C dX0_wantOf_58 rfl 2 rfl ?_
        refine vv_iload_n C dX0_wantOf_59 rfl 3 rfl ?_
        refine vv_iconst (v := (3)) C dX0_wantOf_60 (by decide) ?_
        refine vv_cVN_F C (a := 3) (kk_X1_isA l g _ _ (by omega) _) yk_X1_isA (List.mem_of_getElem? (i := 45) rfl) rfl rfl rfl (by decide) rfl (Nat.le_of_ble_eq_true rfl) rfl dX0_wantOf_61 ?_
        refine vv_ifb_eq (tgt := 82) C dX0_wantOf_64 (by decide) (fun h64 => ?_) (fun h64 => ?_)
        · refine vv_iload_n C dX0_wantOf_82 rfl 0 rfl ?_
          refine vv_fret C dX0_wantOf_83 ?_
          simp_all [pu_want]
        · refine vv_aload_n C dX0_wantOf_67 rfl 1 rfl ?_
          refine vv_getI C (a := d) (k := 4) (o := 0) inlX0 hd0 rfl rfl (by decide) rfl (tm_15 (List.mem_of_getElem? (i := 4) rfl)) dX0_wantOf_68 ?_
          refine vv_iload_n C dX0_wantOf_71 rfl 3 rfl ?_
          refine vv_cSN_F C (kk_X4_isIn l g _ _ _) yk_X4_isIn (List.mem_of_getElem? (i := 44) rfl) (by decide) rfl (Nat.le_of_ble_eq_true rfl) rfl dX0_wantOf_72 ?_
          refine vv_ifb_eq (tgt := 82) C dX0_wantOf_75 (by decide) (fun h75 => ?_) (fun h75 => ?_)
          · refine vv_iload_n C dX0_wantOf_82 rfl 0 rfl ?_
            refine vv_fret C dX0_wantOf_83 ?_
            simp_all [pu_want]
          · refine vv_iload_n C dX0_wantOf_78 rfl 0 rfl ?_
            refine vv_iconst (v := (1)) C dX0_wantOf_79 (by decide) ?_
            refine vv_isub C dX0_wantOf_80 ?_
            refine vv_fret C dX0_wantOf_81 ?_
            simp_all [pu_want]
      · refine vv_aload_n C dX0_wantOf_41 rfl 1 rfl ?_
        refine vv_getI C (a := d) (k := 2) (o := 0) inlX0 hd0 rfl rfl (by decide) rfl (tm_11 (List.mem_of_getElem? (i := 12) rfl)) dX0_wantOf_42 ?_
        refine vv_aload_n C dX0_wantOf_45 rfl 2 rfl ?_
        refine vv_gRN C (a := 3) (k := 3) (b := 6) inlX1 rfl rfl rfl rfl (by decide) rfl (List.mem_of_getElem? (i := 9) rfl) dX0_wantOf_46 ?_
        refine vv_iload_n C dX0_wantOf_49 rfl 3 rfl ?_
        refine vv_ialdN C (a := 6) rfl (by omega) (by decide) dX0_wantOf_50 ?_
        refine vv_icmp_ne (tgt := 58) C dX0_wantOf_51 (by decide) (fun h51 => ?_) (fun h51 => ?_)
        · refine vv_aload_n C dX0_wantOf_58 rfl 2 rfl ?_
          refine vv_iload_n C dX0_wantOf_59 rfl 3 rfl ?_
          refine vv_iconst (v := (3)) C dX0_wantOf_60 (by decide) ?_
          refine vv_cVN_F C (a := 3) (kk_X1_isA l g _ _ (by omega) _) yk_X1_isA (List.mem_of_getElem? (i := 45) rfl) rfl rfl rfl (by decide) rfl (Nat.le_of_ble_eq_true rfl) rfl dX0_wantOf_61 ?_
          refine vv_ifb_eq (tgt := 82) C dX0_wantOf_64 (by decide) (fun h64 => ?_) (fun h64 => ?_)
          · refine vv_iload_n C dX0_wantOf_82 rfl 0 rfl ?_
            refine vv_fret C dX0_wantOf_83 ?_
            simp_all [pu_want]
          · refine vv_aload_n C dX0_wantOf_67 rfl 1 rfl ?_
            refine vv_getI C (a := d) (k := 4) (o := 0) inlX0 hd0 rfl rfl (by decide) rfl (tm_15 (List.mem_of_getElem? (i := 4) rfl)) dX0_wantOf_68 ?_
            refine vv_iload_n C dX0_wantOf_71 rfl 3 rfl ?_
            refine vv_cSN_F C (kk_X4_isIn l g _ _ _) yk_X4_isIn (List.mem_of_getElem? (i := 44) rfl) (by decide) rfl (Nat.le_of_ble_eq_true rfl) rfl dX0_wantOf_72 ?_
            refine vv_ifb_eq (tgt := 82) C dX0_wantOf_75 (by decide) (fun h75 => ?_) (fun h75 => ?_)
            · refine vv_iload_n C dX0_wantOf_82 rfl 0 rfl ?_
              refine vv_fret C dX0_wantOf_83 ?_
              simp_all [pu_want]
            · refine vv_iload_n C dX0_wantOf_78 rfl 0 rfl ?_
              refine vv_iconst (v := (1)) C dX0_wantOf_79 (by decide) ?_
              refine vv_isub C dX0_wantOf_80 ?_
              refine vv_fret C dX0_wantOf_81 ?_
              simp_all [pu_want]
        · refine vv_iconst (v := (2)) C dX0_wantOf_54 (by decide) ?_
          refine vv_iload_n C dX0_wantOf_55 rfl 0 rfl ?_
          refine vv_imul C dX0_wantOf_56 ?_
          refine vv_fret C dX0_wantOf_57 ?_
          simp_all [pu_want]
    · refine vv_iconst (v := (0)) C dX0_wantOf_23 (by decide) ?_
      refine vv_fret C dX0_wantOf_24 ?_
      simp_all [pu_want]
theorem yk_X0_goesBy : vx_yV yX0_goesBy cX0_goesBy 6 (some .int) 2 := ⟨(tm_16 (List.mem_of_getElem? (i := 14) rfl)), (tm_1 (List.mem_of_getElem? (i := 23) rfl)), by decide +kernel, (tm_16 (List.mem_of_getElem? (i := 12) rfl)), (tm_16 (List.mem_of_getElem? (i := 13) rfl))⟩
set_option maxHeartbeats 4000000 in
set_option maxRecDepth 100000 in
theorem kk_X0_goesBy (l : Launch) (g : vx_G) (S : vx_St) (d : Nat) (hd0 : vx_SH[d]? = some vx_sDay) (hd3 : vx_SH[d + 3]? = some vx_sA) (t : Int32) (n : Nat) (hn : S.1 3 0 = nI n) (hn8 : n ≤ 8) : vx_M l g yX0_goesBy cX0_goesBy 6 (some .int) (vx_R 2 45) [.ref (g.2.2.1 d), .ref (g.2.2.1 3), .int t] S (vx_pf (pu_goes (S.1 4) (S.1 9) (S.1 10) (vx_b01 (S.1 d 6)) (S.1 (d + 3)) t n) S) := by
  refine vx_M.intro (by decide) (Nat.le_of_ble_eq_true rfl) ?_
  intro p e s m args below meth c C
  have lp8 : ∀ (fu : Nat) (i : Nat), (n - i < fu ∧ i ≤ n) → vx_V p l e (vx_R 2 45) s m args below meth c (MQ below (vx_Q g (vx_pf (pu_goes (S.1 4) (S.1 9) (S.1 10) (vx_b01 (S.1 d 6)) (S.1 (d + 3)) t n) S)) args s 0 0 (vx_A g)) g 6 8 [(0, .ref (g.2.2.1 d)), (1, .ref (g.2.2.1 3)), (2, .int t), (3, .int (pu_gof (S.1 (d + 3)) t i)), (4, .int (pu_gos (S.1 (d + 3)) (S.1 10) t i)), (5, .int (nI i))] [] (S) := by
    intro fu
    induction fu with
    | zero =>
      intro i hfu
      exact absurd hfu.1 (by omega)
    | succ fu ih =>
      intro i hfu
      obtain ⟨hf1, hf2⟩ := hfu
      refine vv_iload C dX0_goesBy_8 5 rfl ?_
      refine vv_aload_n C dX0_goesBy_10 rfl 1 rfl ?_
      refine vv_getIN C (a := 3) (k := 0) (o := 0) inlX1 rfl rfl rfl (by decide) rfl (List.mem_of_getElem? (i := 6) rfl) dX0_goesBy_11 ?_
      refine vv_icmp_ge (tgt := 64) C dX0_goesBy_14 (by decide) (fun h14 => ?_) (fun h14 => ?_)
      · have g14 := pu_le h14
        have hge := pu_geT hn (by omega) (by omega) h14
        obtain rfl : n = i := by omega
        refine vv_iload_n C dX0_goesBy_64 rfl 3 rfl ?_
        refine vv_aload_n C dX0_goesBy_65 rfl 1 rfl ?_
        refine vv_iload C dX0_goesBy_66 4 rfl ?_
        refine vv_aload_n C dX0_goesBy_68 rfl 0 rfl ?_
        refine vv_getZ C (a := d) (k := 6) (o := 0) inlX0 hd0 rfl rfl (by decide) rfl (tm_16 (List.mem_of_getElem? (i := 15) rfl)) dX0_goesBy_69 ?_
        refine vv_cVN_F C (a := 3) (kk_X1_lossOf l g _ _ _ n hn hn8) yk_X1_lossOf (List.mem_of_getElem? (i := 49) rfl) rfl rfl rfl (by decide) rfl (Nat.le_of_ble_eq_true rfl) rfl dX0_goesBy_72 ?_
        refine vv_iadd C dX0_goesBy_75 ?_
        refine vv_fret C dX0_goesBy_76 ?_
        rfl
      · have g14 := pu_nle h14
        have hlt := pu_geF hn (by omega) (by omega) h14
        refine vv_iload_n C dX0_goesBy_17 rfl 2 rfl ?_
        refine vv_iload C dX0_goesBy_18 5 rfl ?_
        refine vv_cSN_F C (kk_X4_isIn l g _ _ _) yk_X4_isIn (List.mem_of_getElem? (i := 44) rfl) (by decide) rfl (Nat.le_of_ble_eq_true rfl) rfl dX0_goesBy_20 ?_
        refine vv_ifb_eq (tgt := 58) C dX0_goesBy_23 (by decide) (fun h23 => ?_) (fun h23 => ?_)
        · refine vv_iincN (L' := [_, _, _, _, _, _]) (j := 5) C dX0_goesBy_58 rfl (by decide) rfl ?_
          refine vv_goto (tgt := 8) C dX0_goesBy_61 (by decide) ?_
          refine vv_sub (L' := [_, _, _, _, _, _]) [1, 2, 3, 4, 5, 0] rfl ?_
          have q := ih (i + 1) ⟨by omega, by omega⟩
          simp only [pu_gof, pu_gos, h14, g14, h23, if_true, if_false, reduceIte, Bool.false_eq_true, and_true, true_and, and_false, false_and, not_true, not_false_iff, and_self, ite_true, ite_false, not_true_eq_false, not_false_eq_true, or_true, true_or, or_false, false_or] at q
          exact q
        · refine vv_aload_n C dX0_goesBy_26 rfl 0 rfl ?_
          refine vv_gR C (a := d) (k := 11) (b := d + 3) inlX0 hd0 rfl rfl rfl (by decide) rfl (tm_3 (List.mem_of_getElem? (i := 6) rfl)) dX0_goesBy_27 ?_
          refine vv_iload C dX0_goesBy_30 5 rfl ?_
          refine vv_ialdN C (a := d + 3) hd3 (by omega) (by decide) dX0_goesBy_32 ?_
          refine vv_if_le (tgt := 58) C dX0_goesBy_33 (by decide) (fun h33 => ?_) (fun h33 => ?_)
          · have g33 := pu_le h33
            refine vv_iincN (L' := [_, _, _, _, _, _]) (j := 5) C dX0_goesBy_58 rfl (by decide) rfl ?_
            refine vv_goto (tgt := 8) C dX0_goesBy_61 (by decide) ?_
            refine vv_sub (L' := [_, _, _, _, _, _]) [1, 2, 3, 4, 5, 0] rfl ?_
            have q := ih (i + 1) ⟨by omega, by omega⟩
            simp only [pu_gof, pu_gos, h14, g14, h23, h33, g33, if_true, if_false, reduceIte, Bool.false_eq_true, and_true, true_and, and_false, false_and, not_true, not_false_iff, and_self, ite_true, ite_false, not_true_eq_false, not_false_eq_true, or_true, true_or, or_false, false_or] at q
            exact q
          · have g33 := pu_nle h33
            refine vv_iload_n C dX0_goesBy_36 rfl 3 rfl ?_
            refine vv_aload_n C dX0_goesBy_37 rfl 0 rfl ?_
            refine vv_gR C (a := d) (k := 11) (b := d + 3) inlX0 hd0 rfl rfl rfl (by decide) rfl (tm_3 (List.mem_of_getElem? (i := 6) rfl)) dX0_goesBy_38 ?_
            refine vv_iload C dX0_goesBy_41 5 rfl ?_
            refine vv_ialdN C (a := d + 3) hd3 (by omega) (by decide) dX0_goesBy_43 ?_
            refine vv_iadd C dX0_goesBy_44 ?_
            refine vv_istore_n (i := 3) (L' := [_, _, _, _, _, _]) C dX0_goesBy_45 rfl (by decide) rfl ?_
            refine vv_iload C dX0_goesBy_46 4 rfl ?_
            refine vv_aload_n C dX0_goesBy_48 rfl 2 rfl ?_
            refine vv_gRN C (a := 3) (k := 7) (b := 10) inlX1 rfl rfl rfl rfl (by decide) rfl (List.mem_of_getElem? (i := 15) rfl) dX0_goesBy_49 ?_
            refine vv_iload C dX0_goesBy_52 5 rfl ?_
            refine vv_ialdN C (a := 10) rfl (by omega) (by decide) dX0_goesBy_54 ?_
            refine vv_ior C dX0_goesBy_55 ?_
            refine vv_istore (L' := [_, _, _, _, _, _]) C dX0_goesBy_56 (by decide) rfl ?_
            refine vv_iincN (L' := [_, _, _, _, _, _]) (j := 5) C dX0_goesBy_58 rfl (by decide) rfl ?_
            refine vv_goto (tgt := 8) C dX0_goesBy_61 (by decide) ?_
            refine vv_sub (L' := [_, _, _, _, _, _]) [3, 4, 5, 2, 1, 0] rfl ?_
            have q := ih (i + 1) ⟨by omega, by omega⟩
            simp only [pu_gof, pu_gos, h14, g14, h23, h33, g33, if_true, if_false, reduceIte, Bool.false_eq_true, and_true, true_and, and_false, false_and, not_true, not_false_iff, and_self, ite_true, ite_false, not_true_eq_false, not_false_eq_true, or_true, true_or, or_false, false_or] at q
            exact q
  refine vv_iconst (v := (0)) C dX0_goesBy_0 (by decide) ?_
  refine vv_istore_n (i := 3) (L' := [_, _, _, _]) C dX0_goesBy_1 rfl (by decide) rfl ?_
  refine vv_iconst (v := (0)) C dX0_goesBy_2 (by decide) ?_
  refine vv_istore (L' := [_, _, _, _, _]) C dX0_goesBy_3 (by decide) rfl ?_
  refine vv_iconst (v := (nI 0)) C dX0_goesBy_5 (by decide) ?_
  refine vv_istore (L' := [_, _, _, _, _, _]) C dX0_goesBy_6 (by decide) rfl ?_
  refine vv_sub (L' := [_, _, _, _, _, _]) [3, 4, 5, 2, 1, 0] rfl ?_
  exact lp8 (n + 1) 0 ⟨by omega, by omega⟩
theorem yk_X3_givesAll : vx_yV yX3_givesAll cX3_givesAll 5 (some .boolean) 2 := ⟨(tm_27 (List.mem_of_getElem? (i := 8) rfl)), (tm_2 (List.mem_of_getElem? (i := 3) rfl)), by decide +kernel, (tm_27 (List.mem_of_getElem? (i := 6) rfl)), (tm_27 (List.mem_of_getElem? (i := 7) rfl))⟩
set_option maxHeartbeats 4000000 in
set_option maxRecDepth 100000 in
theorem kk_X3_givesAll (l : Launch) (g : vx_G) (S : vx_St) (r : Nat) (hr0 : vx_SH[r]? = some vx_sRd) (hr1 : vx_SH[r + 1]? = some vx_sA) (hr2 : vx_SH[r + 2]? = some vx_sA) (n : Nat) (hn : S.1 r 0 = nI n) (hn8 : n ≤ 8) (sh ev : Int32) : vx_M l g yX3_givesAll cX3_givesAll 5 (some .boolean) (vx_R 1 21) [.ref (g.2.2.1 r), .int sh, .int ev] S (vx_pf (vx_i (pu_gives (S.1 (r + 1)) (S.1 (r + 2)) sh ev n)) S) := by
  refine vx_M.intro (by decide) (Nat.le_of_ble_eq_true rfl) ?_
  intro p e s m args below meth c C
  have lp2 : ∀ (fu : Nat) (i : Nat), (n - i < fu ∧ i ≤ n ∧ pu_gives (S.1 (r + 1)) (S.1 (r + 2)) sh ev i = true) → vx_V p l e (vx_R 1 21) s m args below meth c (MQ below (vx_Q g (vx_pf (vx_i (pu_gives (S.1 (r + 1)) (S.1 (r + 2)) sh ev n)) S)) args s 0 0 (vx_A g)) g 5 2 [(0, .ref (g.2.2.1 r)), (1, .int sh), (2, .int ev), (3, .int (nI i))] [] (S) := by
    intro fu
    induction fu with
    | zero =>
      intro i hfu
      exact absurd hfu.1 (by omega)
    | succ fu ih =>
      intro i hfu
      obtain ⟨hf1, hf2, hf3⟩ := hfu
      refine vv_iload_n C dX3_givesAll_2 rfl 3 rfl ?_
      refine vv_aload_n C dX3_givesAll_3 rfl 0 rfl ?_
      refine vv_getI C (a := r) (k := 0) (o := 0) inlX3 hr0 rfl rfl (by decide) rfl (tm_26 (List.mem_of_getElem? (i := 8) rfl)) dX3_givesAll_4 ?_
      refine vv_icmp_ge (tgt := 49) C dX3_givesAll_7 (by decide) (fun h7 => ?_) (fun h7 => ?_)
      · have hge := pu_geT hn (by omega) (by omega) h7
        obtain rfl : n = i := by omega
        refine vv_iconst (v := (1)) C dX3_givesAll_49 (by decide) ?_
        refine vv_fzret C dX3_givesAll_50 rfl ?_
        rw [hf3]; rfl
      · have hlt := pu_geF hn (by omega) (by omega) h7
        refine vv_aload_n C dX3_givesAll_10 rfl 0 rfl ?_
        refine vv_gR C (a := r) (k := 1) (b := r + 1) inlX3 hr0 rfl rfl rfl (by decide) rfl (tm_3 (List.mem_of_getElem? (i := 12) rfl)) dX3_givesAll_11 ?_
        refine vv_iload_n C dX3_givesAll_14 rfl 3 rfl ?_
        refine vv_ialdN C (a := r + 1) hr1 (by omega) (by decide) dX3_givesAll_15 ?_
        refine vv_iload_n C dX3_givesAll_16 rfl 1 rfl ?_
        refine vv_cSN_F C (kk_X4_isIn l g _ _ _) yk_X4_isIn (List.mem_of_getElem? (i := 65) rfl) (by decide) rfl (Nat.le_of_ble_eq_true rfl) rfl dX3_givesAll_17 ?_
        refine vv_ifb_eq (tgt := 27) C dX3_givesAll_20 (by decide) (fun h20 => ?_) (fun h20 => ?_)
        · refine vv_iconst (v := (0)) C dX3_givesAll_27 (by decide) ?_
          refine vv_istore (L' := [_, _, _, _, _]) C dX3_givesAll_28 (by decide) rfl ?_
          refine vv_iload C dX3_givesAll_30 0 rfl ?_
          refine vv_aload_n C dX3_givesAll_32 rfl 1 rfl ?_
          refine vv_gR C (a := r) (k := 2) (b := r + 2) inlX3 hr0 rfl rfl rfl (by decide) rfl (tm_3 (List.mem_of_getElem? (i := 13) rfl)) dX3_givesAll_33 ?_
          refine vv_iload_n C dX3_givesAll_36 rfl 4 rfl ?_
          refine vv_ialdN C (a := r + 2) hr2 (by omega) (by decide) dX3_givesAll_37 ?_
          refine vv_icmp_eq (tgt := 43) C dX3_givesAll_38 (by decide) (fun h38 => ?_) (fun h38 => ?_)
          · refine vv_iincN (L' := [_, _, _, _, _]) (j := 4) C dX3_givesAll_43 rfl (by decide) rfl ?_
            refine vv_goto (tgt := 2) C dX3_givesAll_46 (by decide) ?_
            refine vv_sub (L' := [_, _, _, _]) [2, 3, 4, 0] rfl ?_
            exact ih (i + 1) ⟨by omega, by omega, by simp_all [pu_gives, pu_shown]⟩
          · refine vv_iconst (v := (0)) C dX3_givesAll_41 (by decide) ?_
            refine vv_fzret C dX3_givesAll_42 rfl ?_
            rw [pu_gives_no (i := i) (by simp_all [pu_shown]) n hlt]; rfl
        · refine vv_iload_n C dX3_givesAll_23 rfl 2 rfl ?_
          refine vv_goto (tgt := 28) C dX3_givesAll_24 (by decide) ?_
          refine vv_istore (L' := [_, _, _, _, _]) C dX3_givesAll_28 (by decide) rfl ?_
          refine vv_iload C dX3_givesAll_30 0 rfl ?_
          refine vv_aload_n C dX3_givesAll_32 rfl 1 rfl ?_
          refine vv_gR C (a := r) (k := 2) (b := r + 2) inlX3 hr0 rfl rfl rfl (by decide) rfl (tm_3 (List.mem_of_getElem? (i := 13) rfl)) dX3_givesAll_33 ?_
          refine vv_iload_n C dX3_givesAll_36 rfl 4 rfl ?_
          refine vv_ialdN C (a := r + 2) hr2 (by omega) (by decide) dX3_givesAll_37 ?_
          refine vv_icmp_eq (tgt := 43) C dX3_givesAll_38 (by decide) (fun h38 => ?_) (fun h38 => ?_)
          · refine vv_iincN (L' := [_, _, _, _, _]) (j := 4) C dX3_givesAll_43 rfl (by decide) rfl ?_
            refine vv_goto (tgt := 2) C dX3_givesAll_46 (by decide) ?_
            refine vv_sub (L' := [_, _, _, _]) [2, 3, 4, 0] rfl ?_
            exact ih (i + 1) ⟨by omega, by omega, by simp_all [pu_gives, pu_shown]⟩
          · refine vv_iconst (v := (0)) C dX3_givesAll_41 (by decide) ?_
            refine vv_fzret C dX3_givesAll_42 rfl ?_
            rw [pu_gives_no (i := i) (by simp_all [pu_shown]) n hlt]; rfl
  refine vv_iconst (v := (nI 0)) C dX3_givesAll_0 (by decide) ?_
  refine vv_istore_n (i := 3) (L' := [_, _, _, _]) C dX3_givesAll_1 rfl (by decide) rfl ?_
  refine vv_sub (L' := [_, _, _, _]) [1, 2, 3, 0] rfl ?_
  exact lp2 (n + 1) 0 ⟨by omega, by omega, rfl⟩
theorem yk_X3_leastLeakOf : vx_yV yX3_leastLeakOf cX3_leastLeakOf 3 (some .int) 1 := ⟨(tm_27 (List.mem_of_getElem? (i := 4) rfl)), (tm_2 (List.mem_of_getElem? (i := 3) rfl)), by decide +kernel, (tm_27 (List.mem_of_getElem? (i := 2) rfl)), (tm_27 (List.mem_of_getElem? (i := 3) rfl))⟩
set_option maxHeartbeats 4000000 in
set_option maxRecDepth 100000 in
theorem kk_X3_leastLeakOf (l : Launch) (g : vx_G) (S : vx_St) (r : Nat) (hr0 : vx_SH[r]? = some vx_sRd) (hr1 : vx_SH[r + 1]? = some vx_sA) (hr2 : vx_SH[r + 2]? = some vx_sA) (n : Nat) (hn : S.1 r 0 = nI n) (hn8 : n ≤ 8) (sh : Int32) : vx_M l g yX3_leastLeakOf cX3_leastLeakOf 3 (some .int) (vx_R 2 45) [.ref (g.2.2.1 r), .int sh] S (vx_pf (pu_leak (S.1 (r + 1)) (S.1 (r + 2)) sh n 9) S) := by
  refine vx_M.intro (by decide) (Nat.le_of_ble_eq_true rfl) ?_
  intro p e s m args below meth c C
  have lp2 : ∀ (fu : Nat) (i : Nat), (10 - i < fu ∧ 1 ≤ i ∧ i ≤ 10 ∧ pu_leak (S.1 (r + 1)) (S.1 (r + 2)) sh n 9 = pu_leak (S.1 (r + 1)) (S.1 (r + 2)) sh n (10 - i)) → vx_V p l e (vx_R 2 45) s m args below meth c (MQ below (vx_Q g (vx_pf (pu_leak (S.1 (r + 1)) (S.1 (r + 2)) sh n 9) S)) args s 0 0 (vx_A g)) g 3 2 [(0, .ref (g.2.2.1 r)), (1, .int sh), (2, .int (nI i))] [] (S) := by
    intro fu
    induction fu with
    | zero =>
      intro i hfu
      exact absurd hfu.1 (by omega)
    | succ fu ih =>
      intro i hfu
      obtain ⟨hf1, hf2, hf3, hf4⟩ := hfu
      refine vv_iload_n C dX3_leastLeakOf_2 rfl 2 rfl ?_
      refine vv_bipush (v := (nI 9)) C dX3_leastLeakOf_3 (by decide) ?_
      refine vv_icmp_gt (tgt := 25) C dX3_leastLeakOf_5 (by decide) (fun h5 => ?_) (fun h5 => ?_)
      · have hge := (nI_ltI (by omega) (by omega)).mp h5
        refine vv_iconst (v := (-1)) C dX3_leastLeakOf_25 (by decide) ?_
        refine vv_fret C dX3_leastLeakOf_26 ?_
        rw [hf4, show 10 - i = 0 from by omega]; rfl
      · have hlt : i ≤ 9 := Nat.not_lt.mp (fun q => h5 ((nI_ltI (by omega) (by omega)).mpr q))
        refine vv_aload_n C dX3_leastLeakOf_8 rfl 0 rfl ?_
        refine vv_iload_n C dX3_leastLeakOf_9 rfl 1 rfl ?_
        refine vv_iload_n C dX3_leastLeakOf_10 rfl 2 rfl ?_
        refine vv_cV_F C (a := r) (kk_X3_givesAll l g _ _ hr0 hr1 hr2 n hn hn8 _ _) yk_X3_givesAll (tm_27 (List.mem_of_getElem? (i := 5) rfl)) hr0 rfl rfl (by decide) rfl (Nat.le_of_ble_eq_true rfl) rfl dX3_leastLeakOf_11 ?_
        refine vv_ifb_eq (tgt := 19) C dX3_leastLeakOf_14 (by decide) (fun h14 => ?_) (fun h14 => ?_)
        · refine vv_iincN (L' := [_, _, _]) (j := 2) C dX3_leastLeakOf_19 rfl (by decide) rfl ?_
          refine vv_goto (tgt := 2) C dX3_leastLeakOf_22 (by decide) ?_
          refine vv_sub (L' := [_, _, _]) [1, 2, 0] rfl ?_
          exact ih (i + 1) ⟨by omega, by omega, by omega, by rw [hf4, pu_leak_step _ _ _ _ hf2 (by omega), if_neg (by simp_all)]⟩
        · refine vv_iload_n C dX3_leastLeakOf_17 rfl 2 rfl ?_
          refine vv_fret C dX3_leastLeakOf_18 ?_
          rw [hf4, pu_leak_step _ _ _ _ hf2 hlt, if_pos h14]
  refine vv_iconst (v := (nI 1)) C dX3_leastLeakOf_0 (by decide) ?_
  refine vv_istore_n (i := 2) (L' := [_, _, _]) C dX3_leastLeakOf_1 rfl (by decide) rfl ?_
  refine vv_sub (L' := [_, _, _]) [1, 2, 0] rfl ?_
  exact lp2 10 1 ⟨by omega, by omega, by omega, rfl⟩
