theorem yk_X1_add : vx_yV yX1_add cX1_add 3 none 1 := ⟨(tm_11 (List.mem_of_getElem? (i := 15) rfl)), (tm_1 (List.mem_of_getElem? (i := 19) rfl)), by decide +kernel, (tm_11 (List.mem_of_getElem? (i := 13) rfl)), (tm_11 (List.mem_of_getElem? (i := 14) rfl))⟩
set_option maxHeartbeats 4000000 in
set_option maxRecDepth 100000 in
theorem kk_X1_add (l : Launch) (g : vx_G) (S : vx_St) (n : Nat) (hn : S.1 3 0 = nI n) (hn8 : n < 8) : vx_M l g yX1_add cX1_add 3 none (vx_R 5 111) [.ref (g.2.2.1 3), .ref (g.2.2.1 1)] S (vx_pv (fun S' => pu_chg S S' [3, 4, 5, 6, 7, 8, 9, 10] ∧ S'.1 3 = upd (S.1 3) 0 (nI (n + 1)) ∧ S'.1 4 = upd (S.1 4) n (pu_kind (S.1 2 0)) ∧ S'.1 5 = upd (S.1 5) n (pu_par (S.1 2 1)) ∧ S'.1 6 = upd (S.1 6) n (S.1 2 2 - 48) ∧ S'.1 7 = upd (S.1 7) n (S.1 2 3 - 48) ∧ S'.1 8 = upd (S.1 8) n (S.1 2 4 - 48) ∧ S'.1 9 = upd (S.1 9) n (S.1 2 5 - 48) ∧ S'.1 10 = upd (S.1 10) n (pu_newway (S.1 10) (pu_par (S.1 2 1)) n))) := by
  refine vx_M.intro (by decide) (Nat.le_of_ble_eq_true rfl) ?_
  intro p e s m args below meth c C
  refine vv_aload_n C dX1_add_0 rfl 0 rfl ?_
  refine vv_getI C (a := 3) (k := 0) (o := 0) inlX1 rfl rfl rfl (by decide) rfl (tm_11 (List.mem_of_getElem? (i := 16) rfl)) dX1_add_1 ?_
  rw [hn]
  refine vv_istore_n (i := 2) (L' := [_, _, _]) C dX1_add_4 rfl (by decide) rfl ?_
  refine vv_aload_n C dX1_add_5 rfl 1 rfl ?_
  refine vv_gR C (a := 3) (k := 1) (b := 4) inlX1 rfl rfl rfl rfl (by decide) rfl (tm_2 (List.mem_of_getElem? (i := 16) rfl)) dX1_add_6 ?_
  refine vv_iload_n C dX1_add_9 rfl 0 rfl ?_
  refine vv_aload_n C dX1_add_10 rfl 2 rfl ?_
  refine vv_gRN C (a := 1) (k := 1) (b := 2) inlX2 rfl rfl rfl rfl (by decide) rfl (List.mem_of_getElem? (i := 2) rfl) dX1_add_11 ?_
  refine vv_iconst (v := (nI 0)) C dX1_add_14 (by decide) ?_
  refine vv_ialdN C (a := 2) rfl (by omega) (by decide) dX1_add_15 ?_
  refine vv_cSN_F C (kk_X2_kindOf l g _ _) yk_X2_kindOf (List.mem_of_getElem? (i := 37) rfl) (by decide) rfl (Nat.le_of_ble_eq_true rfl) rfl dX1_add_16 ?_
  refine vv_iastN C (a := 4) rfl (by omega) (by decide) dX1_add_19 ?_
  refine vv_aload_n C dX1_add_20 rfl 1 rfl ?_
  refine vv_gR C (a := 3) (k := 2) (b := 5) inlX1 rfl rfl rfl rfl (by decide) rfl (tm_2 (List.mem_of_getElem? (i := 17) rfl)) dX1_add_21 ?_
  refine vv_iload_n C dX1_add_24 rfl 0 rfl ?_
  refine vv_aload_n C dX1_add_25 rfl 2 rfl ?_
  refine vv_gRN C (a := 1) (k := 1) (b := 2) inlX2 rfl rfl rfl rfl (by decide) rfl (List.mem_of_getElem? (i := 2) rfl) dX1_add_26 ?_
  refine vv_iconst (v := (nI 1)) C dX1_add_29 (by decide) ?_
  refine vv_ialdN C (a := 2) rfl (by omega) (by decide) dX1_add_30 ?_
  refine vv_bipush (v := (45)) C dX1_add_31 (by decide) ?_
  refine vv_icmp_ne (tgt := 40) C dX1_add_33 (by decide) (fun h33 => ?_) (fun h33 => ?_)
  · rw [vx_u_ne _ _ _ (by decide)] at h33
    refine vv_aload_n C dX1_add_40 rfl 2 rfl ?_
    refine vv_iconst (v := (nI 1)) C dX1_add_41 (by decide) ?_
    refine vv_cVN_F C (a := 1) (kk_X2_digitAt l g _ _ (by omega)) yk_X2_digitAt (List.mem_of_getElem? (i := 38) rfl) rfl rfl rfl (by decide) rfl (Nat.le_of_ble_eq_true rfl) rfl dX1_add_42 ?_
    simp only [vx_u_if, reduceIte, Nat.reduceEqDiff]
    refine vv_iastN C (a := 5) rfl (by omega) (by decide) dX1_add_45 ?_
    refine vv_aload_n C dX1_add_46 rfl 1 rfl ?_
    refine vv_gR C (a := 3) (k := 3) (b := 6) inlX1 rfl rfl rfl rfl (by decide) rfl (tm_2 (List.mem_of_getElem? (i := 18) rfl)) dX1_add_47 ?_
    refine vv_iload_n C dX1_add_50 rfl 0 rfl ?_
    refine vv_aload_n C dX1_add_51 rfl 2 rfl ?_
    refine vv_iconst (v := (nI 2)) C dX1_add_52 (by decide) ?_
    refine vv_cVN_F C (a := 1) (kk_X2_digitAt l g _ _ (by omega)) yk_X2_digitAt (List.mem_of_getElem? (i := 38) rfl) rfl rfl rfl (by decide) rfl (Nat.le_of_ble_eq_true rfl) rfl dX1_add_53 ?_
    simp only [vx_u_if, reduceIte, Nat.reduceEqDiff]
    refine vv_iastN C (a := 6) rfl (by omega) (by decide) dX1_add_56 ?_
    refine vv_aload_n C dX1_add_57 rfl 1 rfl ?_
    refine vv_gR C (a := 3) (k := 4) (b := 7) inlX1 rfl rfl rfl rfl (by decide) rfl (tm_2 (List.mem_of_getElem? (i := 19) rfl)) dX1_add_58 ?_
    refine vv_iload_n C dX1_add_61 rfl 0 rfl ?_
    refine vv_aload_n C dX1_add_62 rfl 2 rfl ?_
    refine vv_iconst (v := (nI 3)) C dX1_add_63 (by decide) ?_
    refine vv_cVN_F C (a := 1) (kk_X2_digitAt l g _ _ (by omega)) yk_X2_digitAt (List.mem_of_getElem? (i := 38) rfl) rfl rfl rfl (by decide) rfl (Nat.le_of_ble_eq_true rfl) rfl dX1_add_64 ?_
    simp only [vx_u_if, reduceIte, Nat.reduceEqDiff]
    refine vv_iastN C (a := 7) rfl (by omega) (by decide) dX1_add_67 ?_
    refine vv_aload_n C dX1_add_68 rfl 1 rfl ?_
    refine vv_gR C (a := 3) (k := 5) (b := 8) inlX1 rfl rfl rfl rfl (by decide) rfl (tm_2 (List.mem_of_getElem? (i := 20) rfl)) dX1_add_69 ?_
    refine vv_iload_n C dX1_add_72 rfl 0 rfl ?_
    refine vv_aload_n C dX1_add_73 rfl 2 rfl ?_
    refine vv_iconst (v := (nI 4)) C dX1_add_74 (by decide) ?_
    refine vv_cVN_F C (a := 1) (kk_X2_digitAt l g _ _ (by omega)) yk_X2_digitAt (List.mem_of_getElem? (i := 38) rfl) rfl rfl rfl (by decide) rfl (Nat.le_of_ble_eq_true rfl) rfl dX1_add_75 ?_
    simp only [vx_u_if, reduceIte, Nat.reduceEqDiff]
    refine vv_iastN C (a := 8) rfl (by omega) (by decide) dX1_add_78 ?_
    refine vv_aload_n C dX1_add_79 rfl 1 rfl ?_
    refine vv_gR C (a := 3) (k := 6) (b := 9) inlX1 rfl rfl rfl rfl (by decide) rfl (tm_2 (List.mem_of_getElem? (i := 21) rfl)) dX1_add_80 ?_
    refine vv_iload_n C dX1_add_83 rfl 0 rfl ?_
    refine vv_aload_n C dX1_add_84 rfl 2 rfl ?_
    refine vv_iconst (v := (nI 5)) C dX1_add_85 (by decide) ?_
    refine vv_cVN_F C (a := 1) (kk_X2_digitAt l g _ _ (by omega)) yk_X2_digitAt (List.mem_of_getElem? (i := 38) rfl) rfl rfl rfl (by decide) rfl (Nat.le_of_ble_eq_true rfl) rfl dX1_add_86 ?_
    simp only [vx_u_if, reduceIte, Nat.reduceEqDiff]
    refine vv_iastN C (a := 9) rfl (by omega) (by decide) dX1_add_89 ?_
    refine vv_aload_n C dX1_add_90 rfl 1 rfl ?_
    refine vv_gR C (a := 3) (k := 7) (b := 10) inlX1 rfl rfl rfl rfl (by decide) rfl (tm_2 (List.mem_of_getElem? (i := 22) rfl)) dX1_add_91 ?_
    refine vv_iload_n C dX1_add_94 rfl 0 rfl ?_
    refine vv_iload_n C dX1_add_95 rfl 0 rfl ?_
    refine vv_cSN_F C (kk_X4_bit l g _ _) yk_X4_bit (List.mem_of_getElem? (i := 39) rfl) (by decide) rfl (Nat.le_of_ble_eq_true rfl) rfl dX1_add_96 ?_
    refine vv_aload_n C dX1_add_99 rfl 1 rfl ?_
    refine vv_aload_n C dX1_add_100 rfl 1 rfl ?_
    refine vv_gR C (a := 3) (k := 2) (b := 5) inlX1 rfl rfl rfl rfl (by decide) rfl (tm_2 (List.mem_of_getElem? (i := 17) rfl)) dX1_add_101 ?_
    refine vv_iload_n C dX1_add_104 rfl 0 rfl ?_
    refine vv_ialdN C (a := 5) rfl (by omega) (by decide) dX1_add_105 ?_
    refine vv_cV_F C (a := 3) (kk_X1_has l g _ _) yk_X1_has (tm_11 (List.mem_of_getElem? (i := 19) rfl)) rfl rfl rfl (by decide) rfl (Nat.le_of_ble_eq_true rfl) rfl dX1_add_106 ?_
    refine vv_ifb_eq (tgt := 126) C dX1_add_109 (by decide) (fun h109 => ?_) (fun h109 => ?_)
    · refine vv_iconst (v := (0)) C dX1_add_126 (by decide) ?_
      refine vv_ior C dX1_add_127 ?_
      refine vv_iastN C (a := 10) rfl (by omega) (by decide) dX1_add_128 ?_
      refine vv_aload_n C dX1_add_129 rfl 1 rfl ?_
      refine vv_dup C dX1_add_130 rfl ?_
      refine vv_getI C (a := 3) (k := 0) (o := 0) inlX1 rfl rfl rfl (by decide) rfl (tm_11 (List.mem_of_getElem? (i := 16) rfl)) dX1_add_131 ?_
      refine vv_iconst (v := (1)) C dX1_add_134 (by decide) ?_
      refine vv_iadd C dX1_add_135 ?_
      refine vv_putI C (a := 3) (k := 0) inlX1 tyX1 tyX1_ok nmX1 rfl rfl rfl (by decide) rfl rfl rfl (tm_11 (List.mem_of_getElem? (i := 16) rfl)) dX1_add_136 ?_
      refine vv_nret C dX1_add_139 ?_
      have hpar : pu_par (S.1 2 1) = S.1 2 1 - 48 := by simp [pu_par, h33]
      have hq : pu_hq (pu_par (S.1 2 1)) (nI n) = false := by rw [hpar]; rw [← hn]; simpa [vx_u_if, upd, pu_hq] using h109
      refine ⟨?_, ?_, ?_, ?_, ?_, ?_, ?_, ?_, ?_⟩
      · iterate 8 refine pu_chg_u ?_ _ _ (by simp)
        exact pu_chg_rf S _
      · simp [vx_u_if, hn, nI_1]
      · simp [vx_u_if]
      · simp [vx_u_if, hpar]
      · simp [vx_u_if]
      · simp [vx_u_if]
      · simp [vx_u_if]
      · simp [vx_u_if]
      · rw [pu_newway, hq, hpar]
        simp [vx_u_if, upd]
    · obtain ⟨k, hk, hpk⟩ := pu_hq_k (n := n) (by simp [vx_u_if, hn]) (by omega) h109
      refine vv_aload_n C dX1_add_112 rfl 1 rfl ?_
      refine vv_gR C (a := 3) (k := 7) (b := 10) inlX1 rfl rfl rfl rfl (by decide) rfl (tm_2 (List.mem_of_getElem? (i := 22) rfl)) dX1_add_113 ?_
      refine vv_aload_n C dX1_add_116 rfl 1 rfl ?_
      refine vv_gR C (a := 3) (k := 2) (b := 5) inlX1 rfl rfl rfl rfl (by decide) rfl (tm_2 (List.mem_of_getElem? (i := 17) rfl)) dX1_add_117 ?_
      refine vv_iload_n C dX1_add_120 rfl 0 rfl ?_
      refine vv_ialdN C (a := 5) rfl (by omega) (by decide) dX1_add_121 ?_
      refine vv_iald C (a := 10) rfl (by rw [hpk]; exact vp_in_nI (by omega) (by omega)) dX1_add_122 ?_
      refine vv_goto (tgt := 127) C dX1_add_123 (by decide) ?_
      refine vv_ior C dX1_add_127 ?_
      refine vv_iastN C (a := 10) rfl (by omega) (by decide) dX1_add_128 ?_
      refine vv_aload_n C dX1_add_129 rfl 1 rfl ?_
      refine vv_dup C dX1_add_130 rfl ?_
      refine vv_getI C (a := 3) (k := 0) (o := 0) inlX1 rfl rfl rfl (by decide) rfl (tm_11 (List.mem_of_getElem? (i := 16) rfl)) dX1_add_131 ?_
      refine vv_iconst (v := (1)) C dX1_add_134 (by decide) ?_
      refine vv_iadd C dX1_add_135 ?_
      refine vv_putI C (a := 3) (k := 0) inlX1 tyX1 tyX1_ok nmX1 rfl rfl rfl (by decide) rfl rfl rfl (tm_11 (List.mem_of_getElem? (i := 16) rfl)) dX1_add_136 ?_
      refine vv_nret C dX1_add_139 ?_
      have hpar : pu_par (S.1 2 1) = S.1 2 1 - 48 := by simp [pu_par, h33]
      have hq : pu_hq (pu_par (S.1 2 1)) (nI n) = true := by rw [hpar]; rw [← hn]; simpa [vx_u_if, upd, pu_hq] using h109
      refine ⟨?_, ?_, ?_, ?_, ?_, ?_, ?_, ?_, ?_⟩
      · iterate 8 refine pu_chg_u ?_ _ _ (by simp)
        exact pu_chg_rf S _
      · simp [vx_u_if, hn, nI_1]
      · simp [vx_u_if]
      · simp [vx_u_if, hpar]
      · simp [vx_u_if]
      · simp [vx_u_if]
      · simp [vx_u_if]
      · simp [vx_u_if]
      · rw [pu_newway, hq, hpar]
        simp [vx_u_if, upd]
  · rw [vx_u_ne _ _ _ (by decide)] at h33
    refine vv_iconst (v := (-1)) C dX1_add_36 (by decide) ?_
    refine vv_goto (tgt := 45) C dX1_add_37 (by decide) ?_
    refine vv_iastN C (a := 5) rfl (by omega) (by decide) dX1_add_45 ?_
    refine vv_aload_n C dX1_add_46 rfl 1 rfl ?_
    refine vv_gR C (a := 3) (k := 3) (b := 6) inlX1 rfl rfl rfl rfl (by decide) rfl (tm_2 (List.mem_of_getElem? (i := 18) rfl)) dX1_add_47 ?_
    refine vv_iload_n C dX1_add_50 rfl 0 rfl ?_
    refine vv_aload_n C dX1_add_51 rfl 2 rfl ?_
    refine vv_iconst (v := (nI 2)) C dX1_add_52 (by decide) ?_
    refine vv_cVN_F C (a := 1) (kk_X2_digitAt l g _ _ (by omega)) yk_X2_digitAt (List.mem_of_getElem? (i := 38) rfl) rfl rfl rfl (by decide) rfl (Nat.le_of_ble_eq_true rfl) rfl dX1_add_53 ?_
    simp only [vx_u_if, reduceIte, Nat.reduceEqDiff]
    refine vv_iastN C (a := 6) rfl (by omega) (by decide) dX1_add_56 ?_
    refine vv_aload_n C dX1_add_57 rfl 1 rfl ?_
    refine vv_gR C (a := 3) (k := 4) (b := 7) inlX1 rfl rfl rfl rfl (by decide) rfl (tm_2 (List.mem_of_getElem? (i := 19) rfl)) dX1_add_58 ?_
    refine vv_iload_n C dX1_add_61 rfl 0 rfl ?_
    refine vv_aload_n C dX1_add_62 rfl 2 rfl ?_
    refine vv_iconst (v := (nI 3)) C dX1_add_63 (by decide) ?_
    refine vv_cVN_F C (a := 1) (kk_X2_digitAt l g _ _ (by omega)) yk_X2_digitAt (List.mem_of_getElem? (i := 38) rfl) rfl rfl rfl (by decide) rfl (Nat.le_of_ble_eq_true rfl) rfl dX1_add_64 ?_
    simp only [vx_u_if, reduceIte, Nat.reduceEqDiff]
    refine vv_iastN C (a := 7) rfl (by omega) (by decide) dX1_add_67 ?_
    refine vv_aload_n C dX1_add_68 rfl 1 rfl ?_
    refine vv_gR C (a := 3) (k := 5) (b := 8) inlX1 rfl rfl rfl rfl (by decide) rfl (tm_2 (List.mem_of_getElem? (i := 20) rfl)) dX1_add_69 ?_
    refine vv_iload_n C dX1_add_72 rfl 0 rfl ?_
    refine vv_aload_n C dX1_add_73 rfl 2 rfl ?_
    refine vv_iconst (v := (nI 4)) C dX1_add_74 (by decide) ?_
    refine vv_cVN_F C (a := 1) (kk_X2_digitAt l g _ _ (by omega)) yk_X2_digitAt (List.mem_of_getElem? (i := 38) rfl) rfl rfl rfl (by decide) rfl (Nat.le_of_ble_eq_true rfl) rfl dX1_add_75 ?_
    simp only [vx_u_if, reduceIte, Nat.reduceEqDiff]
    refine vv_iastN C (a := 8) rfl (by omega) (by decide) dX1_add_78 ?_
    refine vv_aload_n C dX1_add_79 rfl 1 rfl ?_
    refine vv_gR C (a := 3) (k := 6) (b := 9) inlX1 rfl rfl rfl rfl (by decide) rfl (tm_2 (List.mem_of_getElem? (i := 21) rfl)) dX1_add_80 ?_
    refine vv_iload_n C dX1_add_83 rfl 0 rfl ?_
    refine vv_aload_n C dX1_add_84 rfl 2 rfl ?_
    refine vv_iconst (v := (nI 5)) C dX1_add_85 (by decide) ?_
    refine vv_cVN_F C (a := 1) (kk_X2_digitAt l g _ _ (by omega)) yk_X2_digitAt (List.mem_of_getElem? (i := 38) rfl) rfl rfl rfl (by decide) rfl (Nat.le_of_ble_eq_true rfl) rfl dX1_add_86 ?_
    simp only [vx_u_if, reduceIte, Nat.reduceEqDiff]
    refine vv_iastN C (a := 9) rfl (by omega) (by decide) dX1_add_89 ?_
    refine vv_aload_n C dX1_add_90 rfl 1 rfl ?_
    refine vv_gR C (a := 3) (k := 7) (b := 10) inlX1 rfl rfl rfl rfl (by decide) rfl (tm_2 (List.mem_of_getElem? (i := 22) rfl)) dX1_add_91 ?_
    refine vv_iload_n C dX1_add_94 rfl 0 rfl ?_
    refine vv_iload_n C dX1_add_95 rfl 0 rfl ?_
    refine vv_cSN_F C (kk_X4_bit l g _ _) yk_X4_bit (List.mem_of_getElem? (i := 39) rfl) (by decide) rfl (Nat.le_of_ble_eq_true rfl) rfl dX1_add_96 ?_
    refine vv_aload_n C dX1_add_99 rfl 1 rfl ?_
    refine vv_aload_n C dX1_add_100 rfl 1 rfl ?_
    refine vv_gR C (a := 3) (k := 2) (b := 5) inlX1 rfl rfl rfl rfl (by decide) rfl (tm_2 (List.mem_of_getElem? (i := 17) rfl)) dX1_add_101 ?_
    refine vv_iload_n C dX1_add_104 rfl 0 rfl ?_
    refine vv_ialdN C (a := 5) rfl (by omega) (by decide) dX1_add_105 ?_
    refine vv_cV_F C (a := 3) (kk_X1_has l g _ _) yk_X1_has (tm_11 (List.mem_of_getElem? (i := 19) rfl)) rfl rfl rfl (by decide) rfl (Nat.le_of_ble_eq_true rfl) rfl dX1_add_106 ?_
    refine vv_ifb_eq (tgt := 126) C dX1_add_109 (by decide) (fun h109 => ?_) (fun h109 => ?_)
    · refine vv_iconst (v := (0)) C dX1_add_126 (by decide) ?_
      refine vv_ior C dX1_add_127 ?_
      refine vv_iastN C (a := 10) rfl (by omega) (by decide) dX1_add_128 ?_
      refine vv_aload_n C dX1_add_129 rfl 1 rfl ?_
      refine vv_dup C dX1_add_130 rfl ?_
      refine vv_getI C (a := 3) (k := 0) (o := 0) inlX1 rfl rfl rfl (by decide) rfl (tm_11 (List.mem_of_getElem? (i := 16) rfl)) dX1_add_131 ?_
      refine vv_iconst (v := (1)) C dX1_add_134 (by decide) ?_
      refine vv_iadd C dX1_add_135 ?_
      refine vv_putI C (a := 3) (k := 0) inlX1 tyX1 tyX1_ok nmX1 rfl rfl rfl (by decide) rfl rfl rfl (tm_11 (List.mem_of_getElem? (i := 16) rfl)) dX1_add_136 ?_
      refine vv_nret C dX1_add_139 ?_
      have hpar : pu_par (S.1 2 1) = -1 := by simp [pu_par, h33]
      have hq : pu_hq (pu_par (S.1 2 1)) (nI n) = false := by rw [hpar]; rw [← hn]; simpa [vx_u_if, upd, pu_hq] using h109
      refine ⟨?_, ?_, ?_, ?_, ?_, ?_, ?_, ?_, ?_⟩
      · iterate 8 refine pu_chg_u ?_ _ _ (by simp)
        exact pu_chg_rf S _
      · simp [vx_u_if, hn, nI_1]
      · simp [vx_u_if]
      · simp [vx_u_if, hpar]
      · simp [vx_u_if]
      · simp [vx_u_if]
      · simp [vx_u_if]
      · simp [vx_u_if]
      · rw [pu_newway, hq, hpar]
        simp [vx_u_if, upd]
    · obtain ⟨k, hk, hpk⟩ := pu_hq_k (n := n) (by simp [vx_u_if, hn]) (by omega) h109
      refine vv_aload_n C dX1_add_112 rfl 1 rfl ?_
      refine vv_gR C (a := 3) (k := 7) (b := 10) inlX1 rfl rfl rfl rfl (by decide) rfl (tm_2 (List.mem_of_getElem? (i := 22) rfl)) dX1_add_113 ?_
      refine vv_aload_n C dX1_add_116 rfl 1 rfl ?_
      refine vv_gR C (a := 3) (k := 2) (b := 5) inlX1 rfl rfl rfl rfl (by decide) rfl (tm_2 (List.mem_of_getElem? (i := 17) rfl)) dX1_add_117 ?_
      refine vv_iload_n C dX1_add_120 rfl 0 rfl ?_
      refine vv_ialdN C (a := 5) rfl (by omega) (by decide) dX1_add_121 ?_
      refine vv_iald C (a := 10) rfl (by rw [hpk]; exact vp_in_nI (by omega) (by omega)) dX1_add_122 ?_
      refine vv_goto (tgt := 127) C dX1_add_123 (by decide) ?_
      refine vv_ior C dX1_add_127 ?_
      refine vv_iastN C (a := 10) rfl (by omega) (by decide) dX1_add_128 ?_
      refine vv_aload_n C dX1_add_129 rfl 1 rfl ?_
      refine vv_dup C dX1_add_130 rfl ?_
      refine vv_getI C (a := 3) (k := 0) (o := 0) inlX1 rfl rfl rfl (by decide) rfl (tm_11 (List.mem_of_getElem? (i := 16) rfl)) dX1_add_131 ?_
      refine vv_iconst (v := (1)) C dX1_add_134 (by decide) ?_
      refine vv_iadd C dX1_add_135 ?_
      refine vv_putI C (a := 3) (k := 0) inlX1 tyX1 tyX1_ok nmX1 rfl rfl rfl (by decide) rfl rfl rfl (tm_11 (List.mem_of_getElem? (i := 16) rfl)) dX1_add_136 ?_
      refine vv_nret C dX1_add_139 ?_
      have hpar : pu_par (S.1 2 1) = -1 := by simp [pu_par, h33]
      have hq : pu_hq (pu_par (S.1 2 1)) (nI n) = true := by rw [hpar]; rw [← hn]; simpa [vx_u_if, upd, pu_hq] using h109
      refine ⟨?_, ?_, ?_, ?_, ?_, ?_, ?_, ?_, ?_⟩
      · iterate 8 refine pu_chg_u ?_ _ _ (by simp)
        exact pu_chg_rf S _
      · simp [vx_u_if, hn, nI_1]
      · simp [vx_u_if]
      · simp [vx_u_if, hpar]
      · simp [vx_u_if]
      · simp [vx_u_if]
      · simp [vx_u_if]
      · simp [vx_u_if]
      · rw [pu_newway, hq, hpar]
        simp [vx_u_if, upd]
theorem yk_X4_letters : vx_yV yX4_letters cX4_letters 4 (some .int) 1 := ⟨(tm_4 (List.mem_of_getElem? (i := 16) rfl)), (tm_1 (List.mem_of_getElem? (i := 2) rfl)), by decide +kernel, (tm_4 (List.mem_of_getElem? (i := 14) rfl)), (tm_4 (List.mem_of_getElem? (i := 15) rfl))⟩
set_option maxHeartbeats 4000000 in
set_option maxRecDepth 100000 in
theorem kk_X4_letters (l : Launch) (g : vx_G) (S : vx_St) (w : Int64) (z : Nat) (hz : S.1 1 0 = nI z) (hz12 : z ≤ 12) : vx_M l g yX4_letters cX4_letters 4 (some .int) (vx_R 2 47) [.ref (g.2.2.1 0), .long w] S (vx_pi (fun r S' => r = aw_letR (fun i => pu_code w (nI i)) z ∧ pu_chg S S' [1, 2] ∧ S'.1 1 = upd (S.1 1) 0 (nI (z + aw_letK (fun i => pu_code w (nI i)) z)) ∧ S'.1 2 = pu_app (S.1 2) (fun i => pu_code w (nI i)) z (aw_letK (fun i => pu_code w (nI i)) z))) := by
  refine vx_M.intro (by decide) (Nat.le_of_ble_eq_true rfl) ?_
  intro p e s m args below meth c C
  refine vv_lload_n C dX4_letters_0 rfl 1 rfl ?_
  refine vv_cSN_F C (kk_X2_lettersIn l g _ _) yk_X2_lettersIn (List.mem_of_getElem? (i := 31) rfl) (by decide) rfl (Nat.le_of_ble_eq_true rfl) rfl dX4_letters_1 ?_
  refine vv_istore_n (i := 3) (L' := [_, _, _]) C dX4_letters_4 rfl (by decide) rfl ?_
  have hml := pu_many_le (fun i => pu_code w (nI i)) 8
  generalize hmm : pu_many (fun i => pu_code w (nI i)) 8 = mm at *
  generalize hoo : pu_okl (fun i => pu_code w (nI i)) 8 = oo at *
  refine vv_iload_n C dX4_letters_5 rfl 0 rfl ?_
  refine vv_if_ge (tgt := 12) C dX4_letters_6 (by decide) (fun h6 => ?_) (fun h6 => ?_)
  · have g6 := pu_le h6
    have ho : oo = true := by cases oo with | true => rfl | false => exact absurd h6 (by rw [if_neg (by decide)]; decide)
    subst ho
    rw [if_pos rfl]
    refine vv_aload_n C dX4_letters_12 rfl 1 rfl ?_
    refine vv_gR C (a := 0) (k := 0) (b := 1) inlX4 rfl rfl rfl rfl (by decide) rfl (tm_1 (List.mem_of_getElem? (i := 16) rfl)) dX4_letters_13 ?_
    refine vv_getIN C (a := 1) (k := 0) (o := 0) inlX2 rfl rfl rfl (by decide) rfl (List.mem_of_getElem? (i := 1) rfl) dX4_letters_16 ?_
    refine vv_iload_n C dX4_letters_19 rfl 0 rfl ?_
    refine vv_iadd C dX4_letters_20 ?_
    refine vv_bipush (v := (nI 12)) C dX4_letters_21 (by decide) ?_
    refine vv_icmp_le (tgt := 29) C dX4_letters_23 (by decide) (fun h23 => ?_) (fun h23 => ?_)
    · have g23 := pu_le h23
      rw [hz, nI_add] at h23
      have hle : z + mm ≤ 12 := pu_geT (x := nI (z + mm)) rfl (by omega) (by omega) h23
      refine vv_aload_n C dX4_letters_29 rfl 1 rfl ?_
      refine vv_gR C (a := 0) (k := 0) (b := 1) inlX4 rfl rfl rfl rfl (by decide) rfl (tm_1 (List.mem_of_getElem? (i := 16) rfl)) dX4_letters_30 ?_
      refine vv_lload_n C dX4_letters_33 rfl 2 rfl ?_
      refine vv_iload_n C dX4_letters_34 rfl 0 rfl ?_
      refine vv_cVN_v C (a := 1) (kk_X2_append l g _ _ mm z hz hle) yk_X2_append (List.mem_of_getElem? (i := 32) rfl) rfl rfl rfl (by decide) rfl (Nat.le_of_ble_eq_true rfl) rfl dX4_letters_35 (fun S35 h35 => ?_)
      obtain ⟨k1, k2, k3⟩ := h35
      refine vv_aload_n C dX4_letters_38 rfl 1 rfl ?_
      refine vv_gR C (a := 0) (k := 0) (b := 1) inlX4 rfl rfl rfl rfl (by decide) rfl (tm_1 (List.mem_of_getElem? (i := 16) rfl)) dX4_letters_39 ?_
      refine vv_getIN C (a := 1) (k := 0) (o := 0) inlX2 rfl rfl rfl (by decide) rfl (List.mem_of_getElem? (i := 1) rfl) dX4_letters_42 ?_
      refine vv_jret C dX4_letters_45 ?_
      have e : aw_letK (fun i => pu_code w (nI i)) z = mm := by simp only [aw_letK, hoo, hmm]; rw [if_pos ⟨trivial, hle⟩]
      exact ⟨by rw [k2]; simp only [aw_letR, hoo, hmm, if_true]; rw [if_pos hle]; simp [upd], k1, by rw [e]; exact k2, by rw [e]; exact k3⟩
    · have g23 := pu_nle h23
      rw [hz, nI_add] at h23
      have hgt : 12 < z + mm := pu_geF (x := nI (z + mm)) rfl (by omega) (by omega) h23
      refine vv_bipush (v := (-104)) C dX4_letters_26 (by decide) ?_
      refine vv_jret C dX4_letters_28 ?_
      have e : aw_letK (fun i => pu_code w (nI i)) z = 0 := by simp only [aw_letK, hoo, hmm]; rw [if_neg (by omega)]
      exact ⟨by simp only [aw_letR, hoo, hmm, if_true]; rw [if_neg (by omega)], pu_chg_rf S _, by rw [e, Nat.add_zero, ← hz]; funext j; simp only [upd]; split <;> simp_all, by rw [e, pu_app_0]⟩
  · have g6 := pu_nle h6
    have ho : oo = false := by cases oo with | false => rfl | true => exact absurd (nI_pos' (by omega)) h6
    subst ho
    refine vv_bipush (v := (-102)) C dX4_letters_9 (by decide) ?_
    refine vv_jret C dX4_letters_11 ?_
    have e : aw_letK (fun i => pu_code w (nI i)) z = 0 := by simp [aw_letK, hoo]
    exact ⟨by simp [aw_letR, hoo], pu_chg_rf S _, by rw [e, Nat.add_zero, ← hz]; funext j; simp only [upd]; split <;> simp_all, by rw [e, pu_app_0]⟩
theorem yk_X4_blank : vx_yV yX4_blank cX4_blank 2 (some .int) 0 := ⟨(tm_5 (List.mem_of_getElem? (i := 11) rfl)), (tm_1 (List.mem_of_getElem? (i := 2) rfl)), by decide +kernel, (tm_5 (List.mem_of_getElem? (i := 9) rfl)), (tm_5 (List.mem_of_getElem? (i := 10) rfl))⟩
set_option maxHeartbeats 4000000 in
set_option maxRecDepth 100000 in
theorem kk_X4_blank (l : Launch) (g : vx_G) (S : vx_St)  : vx_M l g yX4_blank cX4_blank 2 (some .int) (vx_R 0 0) [.ref (g.2.2.1 0)] S (vx_pi (fun r S' => r = S.1 1 0 ∧ S' = vx_u S 1 0 0)) := by
  refine vx_M.intro (by decide) (Nat.le_of_ble_eq_true rfl) ?_
  intro p e s m args below meth c C
  refine vv_aload_n C dX4_blank_0 rfl 0 rfl ?_
  refine vv_gR C (a := 0) (k := 0) (b := 1) inlX4 rfl rfl rfl rfl (by decide) rfl (tm_1 (List.mem_of_getElem? (i := 16) rfl)) dX4_blank_1 ?_
  refine vv_getIN C (a := 1) (k := 0) (o := 0) inlX2 rfl rfl rfl (by decide) rfl (List.mem_of_getElem? (i := 1) rfl) dX4_blank_4 ?_
  refine vv_istore_n (i := 1) (L' := [_, _]) C dX4_blank_7 rfl (by decide) rfl ?_
  refine vv_aload_n C dX4_blank_8 rfl 1 rfl ?_
  refine vv_gR C (a := 0) (k := 0) (b := 1) inlX4 rfl rfl rfl rfl (by decide) rfl (tm_1 (List.mem_of_getElem? (i := 16) rfl)) dX4_blank_9 ?_
  refine vv_iconst (v := (0)) C dX4_blank_12 (by decide) ?_
  refine vv_putIN C (a := 1) (k := 0) inlX2 tyX2 tyX2_ok nmX2 rfl rfl rfl (by decide) rfl rfl rfl (List.mem_of_getElem? (i := 1) rfl) dX4_blank_13 ?_
  refine vv_iload_n C dX4_blank_16 rfl 0 rfl ?_
  refine vv_jret C dX4_blank_17 ?_
  exact ⟨rfl, rfl⟩
theorem yk_X4_fault : vx_yV yX4_fault cX4_fault 1 (some .int) 0 := ⟨(tm_5 (List.mem_of_getElem? (i := 19) rfl)), (tm_1 (List.mem_of_getElem? (i := 2) rfl)), by decide +kernel, (tm_5 (List.mem_of_getElem? (i := 17) rfl)), (tm_5 (List.mem_of_getElem? (i := 18) rfl))⟩
set_option maxHeartbeats 4000000 in
set_option maxRecDepth 100000 in
theorem kk_X4_fault (l : Launch) (g : vx_G) (S : vx_St) (z : Nat) (hz : S.1 1 0 = nI z) (hz12 : z ≤ 12) : vx_M l g yX4_fault cX4_fault 1 (some .int) (vx_R 7 156) [.ref (g.2.2.1 0)] S (vx_pf (nI (pu_fst (pu_fits (S.1 2) (S.1 3 0)) z)) S) := by
  refine vx_M.intro (by decide) (Nat.le_of_ble_eq_true rfl) ?_
  intro p e s m args below meth c C
  refine vv_aload_n C dX4_fault_0 rfl 0 rfl ?_
  refine vv_gR C (a := 0) (k := 0) (b := 1) inlX4 rfl rfl rfl rfl (by decide) rfl (tm_1 (List.mem_of_getElem? (i := 16) rfl)) dX4_fault_1 ?_
  refine vv_aload_n C dX4_fault_4 rfl 0 rfl ?_
  refine vv_gR C (a := 0) (k := 1) (b := 3) inlX4 rfl rfl rfl rfl (by decide) rfl (tm_1 (List.mem_of_getElem? (i := 20) rfl)) dX4_fault_5 ?_
  refine vv_getIN C (a := 3) (k := 0) (o := 0) inlX1 rfl rfl rfl (by decide) rfl (List.mem_of_getElem? (i := 5) rfl) dX4_fault_8 ?_
  refine vv_cVN_F C (a := 1) (kk_X2_faultAt l g _ _ z hz hz12) yk_X2_faultAt (List.mem_of_getElem? (i := 33) rfl) rfl rfl rfl (by decide) rfl (Nat.le_of_ble_eq_true rfl) rfl dX4_fault_11 ?_
  refine vv_fret C dX4_fault_14 ?_
  rfl
theorem yk_X4_house : vx_yV yX4_house cX4_house 2 (some .int) 0 := ⟨(tm_11 (List.mem_of_getElem? (i := 4) rfl)), (tm_1 (List.mem_of_getElem? (i := 2) rfl)), by decide +kernel, (tm_11 (List.mem_of_getElem? (i := 2) rfl)), (tm_11 (List.mem_of_getElem? (i := 3) rfl))⟩
set_option maxHeartbeats 4000000 in
set_option maxRecDepth 100000 in
theorem kk_X4_house (l : Launch) (g : vx_G) (S : vx_St) (z : Nat) (hz : S.1 1 0 = nI z) (hz12 : z ≤ 12) (n : Nat) (hn : S.1 3 0 = nI n) (hn8 : n ≤ 8) : vx_M l g yX4_house cX4_house 2 (some .int) (vx_R 8 177) [.ref (g.2.2.1 0)] S (vx_pi (fun r S' => r = aw_hou (S.1 2) z (S.1 3 0) (S.1 11 2) n ∧ (aw_hB (S.1 2) z (S.1 3 0) (S.1 11 2) n = false → S' = S) ∧ (aw_hB (S.1 2) z (S.1 3 0) (S.1 11 2) n = true → pu_chg S S' [1, 3, 4, 5, 6, 7, 8, 9, 10] ∧ S'.1 1 = upd (S.1 1) 0 0 ∧ S'.1 3 = upd (S.1 3) 0 (nI (n + 1)) ∧ S'.1 4 = upd (S.1 4) n (pu_kind (S.1 2 0)) ∧ S'.1 5 = upd (S.1 5) n (pu_par (S.1 2 1)) ∧ S'.1 6 = upd (S.1 6) n (S.1 2 2 - 48) ∧ S'.1 7 = upd (S.1 7) n (S.1 2 3 - 48) ∧ S'.1 8 = upd (S.1 8) n (S.1 2 4 - 48) ∧ S'.1 9 = upd (S.1 9) n (S.1 2 5 - 48) ∧ S'.1 10 = upd (S.1 10) n (pu_newway (S.1 10) (pu_par (S.1 2 1)) n)))) := by
  refine vx_M.intro (by decide) (Nat.le_of_ble_eq_true rfl) ?_
  intro p e s m args below meth c C
  refine vv_aload_n C dX4_house_0 rfl 0 rfl ?_
  refine vv_gR C (a := 0) (k := 0) (b := 1) inlX4 rfl rfl rfl rfl (by decide) rfl (tm_1 (List.mem_of_getElem? (i := 16) rfl)) dX4_house_1 ?_
  refine vv_aload_n C dX4_house_4 rfl 0 rfl ?_
  refine vv_gR C (a := 0) (k := 1) (b := 3) inlX4 rfl rfl rfl rfl (by decide) rfl (tm_1 (List.mem_of_getElem? (i := 20) rfl)) dX4_house_5 ?_
  refine vv_getIN C (a := 3) (k := 0) (o := 0) inlX1 rfl rfl rfl (by decide) rfl (List.mem_of_getElem? (i := 5) rfl) dX4_house_8 ?_
  refine vv_cVN_F C (a := 1) (kk_X2_isHouse l g _ _ z hz hz12) yk_X2_isHouse (List.mem_of_getElem? (i := 34) rfl) rfl rfl rfl (by decide) rfl (Nat.le_of_ble_eq_true rfl) rfl dX4_house_11 ?_
  refine vv_ifb_eq (tgt := 27) C dX4_house_14 (by decide) (fun h14 => ?_) (fun h14 => ?_)
  · refine vv_bipush (v := (-103)) C dX4_house_27 (by decide) ?_
    refine vv_jret C dX4_house_29 ?_
    exact ⟨by simp [aw_hou, h14], fun _ => rfl, fun q => by simp [aw_hB, h14] at q⟩
  · refine vv_aload_n C dX4_house_17 rfl 0 rfl ?_
    refine vv_gR C (a := 0) (k := 2) (b := 11) inlX4 rfl rfl rfl rfl (by decide) rfl (tm_2 (List.mem_of_getElem? (i := 0) rfl)) dX4_house_18 ?_
    refine vv_cVN_F C (a := 11) (kk_X0_hasBegun l g _ _ rfl) yk_X0_hasBegun (List.mem_of_getElem? (i := 35) rfl) rfl rfl rfl (by decide) rfl (Nat.le_of_ble_eq_true rfl) rfl dX4_house_21 ?_
    refine vv_ifb_eq (tgt := 30) C dX4_house_24 (by decide) (fun h24 => ?_) (fun h24 => ?_)
    · simp only [decide_eq_false_iff_not] at h24
      refine vv_aload_n C dX4_house_30 rfl 0 rfl ?_
      refine vv_gR C (a := 0) (k := 1) (b := 3) inlX4 rfl rfl rfl rfl (by decide) rfl (tm_1 (List.mem_of_getElem? (i := 20) rfl)) dX4_house_31 ?_
      refine vv_getIN C (a := 3) (k := 0) (o := 0) inlX1 rfl rfl rfl (by decide) rfl (List.mem_of_getElem? (i := 5) rfl) dX4_house_34 ?_
      refine vv_bipush (v := (nI 8)) C dX4_house_37 (by decide) ?_
      refine vv_icmp_lt (tgt := 45) C dX4_house_39 (by decide) (fun h39 => ?_) (fun h39 => ?_)
      · have g39 := pu_lt h39
        have hlt : n < 8 := pu_geF (x := nI 8) rfl (by omega) (by omega) (by rw [← hn]; exact g39)
        refine vv_aload_n C dX4_house_45 rfl 0 rfl ?_
        refine vv_gR C (a := 0) (k := 1) (b := 3) inlX4 rfl rfl rfl rfl (by decide) rfl (tm_1 (List.mem_of_getElem? (i := 20) rfl)) dX4_house_46 ?_
        refine vv_getIN C (a := 3) (k := 0) (o := 0) inlX1 rfl rfl rfl (by decide) rfl (List.mem_of_getElem? (i := 5) rfl) dX4_house_49 ?_
        rw [hn] at h14
        rw [hn]
        refine vv_istore_n (i := 1) (L' := [_, _]) C dX4_house_52 rfl (by decide) rfl ?_
        refine vv_aload_n C dX4_house_53 rfl 1 rfl ?_
        refine vv_gR C (a := 0) (k := 1) (b := 3) inlX4 rfl rfl rfl rfl (by decide) rfl (tm_1 (List.mem_of_getElem? (i := 20) rfl)) dX4_house_54 ?_
        refine vv_aload_n C dX4_house_57 rfl 1 rfl ?_
        refine vv_gR C (a := 0) (k := 0) (b := 1) inlX4 rfl rfl rfl rfl (by decide) rfl (tm_1 (List.mem_of_getElem? (i := 16) rfl)) dX4_house_58 ?_
        refine vv_cVN_v C (a := 3) (kk_X1_add l g _ n hn hlt) yk_X1_add (List.mem_of_getElem? (i := 36) rfl) rfl rfl rfl (by decide) rfl (Nat.le_of_ble_eq_true rfl) rfl dX4_house_61 (fun S61 h61 => ?_)
        obtain ⟨c1, c3, c4, c5, c6, c7, c8, c9, c10⟩ := h61
        refine vv_aload_n C dX4_house_64 rfl 1 rfl ?_
        refine vv_gR C (a := 0) (k := 0) (b := 1) inlX4 rfl rfl rfl rfl (by decide) rfl (tm_1 (List.mem_of_getElem? (i := 16) rfl)) dX4_house_65 ?_
        refine vv_iconst (v := (0)) C dX4_house_68 (by decide) ?_
        refine vv_putIN C (a := 1) (k := 0) inlX2 tyX2 tyX2_ok nmX2 rfl rfl rfl (by decide) rfl rfl rfl (List.mem_of_getElem? (i := 1) rfl) dX4_house_69 ?_
        refine vv_iload_n C dX4_house_72 rfl 0 rfl ?_
        refine vv_jret C dX4_house_73 ?_
        refine ⟨by simp [aw_hou, h14, h24, hlt], fun q => by simp [aw_hB, h14, h24, hlt] at q, fun _ => ?_⟩
        have x1 : S61.1 1 = S.1 1 := c1.2 _ (by simp)
        refine ⟨?_, ?_⟩
        · iterate 1 refine pu_chg_u ?_ _ _ (by simp)
          exact pu_chg_tr (pu_chg_rf S _) c1 (by simp)
        · simp [vx_u_if, c3, c4, c5, c6, c7, c8, c9, c10, x1]
      · have g39 := pu_nlt h39
        have hge : ¬ n < 8 := by have := pu_geT (x := nI 8) (n := 8) (i := n) rfl (by omega) (by omega) (by rw [← hn]; exact g39); omega
        refine vv_bipush (v := (-104)) C dX4_house_42 (by decide) ?_
        refine vv_jret C dX4_house_44 ?_
        exact ⟨by simp [aw_hou, h14, h24, hge], fun _ => rfl, fun q => by simp [aw_hB, h14, h24, hge] at q⟩
    · simp only [decide_eq_true_eq] at h24
      refine vv_bipush (v := (-103)) C dX4_house_27 (by decide) ?_
      refine vv_jret C dX4_house_29 ?_
      exact ⟨by simp [aw_hou, h14, h24], fun _ => rfl, fun q => by simp [aw_hB, h14, h24] at q⟩
theorem yk_X4_about : vx_yV yX4_about cX4_about 3 (some .int) 2 := ⟨(tm_12 (List.mem_of_getElem? (i := 8) rfl)), (tm_1 (List.mem_of_getElem? (i := 2) rfl)), by decide +kernel, (tm_12 (List.mem_of_getElem? (i := 6) rfl)), (tm_12 (List.mem_of_getElem? (i := 7) rfl))⟩
set_option maxHeartbeats 4000000 in
set_option maxRecDepth 100000 in
theorem kk_X4_about (l : Launch) (g : vx_G) (S : vx_St) (h w : Int32) (n : Nat) (hn : S.1 3 0 = nI n) (hn8 : n ≤ 8) : vx_M l g yX4_about cX4_about 3 (some .int) (vx_R 1 21) [.ref (g.2.2.1 0), .int h, .int w] S (vx_pf (aw_about (S.1 3 0) (pu_hs S) (S.1 12) (S.1 13) (S.1 11 5) h w) S) := by
  refine vx_M.intro (by decide) (Nat.le_of_ble_eq_true rfl) ?_
  intro p e s m args below meth c C
  refine vv_aload_n C dX4_about_0 rfl 0 rfl ?_
  refine vv_gR C (a := 0) (k := 1) (b := 3) inlX4 rfl rfl rfl rfl (by decide) rfl (tm_1 (List.mem_of_getElem? (i := 20) rfl)) dX4_about_1 ?_
  refine vv_iload_n C dX4_about_4 rfl 1 rfl ?_
  refine vv_cVN_F C (a := 3) (kk_X1_has l g _ _) yk_X1_has (List.mem_of_getElem? (i := 40) rfl) rfl rfl rfl (by decide) rfl (Nat.le_of_ble_eq_true rfl) rfl dX4_about_5 ?_
  refine vv_ifb_ne (tgt := 14) C dX4_about_8 (by decide) (fun h8 => ?_) (fun h8 => ?_)
  · have hq := h8
    obtain ⟨k, hk, rfl⟩ := pu_hq_k hn (by omega) h8
    refine vv_iload_n C dX4_about_14 rfl 2 rfl ?_
    rcases pu_sw w 9 (by omega) with ⟨j, hj, hw⟩ | hw
    rcases (show j = 0 ∨ j = 1 ∨ j = 2 ∨ j = 3 ∨ j = 4 ∨ j = 5 ∨ j = 6 ∨ j = 7 ∨ j = 8 by omega) with rfl | rfl | rfl | rfl | rfl | rfl | rfl | rfl | rfl
    · subst hw
      refine vv_tableIn (tgt := 64) C dX4_about_15 (by decide) (by decide) rfl (by decide) ?_
      refine vv_aload_n C dX4_about_64 rfl 0 rfl ?_
      refine vv_gR C (a := 0) (k := 1) (b := 3) inlX4 rfl rfl rfl rfl (by decide) rfl (tm_1 (List.mem_of_getElem? (i := 20) rfl)) dX4_about_65 ?_
      refine vv_gRN C (a := 3) (k := 1) (b := 4) inlX1 rfl rfl rfl rfl (by decide) rfl (List.mem_of_getElem? (i := 7) rfl) dX4_about_68 ?_
      refine vv_iload_n C dX4_about_71 rfl 1 rfl ?_
      refine vv_ialdN C (a := 4) rfl (by omega) (by decide) dX4_about_72 ?_
      refine vv_fret C dX4_about_73 ?_
      rw [aw_about, if_neg (show ¬ pu_hq (nI k) (S.1 3 0) = false by rw [show pu_hq (nI k) (S.1 3 0) = true from hq]; decide), if_pos rfl, nI_clamp (by omega)]
      try rfl
    · subst hw
      refine vv_tableIn (tgt := 74) C dX4_about_15 (by decide) (by decide) rfl (by decide) ?_
      refine vv_aload_n C dX4_about_74 rfl 0 rfl ?_
      refine vv_gR C (a := 0) (k := 1) (b := 3) inlX4 rfl rfl rfl rfl (by decide) rfl (tm_1 (List.mem_of_getElem? (i := 20) rfl)) dX4_about_75 ?_
      refine vv_gRN C (a := 3) (k := 2) (b := 5) inlX1 rfl rfl rfl rfl (by decide) rfl (List.mem_of_getElem? (i := 8) rfl) dX4_about_78 ?_
      refine vv_iload_n C dX4_about_81 rfl 1 rfl ?_
      refine vv_ialdN C (a := 5) rfl (by omega) (by decide) dX4_about_82 ?_
      refine vv_fret C dX4_about_83 ?_
      rw [aw_about, if_neg (show ¬ pu_hq (nI k) (S.1 3 0) = false by rw [show pu_hq (nI k) (S.1 3 0) = true from hq]; decide), if_neg (show ¬ nI 1 = nI 0 by decide), if_pos rfl, nI_clamp (by omega)]
      try rfl
    · subst hw
      refine vv_tableIn (tgt := 84) C dX4_about_15 (by decide) (by decide) rfl (by decide) ?_
      refine vv_aload_n C dX4_about_84 rfl 0 rfl ?_
      refine vv_gR C (a := 0) (k := 1) (b := 3) inlX4 rfl rfl rfl rfl (by decide) rfl (tm_1 (List.mem_of_getElem? (i := 20) rfl)) dX4_about_85 ?_
      refine vv_gRN C (a := 3) (k := 3) (b := 6) inlX1 rfl rfl rfl rfl (by decide) rfl (List.mem_of_getElem? (i := 10) rfl) dX4_about_88 ?_
      refine vv_iload_n C dX4_about_91 rfl 1 rfl ?_
      refine vv_ialdN C (a := 6) rfl (by omega) (by decide) dX4_about_92 ?_
      refine vv_fret C dX4_about_93 ?_
      rw [aw_about, if_neg (show ¬ pu_hq (nI k) (S.1 3 0) = false by rw [show pu_hq (nI k) (S.1 3 0) = true from hq]; decide), if_neg (show ¬ nI 2 = nI 0 by decide), if_neg (show ¬ nI 2 = nI 1 by decide), if_pos rfl, nI_clamp (by omega)]
      try rfl
    · subst hw
      refine vv_tableIn (tgt := 94) C dX4_about_15 (by decide) (by decide) rfl (by decide) ?_
      refine vv_aload_n C dX4_about_94 rfl 0 rfl ?_
      refine vv_gR C (a := 0) (k := 1) (b := 3) inlX4 rfl rfl rfl rfl (by decide) rfl (tm_1 (List.mem_of_getElem? (i := 20) rfl)) dX4_about_95 ?_
      refine vv_gRN C (a := 3) (k := 4) (b := 7) inlX1 rfl rfl rfl rfl (by decide) rfl (List.mem_of_getElem? (i := 11) rfl) dX4_about_98 ?_
      refine vv_iload_n C dX4_about_101 rfl 1 rfl ?_
      refine vv_ialdN C (a := 7) rfl (by omega) (by decide) dX4_about_102 ?_
      refine vv_fret C dX4_about_103 ?_
      rw [aw_about, if_neg (show ¬ pu_hq (nI k) (S.1 3 0) = false by rw [show pu_hq (nI k) (S.1 3 0) = true from hq]; decide), if_neg (show ¬ nI 3 = nI 0 by decide), if_neg (show ¬ nI 3 = nI 1 by decide), if_neg (show ¬ nI 3 = nI 2 by decide), if_pos rfl, nI_clamp (by omega)]
      try rfl
    · subst hw
      refine vv_tableIn (tgt := 104) C dX4_about_15 (by decide) (by decide) rfl (by decide) ?_
      refine vv_aload_n C dX4_about_104 rfl 0 rfl ?_
      refine vv_gR C (a := 0) (k := 1) (b := 3) inlX4 rfl rfl rfl rfl (by decide) rfl (tm_1 (List.mem_of_getElem? (i := 20) rfl)) dX4_about_105 ?_
      refine vv_gRN C (a := 3) (k := 5) (b := 8) inlX1 rfl rfl rfl rfl (by decide) rfl (List.mem_of_getElem? (i := 13) rfl) dX4_about_108 ?_
      refine vv_iload_n C dX4_about_111 rfl 1 rfl ?_
      refine vv_ialdN C (a := 8) rfl (by omega) (by decide) dX4_about_112 ?_
      refine vv_fret C dX4_about_113 ?_
      rw [aw_about, if_neg (show ¬ pu_hq (nI k) (S.1 3 0) = false by rw [show pu_hq (nI k) (S.1 3 0) = true from hq]; decide), if_neg (show ¬ nI 4 = nI 0 by decide), if_neg (show ¬ nI 4 = nI 1 by decide), if_neg (show ¬ nI 4 = nI 2 by decide), if_neg (show ¬ nI 4 = nI 3 by decide), if_pos rfl, nI_clamp (by omega)]
      try rfl
    · subst hw
      refine vv_tableIn (tgt := 114) C dX4_about_15 (by decide) (by decide) rfl (by decide) ?_
      refine vv_aload_n C dX4_about_114 rfl 0 rfl ?_
      refine vv_gR C (a := 0) (k := 1) (b := 3) inlX4 rfl rfl rfl rfl (by decide) rfl (tm_1 (List.mem_of_getElem? (i := 20) rfl)) dX4_about_115 ?_
      refine vv_gRN C (a := 3) (k := 6) (b := 9) inlX1 rfl rfl rfl rfl (by decide) rfl (List.mem_of_getElem? (i := 14) rfl) dX4_about_118 ?_
      refine vv_iload_n C dX4_about_121 rfl 1 rfl ?_
      refine vv_ialdN C (a := 9) rfl (by omega) (by decide) dX4_about_122 ?_
      refine vv_fret C dX4_about_123 ?_
      rw [aw_about, if_neg (show ¬ pu_hq (nI k) (S.1 3 0) = false by rw [show pu_hq (nI k) (S.1 3 0) = true from hq]; decide), if_neg (show ¬ nI 5 = nI 0 by decide), if_neg (show ¬ nI 5 = nI 1 by decide), if_neg (show ¬ nI 5 = nI 2 by decide), if_neg (show ¬ nI 5 = nI 3 by decide), if_neg (show ¬ nI 5 = nI 4 by decide), if_pos rfl, nI_clamp (by omega)]
      try rfl
    · subst hw
      refine vv_tableIn (tgt := 124) C dX4_about_15 (by decide) (by decide) rfl (by decide) ?_
      refine vv_aload_n C dX4_about_124 rfl 0 rfl ?_
      refine vv_gR C (a := 0) (k := 2) (b := 11) inlX4 rfl rfl rfl rfl (by decide) rfl (tm_2 (List.mem_of_getElem? (i := 0) rfl)) dX4_about_125 ?_
      refine vv_gRN C (a := 11) (k := 9) (b := 12) inlX0 rfl rfl rfl rfl (by decide) rfl (List.mem_of_getElem? (i := 26) rfl) dX4_about_128 ?_
      refine vv_iload_n C dX4_about_131 rfl 1 rfl ?_
      refine vv_ialdN C (a := 12) rfl (by omega) (by decide) dX4_about_132 ?_
      refine vv_fret C dX4_about_133 ?_
      rw [aw_about, if_neg (show ¬ pu_hq (nI k) (S.1 3 0) = false by rw [show pu_hq (nI k) (S.1 3 0) = true from hq]; decide), if_neg (show ¬ nI 6 = nI 0 by decide), if_neg (show ¬ nI 6 = nI 1 by decide), if_neg (show ¬ nI 6 = nI 2 by decide), if_neg (show ¬ nI 6 = nI 3 by decide), if_neg (show ¬ nI 6 = nI 4 by decide), if_neg (show ¬ nI 6 = nI 5 by decide), if_pos rfl, nI_clamp (by omega)]
      try rfl
    · subst hw
      refine vv_tableIn (tgt := 134) C dX4_about_15 (by decide) (by decide) rfl (by decide) ?_
      refine vv_aload_n C dX4_about_134 rfl 0 rfl ?_
      refine vv_gR C (a := 0) (k := 2) (b := 11) inlX4 rfl rfl rfl rfl (by decide) rfl (tm_2 (List.mem_of_getElem? (i := 0) rfl)) dX4_about_135 ?_
      refine vv_gRN C (a := 11) (k := 10) (b := 13) inlX0 rfl rfl rfl rfl (by decide) rfl (List.mem_of_getElem? (i := 27) rfl) dX4_about_138 ?_
      refine vv_iload_n C dX4_about_141 rfl 1 rfl ?_
      refine vv_ialdN C (a := 13) rfl (by omega) (by decide) dX4_about_142 ?_
      refine vv_fret C dX4_about_143 ?_
      rw [aw_about, if_neg (show ¬ pu_hq (nI k) (S.1 3 0) = false by rw [show pu_hq (nI k) (S.1 3 0) = true from hq]; decide), if_neg (show ¬ nI 7 = nI 0 by decide), if_neg (show ¬ nI 7 = nI 1 by decide), if_neg (show ¬ nI 7 = nI 2 by decide), if_neg (show ¬ nI 7 = nI 3 by decide), if_neg (show ¬ nI 7 = nI 4 by decide), if_neg (show ¬ nI 7 = nI 5 by decide), if_neg (show ¬ nI 7 = nI 6 by decide), if_pos rfl, nI_clamp (by omega)]
      try rfl
    · subst hw
      refine vv_tableIn (tgt := 144) C dX4_about_15 (by decide) (by decide) rfl (by decide) ?_
      refine vv_aload_n C dX4_about_144 rfl 0 rfl ?_
      refine vv_gR C (a := 0) (k := 2) (b := 11) inlX4 rfl rfl rfl rfl (by decide) rfl (tm_2 (List.mem_of_getElem? (i := 0) rfl)) dX4_about_145 ?_
      refine vv_getIN C (a := 11) (k := 5) (o := 0) inlX0 rfl rfl rfl (by decide) rfl (List.mem_of_getElem? (i := 22) rfl) dX4_about_148 ?_
      refine vv_iload_n C dX4_about_151 rfl 1 rfl ?_
      refine vv_cS_F C (kk_X4_isIn l g _ _ _) yk_X4_isIn (tm_12 (List.mem_of_getElem? (i := 9) rfl)) (by decide) rfl (Nat.le_of_ble_eq_true rfl) rfl dX4_about_152 ?_
      refine vv_cS_F C (kk_X4_oneIf l g _ _) yk_X4_oneIf (tm_12 (List.mem_of_getElem? (i := 12) rfl)) (by decide) rfl (Nat.le_of_ble_eq_true rfl) rfl dX4_about_155 ?_
      refine vv_fret C dX4_about_158 ?_
      rw [aw_about, if_neg (show ¬ pu_hq (nI k) (S.1 3 0) = false by rw [show pu_hq (nI k) (S.1 3 0) = true from hq]; decide), if_neg (show ¬ nI 8 = nI 0 by decide), if_neg (show ¬ nI 8 = nI 1 by decide), if_neg (show ¬ nI 8 = nI 2 by decide), if_neg (show ¬ nI 8 = nI 3 by decide), if_neg (show ¬ nI 8 = nI 4 by decide), if_neg (show ¬ nI 8 = nI 5 by decide), if_neg (show ¬ nI 8 = nI 6 by decide), if_neg (show ¬ nI 8 = nI 7 by decide), if_pos rfl]
      exact vx_i_b _
    · refine vv_tableOut (tgt := 159) C dX4_about_15 hw (by decide) ?_
      refine vv_bipush (v := (-102)) C dX4_about_159 (by decide) ?_
      refine vv_fret C dX4_about_161 ?_
      have ne : ∀ j : Nat, j < 9 → ¬ w = nI j := fun j hj e => by rw [e, nI_toInt (by omega)] at hw; omega
      simp only [aw_about, show pu_hq (nI k) (S.1 3 0) = true from hq, ne 0 (by decide), ne 1 (by decide), ne 2 (by decide), ne 3 (by decide), ne 4 (by decide), ne 5 (by decide), ne 6 (by decide), ne 7 (by decide), ne 8 (by decide), if_false, Bool.true_eq_false]
  · refine vv_bipush (v := (-101)) C dX4_about_11 (by decide) ?_
    refine vv_fret C dX4_about_13 ?_
    simp [aw_about, pu_hq, h8]
theorem yk_X4_count : vx_yV yX4_count cX4_count 2 (some .int) 1 := ⟨(tm_30 (List.mem_of_getElem? (i := 11) rfl)), (tm_1 (List.mem_of_getElem? (i := 2) rfl)), by decide +kernel, (tm_30 (List.mem_of_getElem? (i := 9) rfl)), (tm_30 (List.mem_of_getElem? (i := 10) rfl))⟩
set_option maxHeartbeats 4000000 in
set_option maxRecDepth 100000 in
theorem kk_X4_count (l : Launch) (g : vx_G) (S : vx_St) (w : Int32) : vx_M l g yX4_count cX4_count 2 (some .int) (vx_R 1 20) [.ref (g.2.2.1 0), .int w] S (vx_pf (aw_cnt (S.1 3 0) (S.1 11 0) (S.1 11 1) (S.1 11 2) (S.1 11 8) (S.1 11 3) (S.1 11 7) (S.1 11 6) (S.1 17 0) (S.1 1 0) w) S) := by
  refine vx_M.intro (by decide) (Nat.le_of_ble_eq_true rfl) ?_
  intro p e s m args below meth c C
  refine vv_iload_n C dX4_count_0 rfl 1 rfl ?_
  rcases pu_sw w 10 (by omega) with ⟨j, hj, hw⟩ | hw
  rcases (show j = 0 ∨ j = 1 ∨ j = 2 ∨ j = 3 ∨ j = 4 ∨ j = 5 ∨ j = 6 ∨ j = 7 ∨ j = 8 ∨ j = 9 by omega) with rfl | rfl | rfl | rfl | rfl | rfl | rfl | rfl | rfl | rfl
  · subst hw
    refine vv_tableIn (tgt := 56) C dX4_count_1 (by decide) (by decide) rfl (by decide) ?_
    refine vv_aload_n C dX4_count_56 rfl 0 rfl ?_
    refine vv_gR C (a := 0) (k := 1) (b := 3) inlX4 rfl rfl rfl rfl (by decide) rfl (tm_1 (List.mem_of_getElem? (i := 20) rfl)) dX4_count_57 ?_
    refine vv_getIN C (a := 3) (k := 0) (o := 0) inlX1 rfl rfl rfl (by decide) rfl (List.mem_of_getElem? (i := 5) rfl) dX4_count_60 ?_
    refine vv_fret C dX4_count_63 ?_
    rw [aw_cnt, if_pos rfl]
  · subst hw
    refine vv_tableIn (tgt := 64) C dX4_count_1 (by decide) (by decide) rfl (by decide) ?_
    refine vv_aload_n C dX4_count_64 rfl 0 rfl ?_
    refine vv_gR C (a := 0) (k := 2) (b := 11) inlX4 rfl rfl rfl rfl (by decide) rfl (tm_2 (List.mem_of_getElem? (i := 0) rfl)) dX4_count_65 ?_
    refine vv_getIN C (a := 11) (k := 0) (o := 0) inlX0 rfl rfl rfl (by decide) rfl (List.mem_of_getElem? (i := 17) rfl) dX4_count_68 ?_
    refine vv_fret C dX4_count_71 ?_
    rw [aw_cnt, if_neg (show ¬ nI 1 = nI 0 by decide), if_pos rfl]
  · subst hw
    refine vv_tableIn (tgt := 72) C dX4_count_1 (by decide) (by decide) rfl (by decide) ?_
    refine vv_aload_n C dX4_count_72 rfl 0 rfl ?_
    refine vv_gR C (a := 0) (k := 2) (b := 11) inlX4 rfl rfl rfl rfl (by decide) rfl (tm_2 (List.mem_of_getElem? (i := 0) rfl)) dX4_count_73 ?_
    refine vv_getIN C (a := 11) (k := 1) (o := 0) inlX0 rfl rfl rfl (by decide) rfl (List.mem_of_getElem? (i := 18) rfl) dX4_count_76 ?_
    refine vv_fret C dX4_count_79 ?_
    rw [aw_cnt, if_neg (show ¬ nI 2 = nI 0 by decide), if_neg (show ¬ nI 2 = nI 1 by decide), if_pos rfl]
  · subst hw
    refine vv_tableIn (tgt := 80) C dX4_count_1 (by decide) (by decide) rfl (by decide) ?_
    refine vv_aload_n C dX4_count_80 rfl 0 rfl ?_
    refine vv_gR C (a := 0) (k := 2) (b := 11) inlX4 rfl rfl rfl rfl (by decide) rfl (tm_2 (List.mem_of_getElem? (i := 0) rfl)) dX4_count_81 ?_
    refine vv_getIN C (a := 11) (k := 2) (o := 0) inlX0 rfl rfl rfl (by decide) rfl (List.mem_of_getElem? (i := 19) rfl) dX4_count_84 ?_
    refine vv_fret C dX4_count_87 ?_
    rw [aw_cnt, if_neg (show ¬ nI 3 = nI 0 by decide), if_neg (show ¬ nI 3 = nI 1 by decide), if_neg (show ¬ nI 3 = nI 2 by decide), if_pos rfl]
  · subst hw
    refine vv_tableIn (tgt := 88) C dX4_count_1 (by decide) (by decide) rfl (by decide) ?_
    refine vv_aload_n C dX4_count_88 rfl 0 rfl ?_
    refine vv_gR C (a := 0) (k := 2) (b := 11) inlX4 rfl rfl rfl rfl (by decide) rfl (tm_2 (List.mem_of_getElem? (i := 0) rfl)) dX4_count_89 ?_
    refine vv_getIN C (a := 11) (k := 8) (o := 0) inlX0 rfl rfl rfl (by decide) rfl (List.mem_of_getElem? (i := 25) rfl) dX4_count_92 ?_
    refine vv_fret C dX4_count_95 ?_
    rw [aw_cnt, if_neg (show ¬ nI 4 = nI 0 by decide), if_neg (show ¬ nI 4 = nI 1 by decide), if_neg (show ¬ nI 4 = nI 2 by decide), if_neg (show ¬ nI 4 = nI 3 by decide), if_pos rfl]
  · subst hw
    refine vv_tableIn (tgt := 96) C dX4_count_1 (by decide) (by decide) rfl (by decide) ?_
    refine vv_aload_n C dX4_count_96 rfl 0 rfl ?_
    refine vv_gR C (a := 0) (k := 2) (b := 11) inlX4 rfl rfl rfl rfl (by decide) rfl (tm_2 (List.mem_of_getElem? (i := 0) rfl)) dX4_count_97 ?_
    refine vv_getIN C (a := 11) (k := 3) (o := 0) inlX0 rfl rfl rfl (by decide) rfl (List.mem_of_getElem? (i := 20) rfl) dX4_count_100 ?_
    refine vv_fret C dX4_count_103 ?_
    rw [aw_cnt, if_neg (show ¬ nI 5 = nI 0 by decide), if_neg (show ¬ nI 5 = nI 1 by decide), if_neg (show ¬ nI 5 = nI 2 by decide), if_neg (show ¬ nI 5 = nI 3 by decide), if_neg (show ¬ nI 5 = nI 4 by decide), if_pos rfl]
  · subst hw
    refine vv_tableIn (tgt := 104) C dX4_count_1 (by decide) (by decide) rfl (by decide) ?_
    refine vv_aload_n C dX4_count_104 rfl 0 rfl ?_
    refine vv_gR C (a := 0) (k := 2) (b := 11) inlX4 rfl rfl rfl rfl (by decide) rfl (tm_2 (List.mem_of_getElem? (i := 0) rfl)) dX4_count_105 ?_
    refine vv_getZN C (a := 11) (k := 7) (o := 0) inlX0 rfl rfl rfl (by decide) rfl (List.mem_of_getElem? (i := 24) rfl) dX4_count_108 ?_
    refine vv_cS_F C (kk_X4_oneIf l g _ _) yk_X4_oneIf (tm_12 (List.mem_of_getElem? (i := 12) rfl)) (by decide) rfl (Nat.le_of_ble_eq_true rfl) rfl dX4_count_111 ?_
    refine vv_fret C dX4_count_114 ?_
    rw [aw_cnt, if_neg (show ¬ nI 6 = nI 0 by decide), if_neg (show ¬ nI 6 = nI 1 by decide), if_neg (show ¬ nI 6 = nI 2 by decide), if_neg (show ¬ nI 6 = nI 3 by decide), if_neg (show ¬ nI 6 = nI 4 by decide), if_neg (show ¬ nI 6 = nI 5 by decide), if_pos rfl]
    exact vx_b_b _
  · subst hw
    refine vv_tableIn (tgt := 115) C dX4_count_1 (by decide) (by decide) rfl (by decide) ?_
    refine vv_aload_n C dX4_count_115 rfl 0 rfl ?_
    refine vv_gR C (a := 0) (k := 2) (b := 11) inlX4 rfl rfl rfl rfl (by decide) rfl (tm_2 (List.mem_of_getElem? (i := 0) rfl)) dX4_count_116 ?_
    refine vv_getZN C (a := 11) (k := 6) (o := 0) inlX0 rfl rfl rfl (by decide) rfl (List.mem_of_getElem? (i := 23) rfl) dX4_count_119 ?_
    refine vv_cS_F C (kk_X4_oneIf l g _ _) yk_X4_oneIf (tm_12 (List.mem_of_getElem? (i := 12) rfl)) (by decide) rfl (Nat.le_of_ble_eq_true rfl) rfl dX4_count_122 ?_
    refine vv_fret C dX4_count_125 ?_
    rw [aw_cnt, if_neg (show ¬ nI 7 = nI 0 by decide), if_neg (show ¬ nI 7 = nI 1 by decide), if_neg (show ¬ nI 7 = nI 2 by decide), if_neg (show ¬ nI 7 = nI 3 by decide), if_neg (show ¬ nI 7 = nI 4 by decide), if_neg (show ¬ nI 7 = nI 5 by decide), if_neg (show ¬ nI 7 = nI 6 by decide), if_pos rfl]
    exact vx_b_b _
  · subst hw
    refine vv_tableIn (tgt := 126) C dX4_count_1 (by decide) (by decide) rfl (by decide) ?_
    refine vv_aload_n C dX4_count_126 rfl 0 rfl ?_
    refine vv_gR C (a := 0) (k := 3) (b := 17) inlX4 rfl rfl rfl rfl (by decide) rfl (tm_2 (List.mem_of_getElem? (i := 4) rfl)) dX4_count_127 ?_
    refine vv_getIN C (a := 17) (k := 0) (o := 0) inlX3 rfl rfl rfl (by decide) rfl (List.mem_of_getElem? (i := 30) rfl) dX4_count_130 ?_
    refine vv_fret C dX4_count_133 ?_
    rw [aw_cnt, if_neg (show ¬ nI 8 = nI 0 by decide), if_neg (show ¬ nI 8 = nI 1 by decide), if_neg (show ¬ nI 8 = nI 2 by decide), if_neg (show ¬ nI 8 = nI 3 by decide), if_neg (show ¬ nI 8 = nI 4 by decide), if_neg (show ¬ nI 8 = nI 5 by decide), if_neg (show ¬ nI 8 = nI 6 by decide), if_neg (show ¬ nI 8 = nI 7 by decide), if_pos rfl]
  · subst hw
    refine vv_tableIn (tgt := 134) C dX4_count_1 (by decide) (by decide) rfl (by decide) ?_
    refine vv_aload_n C dX4_count_134 rfl 0 rfl ?_
    refine vv_gR C (a := 0) (k := 0) (b := 1) inlX4 rfl rfl rfl rfl (by decide) rfl (tm_1 (List.mem_of_getElem? (i := 16) rfl)) dX4_count_135 ?_
    refine vv_getIN C (a := 1) (k := 0) (o := 0) inlX2 rfl rfl rfl (by decide) rfl (List.mem_of_getElem? (i := 1) rfl) dX4_count_138 ?_
    refine vv_fret C dX4_count_141 ?_
    rw [aw_cnt, if_neg (show ¬ nI 9 = nI 0 by decide), if_neg (show ¬ nI 9 = nI 1 by decide), if_neg (show ¬ nI 9 = nI 2 by decide), if_neg (show ¬ nI 9 = nI 3 by decide), if_neg (show ¬ nI 9 = nI 4 by decide), if_neg (show ¬ nI 9 = nI 5 by decide), if_neg (show ¬ nI 9 = nI 6 by decide), if_neg (show ¬ nI 9 = nI 7 by decide), if_neg (show ¬ nI 9 = nI 8 by decide), if_pos rfl]
  · refine vv_tableOut (tgt := 142) C dX4_count_1 hw (by decide) ?_
    refine vv_bipush (v := (-102)) C dX4_count_142 (by decide) ?_
    refine vv_fret C dX4_count_144 ?_
    have ne : ∀ j : Nat, j < 10 → ¬ w = nI j := fun j hj e => by rw [e, nI_toInt (by omega)] at hw; omega
    simp only [aw_cnt, ne 0 (by decide), ne 1 (by decide), ne 2 (by decide), ne 3 (by decide), ne 4 (by decide), ne 5 (by decide), ne 6 (by decide), ne 7 (by decide), ne 8 (by decide), ne 9 (by decide), if_false]
theorem yk_X4_length : vx_yV yX4_length cX4_length 3 (some .int) 1 := ⟨(tm_13 (List.mem_of_getElem? (i := 21) rfl)), (tm_1 (List.mem_of_getElem? (i := 2) rfl)), by decide +kernel, (tm_13 (List.mem_of_getElem? (i := 19) rfl)), (tm_13 (List.mem_of_getElem? (i := 20) rfl))⟩
set_option maxHeartbeats 4000000 in
set_option maxRecDepth 100000 in
theorem kk_X4_length (l : Launch) (g : vx_G) (S : vx_St) (v : Int32) : vx_M l g yX4_length cX4_length 3 (some .int) (vx_R 1 20) [.ref (g.2.2.1 0), .int v] S (vx_pi (fun r S' => r = aw_len v (S.1 11 2) (S.1 11 0) ∧ S' = if aw_lenB v (S.1 11 2) = true then vx_u (vx_u S 11 0 v) 11 1 v else S)) := by
  refine vx_M.intro (by decide) (Nat.le_of_ble_eq_true rfl) ?_
  intro p e s m args below meth c C
  refine vv_iload_n C dX4_length_0 rfl 1 rfl ?_
  refine vv_iconst (v := (1)) C dX4_length_1 (by decide) ?_
  refine vv_icmp_lt (tgt := 11) C dX4_length_2 (by decide) (fun h2 => ?_) (fun h2 => ?_)
  · have g2 := pu_lt h2
    refine vv_bipush (v := (-102)) C dX4_length_11 (by decide) ?_
    refine vv_jret C dX4_length_13 ?_
    exact ⟨by simp [aw_len, h2, g2], by simp [aw_lenB, h2, g2]⟩
  · have g2 := pu_nlt h2
    refine vv_iload_n C dX4_length_5 rfl 1 rfl ?_
    refine vv_bipush (v := (99)) C dX4_length_6 (by decide) ?_
    refine vv_icmp_le (tgt := 14) C dX4_length_8 (by decide) (fun h8 => ?_) (fun h8 => ?_)
    · have g8 := pu_le h8
      refine vv_aload_n C dX4_length_14 rfl 0 rfl ?_
      refine vv_gR C (a := 0) (k := 2) (b := 11) inlX4 rfl rfl rfl rfl (by decide) rfl (tm_2 (List.mem_of_getElem? (i := 0) rfl)) dX4_length_15 ?_
      refine vv_cVN_F C (a := 11) (kk_X0_hasBegun l g _ _ rfl) yk_X0_hasBegun (List.mem_of_getElem? (i := 35) rfl) rfl rfl rfl (by decide) rfl (Nat.le_of_ble_eq_true rfl) rfl dX4_length_18 ?_
      refine vv_ifb_eq (tgt := 27) C dX4_length_21 (by decide) (fun h21 => ?_) (fun h21 => ?_)
      · simp only [decide_eq_false_iff_not] at h21
        refine vv_aload_n C dX4_length_27 rfl 0 rfl ?_
        refine vv_gR C (a := 0) (k := 2) (b := 11) inlX4 rfl rfl rfl rfl (by decide) rfl (tm_2 (List.mem_of_getElem? (i := 0) rfl)) dX4_length_28 ?_
        refine vv_getIN C (a := 11) (k := 0) (o := 0) inlX0 rfl rfl rfl (by decide) rfl (List.mem_of_getElem? (i := 17) rfl) dX4_length_31 ?_
        refine vv_istore_n (i := 2) (L' := [_, _, _]) C dX4_length_34 rfl (by decide) rfl ?_
        refine vv_aload_n C dX4_length_35 rfl 1 rfl ?_
        refine vv_gR C (a := 0) (k := 2) (b := 11) inlX4 rfl rfl rfl rfl (by decide) rfl (tm_2 (List.mem_of_getElem? (i := 0) rfl)) dX4_length_36 ?_
        refine vv_iload_n C dX4_length_39 rfl 2 rfl ?_
        refine vv_putIN C (a := 11) (k := 0) inlX0 tyX0 tyX0_ok nmX0 rfl rfl rfl (by decide) rfl rfl rfl (List.mem_of_getElem? (i := 17) rfl) dX4_length_40 ?_
        refine vv_aload_n C dX4_length_43 rfl 1 rfl ?_
        refine vv_gR C (a := 0) (k := 2) (b := 11) inlX4 rfl rfl rfl rfl (by decide) rfl (tm_2 (List.mem_of_getElem? (i := 0) rfl)) dX4_length_44 ?_
        refine vv_iload_n C dX4_length_47 rfl 2 rfl ?_
        refine vv_putIN C (a := 11) (k := 1) inlX0 tyX0 tyX0_ok nmX0 rfl rfl rfl (by decide) rfl rfl rfl (List.mem_of_getElem? (i := 18) rfl) dX4_length_48 ?_
        refine vv_iload_n C dX4_length_51 rfl 0 rfl ?_
        refine vv_jret C dX4_length_52 ?_
        exact ⟨by simp [aw_len, h2, g2, h8, g8, h21], by simp [aw_lenB, h2, g2, h8, g8, h21]⟩
      · simp only [decide_eq_true_eq] at h21
        refine vv_bipush (v := (-103)) C dX4_length_24 (by decide) ?_
        refine vv_jret C dX4_length_26 ?_
        exact ⟨by simp [aw_len, h2, g2, h8, g8, h21], by simp [aw_lenB, h2, g2, h8, g8, h21]⟩
    · have g8 := pu_nle h8
      refine vv_bipush (v := (-102)) C dX4_length_11 (by decide) ?_
      refine vv_jret C dX4_length_13 ?_
      exact ⟨by simp [aw_len, h2, g2, h8, g8], by simp [aw_lenB, h2, g2, h8, g8]⟩
theorem yk_X4_brake : vx_yV yX4_brake cX4_brake 4 (some .int) 2 := ⟨(tm_14 (List.mem_of_getElem? (i := 5) rfl)), (tm_1 (List.mem_of_getElem? (i := 2) rfl)), by decide +kernel, (tm_14 (List.mem_of_getElem? (i := 3) rfl)), (tm_14 (List.mem_of_getElem? (i := 4) rfl))⟩
set_option maxHeartbeats 4000000 in
set_option maxRecDepth 100000 in
theorem kk_X4_brake (l : Launch) (g : vx_G) (S : vx_St) (h b : Int32) (n : Nat) (hn : S.1 3 0 = nI n) (hn8 : n ≤ 8) : vx_M l g yX4_brake cX4_brake 4 (some .int) (vx_R 1 21) [.ref (g.2.2.1 0), .int h, .int b] S (vx_pi (fun r S' => r = (if pu_hq h (S.1 3 0) = true then vx_i (pu_in (S.1 11 5) h) else -101) ∧ S' = if pu_hq h (S.1 3 0) = true then vx_u S 11 5 (aw_brk (S.1 11 5) h b) else S)) := by
  refine vx_M.intro (by decide) (Nat.le_of_ble_eq_true rfl) ?_
  intro p e s m args below meth c C
  refine vv_aload_n C dX4_brake_0 rfl 0 rfl ?_
  refine vv_gR C (a := 0) (k := 1) (b := 3) inlX4 rfl rfl rfl rfl (by decide) rfl (tm_1 (List.mem_of_getElem? (i := 20) rfl)) dX4_brake_1 ?_
  refine vv_iload_n C dX4_brake_4 rfl 1 rfl ?_
  refine vv_cVN_F C (a := 3) (kk_X1_has l g _ _) yk_X1_has (List.mem_of_getElem? (i := 40) rfl) rfl rfl rfl (by decide) rfl (Nat.le_of_ble_eq_true rfl) rfl dX4_brake_5 ?_
  refine vv_ifb_ne (tgt := 14) C dX4_brake_8 (by decide) (fun h8 => ?_) (fun h8 => ?_)
  · refine vv_aload_n C dX4_brake_14 rfl 0 rfl ?_
    refine vv_gR C (a := 0) (k := 2) (b := 11) inlX4 rfl rfl rfl rfl (by decide) rfl (tm_2 (List.mem_of_getElem? (i := 0) rfl)) dX4_brake_15 ?_
    refine vv_getIN C (a := 11) (k := 5) (o := 0) inlX0 rfl rfl rfl (by decide) rfl (List.mem_of_getElem? (i := 22) rfl) dX4_brake_18 ?_
    refine vv_iload_n C dX4_brake_21 rfl 1 rfl ?_
    refine vv_cS_F C (kk_X4_isIn l g _ _ _) yk_X4_isIn (tm_12 (List.mem_of_getElem? (i := 9) rfl)) (by decide) rfl (Nat.le_of_ble_eq_true rfl) rfl dX4_brake_22 ?_
    refine vv_cS_F C (kk_X4_oneIf l g _ _) yk_X4_oneIf (tm_12 (List.mem_of_getElem? (i := 12) rfl)) (by decide) rfl (Nat.le_of_ble_eq_true rfl) rfl dX4_brake_25 ?_
    refine vv_istore_n (i := 3) (L' := [_, _, _, _]) C dX4_brake_28 rfl (by decide) rfl ?_
    refine vv_aload_n C dX4_brake_29 rfl 1 rfl ?_
    refine vv_gR C (a := 0) (k := 2) (b := 11) inlX4 rfl rfl rfl rfl (by decide) rfl (tm_2 (List.mem_of_getElem? (i := 0) rfl)) dX4_brake_30 ?_
    refine vv_iload_n C dX4_brake_33 rfl 3 rfl ?_
    refine vv_if_eq (tgt := 52) C dX4_brake_34 (by decide) (fun h34 => ?_) (fun h34 => ?_)
    · refine vv_aload_n C dX4_brake_52 rfl 1 rfl ?_
      refine vv_gR C (a := 0) (k := 2) (b := 11) inlX4 rfl rfl rfl rfl (by decide) rfl (tm_2 (List.mem_of_getElem? (i := 0) rfl)) dX4_brake_53 ?_
      refine vv_getIN C (a := 11) (k := 5) (o := 0) inlX0 rfl rfl rfl (by decide) rfl (List.mem_of_getElem? (i := 22) rfl) dX4_brake_56 ?_
      refine vv_iload_n C dX4_brake_59 rfl 2 rfl ?_
      refine vv_cS_F C (kk_X4_bit l g _ _) yk_X4_bit (tm_14 (List.mem_of_getElem? (i := 6) rfl)) (by decide) rfl (Nat.le_of_ble_eq_true rfl) rfl dX4_brake_60 ?_
      refine vv_iconst (v := (-1)) C dX4_brake_63 (by decide) ?_
      refine vv_ixor C dX4_brake_64 ?_
      refine vv_iand C dX4_brake_65 ?_
      refine vv_putIN C (a := 11) (k := 5) inlX0 tyX0 tyX0_ok nmX0 rfl rfl rfl (by decide) rfl rfl rfl (List.mem_of_getElem? (i := 22) rfl) dX4_brake_66 ?_
      refine vv_iload_n C dX4_brake_69 rfl 0 rfl ?_
      refine vv_jret C dX4_brake_70 ?_
      exact ⟨by rw [if_pos (show pu_hq h (S.1 3 0) = true from h8)]; exact vx_i_b _, by rw [if_pos (show pu_hq h (S.1 3 0) = true from h8), aw_brk, if_pos h34]⟩
    · refine vv_aload_n C dX4_brake_37 rfl 1 rfl ?_
      refine vv_gR C (a := 0) (k := 2) (b := 11) inlX4 rfl rfl rfl rfl (by decide) rfl (tm_2 (List.mem_of_getElem? (i := 0) rfl)) dX4_brake_38 ?_
      refine vv_getIN C (a := 11) (k := 5) (o := 0) inlX0 rfl rfl rfl (by decide) rfl (List.mem_of_getElem? (i := 22) rfl) dX4_brake_41 ?_
      refine vv_iload_n C dX4_brake_44 rfl 2 rfl ?_
      refine vv_cS_F C (kk_X4_bit l g _ _) yk_X4_bit (tm_14 (List.mem_of_getElem? (i := 6) rfl)) (by decide) rfl (Nat.le_of_ble_eq_true rfl) rfl dX4_brake_45 ?_
      refine vv_ior C dX4_brake_48 ?_
      refine vv_goto (tgt := 66) C dX4_brake_49 (by decide) ?_
      refine vv_putIN C (a := 11) (k := 5) inlX0 tyX0 tyX0_ok nmX0 rfl rfl rfl (by decide) rfl rfl rfl (List.mem_of_getElem? (i := 22) rfl) dX4_brake_66 ?_
      refine vv_iload_n C dX4_brake_69 rfl 0 rfl ?_
      refine vv_jret C dX4_brake_70 ?_
      exact ⟨by rw [if_pos (show pu_hq h (S.1 3 0) = true from h8)]; exact vx_i_b _, by rw [if_pos (show pu_hq h (S.1 3 0) = true from h8), aw_brk, if_neg h34]⟩
  · refine vv_bipush (v := (-101)) C dX4_brake_11 (by decide) ?_
    refine vv_jret C dX4_brake_13 ?_
    exact ⟨by simp [pu_hq, h8], by simp [pu_hq, h8]⟩
theorem yk_X4_rain : vx_yV yX4_rain cX4_rain 3 (some .int) 1 := ⟨(tm_14 (List.mem_of_getElem? (i := 14) rfl)), (tm_1 (List.mem_of_getElem? (i := 2) rfl)), by decide +kernel, (tm_14 (List.mem_of_getElem? (i := 12) rfl)), (tm_14 (List.mem_of_getElem? (i := 13) rfl))⟩
set_option maxHeartbeats 4000000 in
set_option maxRecDepth 100000 in
theorem kk_X4_rain (l : Launch) (g : vx_G) (S : vx_St) (b : Int32) (hb : vx_b01 b = b) : vx_M l g yX4_rain cX4_rain 3 (some .int) (vx_R 1 20) [.ref (g.2.2.1 0), .int b] S (vx_pi (fun r S' => r = vx_b01 (S.1 11 6) ∧ S' = vx_u S 11 6 b)) := by
  refine vx_M.intro (by decide) (Nat.le_of_ble_eq_true rfl) ?_
  intro p e s m args below meth c C
  refine vv_aload_n C dX4_rain_0 rfl 0 rfl ?_
  refine vv_gR C (a := 0) (k := 2) (b := 11) inlX4 rfl rfl rfl rfl (by decide) rfl (tm_2 (List.mem_of_getElem? (i := 0) rfl)) dX4_rain_1 ?_
  refine vv_getZN C (a := 11) (k := 6) (o := 0) inlX0 rfl rfl rfl (by decide) rfl (List.mem_of_getElem? (i := 23) rfl) dX4_rain_4 ?_
  refine vv_cS_F C (kk_X4_oneIf l g _ _) yk_X4_oneIf (tm_12 (List.mem_of_getElem? (i := 12) rfl)) (by decide) rfl (Nat.le_of_ble_eq_true rfl) rfl dX4_rain_7 ?_
  refine vv_istore_n (i := 2) (L' := [_, _, _]) C dX4_rain_10 rfl (by decide) rfl ?_
  refine vv_aload_n C dX4_rain_11 rfl 1 rfl ?_
  refine vv_gR C (a := 0) (k := 2) (b := 11) inlX4 rfl rfl rfl rfl (by decide) rfl (tm_2 (List.mem_of_getElem? (i := 0) rfl)) dX4_rain_12 ?_
  refine vv_iload_n C dX4_rain_15 rfl 2 rfl ?_
  refine vv_putZN C (a := 11) (k := 6) inlX0 tyX0 tyX0_ok nmX0 rfl rfl rfl (by decide) rfl rfl rfl hb (List.mem_of_getElem? (i := 23) rfl) dX4_rain_16 ?_
  refine vv_iload_n C dX4_rain_19 rfl 0 rfl ?_
  refine vv_jret C dX4_rain_20 ?_
  exact ⟨vx_b_b _, rfl⟩
theorem yk_X4_wants : vx_yV yX4_wants cX4_wants 2 (some .int) 1 := ⟨(tm_14 (List.mem_of_getElem? (i := 23) rfl)), (tm_1 (List.mem_of_getElem? (i := 2) rfl)), by decide +kernel, (tm_14 (List.mem_of_getElem? (i := 21) rfl)), (tm_14 (List.mem_of_getElem? (i := 22) rfl))⟩
set_option maxHeartbeats 4000000 in
set_option maxRecDepth 100000 in
theorem kk_X4_wants (l : Launch) (g : vx_G) (S : vx_St) (h : Int32) (n : Nat) (hn : S.1 3 0 = nI n) (hn8 : n ≤ 8) : vx_M l g yX4_wants cX4_wants 2 (some .int) (vx_R 2 45) [.ref (g.2.2.1 0), .int h] S (vx_pf (aw_want (S.1 3 0) (pu_hs S) (S.1 11 2) (S.1 11 5) (S.1 11 4) h) S) := by
  refine vx_M.intro (by decide) (Nat.le_of_ble_eq_true rfl) ?_
  intro p e s m args below meth c C
  refine vv_aload_n C dX4_wants_0 rfl 0 rfl ?_
  refine vv_gR C (a := 0) (k := 1) (b := 3) inlX4 rfl rfl rfl rfl (by decide) rfl (tm_1 (List.mem_of_getElem? (i := 20) rfl)) dX4_wants_1 ?_
  refine vv_iload_n C dX4_wants_4 rfl 1 rfl ?_
  refine vv_cVN_F C (a := 3) (kk_X1_has l g _ _) yk_X1_has (List.mem_of_getElem? (i := 40) rfl) rfl rfl rfl (by decide) rfl (Nat.le_of_ble_eq_true rfl) rfl dX4_wants_5 ?_
  refine vv_ifb_eq (tgt := 26) C dX4_wants_8 (by decide) (fun h8 => ?_) (fun h8 => ?_)
  · refine vv_bipush (v := (-101)) C dX4_wants_26 (by decide) ?_
    refine vv_fret C dX4_wants_28 ?_
    simp [aw_want, pu_hq, h8]
  · have hq := h8
    obtain ⟨k, hk, rfl⟩ := pu_hq_k hn (by omega) h8
    refine vv_aload_n C dX4_wants_11 rfl 0 rfl ?_
    refine vv_gR C (a := 0) (k := 2) (b := 11) inlX4 rfl rfl rfl rfl (by decide) rfl (tm_2 (List.mem_of_getElem? (i := 0) rfl)) dX4_wants_12 ?_
    refine vv_aload_n C dX4_wants_15 rfl 0 rfl ?_
    refine vv_gR C (a := 0) (k := 1) (b := 3) inlX4 rfl rfl rfl rfl (by decide) rfl (tm_1 (List.mem_of_getElem? (i := 20) rfl)) dX4_wants_16 ?_
    refine vv_iload_n C dX4_wants_19 rfl 1 rfl ?_
    refine vv_cVN_F C (a := 11) (kk_X0_wantOf l g _ _ rfl k (by omega)) yk_X0_wantOf (List.mem_of_getElem? (i := 42) rfl) rfl rfl rfl (by decide) rfl (Nat.le_of_ble_eq_true rfl) rfl dX4_wants_20 ?_
    refine vv_goto (tgt := 28) C dX4_wants_23 (by decide) ?_
    refine vv_fret C dX4_wants_28 ?_
    rw [aw_want, if_pos (show pu_hq (nI k) (S.1 3 0) = true from hq), nI_clamp (by omega)]
    rfl
theorem yk_X4_goes : vx_yV yX4_goes cX4_goes 2 (some .int) 1 := ⟨(tm_16 (List.mem_of_getElem? (i := 0) rfl)), (tm_1 (List.mem_of_getElem? (i := 2) rfl)), by decide +kernel, (tm_15 (List.mem_of_getElem? (i := 22) rfl)), (tm_15 (List.mem_of_getElem? (i := 23) rfl))⟩
set_option maxHeartbeats 4000000 in
set_option maxRecDepth 100000 in
theorem kk_X4_goes (l : Launch) (g : vx_G) (S : vx_St) (t : Int32) (n : Nat) (hn : S.1 3 0 = nI n) (hn8 : n ≤ 8) : vx_M l g yX4_goes cX4_goes 2 (some .int) (vx_R 3 70) [.ref (g.2.2.1 0), .int t] S (vx_pi (fun r S' => r = (if aw_bits t (S.1 3 0) = true then pu_G (pu_hs S) (S.1 10) (S.1 11 6) (S.1 11 2) (S.1 11 5) (S.1 11 4) n t else -102) ∧ pu_chg S S' [14])) := by
  refine vx_M.intro (by decide) (Nat.le_of_ble_eq_true rfl) ?_
  intro p e s m args below meth c C
  refine vv_aload_n C dX4_goes_0 rfl 0 rfl ?_
  refine vv_gR C (a := 0) (k := 1) (b := 3) inlX4 rfl rfl rfl rfl (by decide) rfl (tm_1 (List.mem_of_getElem? (i := 20) rfl)) dX4_goes_1 ?_
  refine vv_iload_n C dX4_goes_4 rfl 1 rfl ?_
  refine vv_cVN_F C (a := 3) (kk_X1_areBits l g _ _) yk_X1_areBits (List.mem_of_getElem? (i := 46) rfl) rfl rfl rfl (by decide) rfl (Nat.le_of_ble_eq_true rfl) rfl dX4_goes_5 ?_
  refine vv_ifb_ne (tgt := 14) C dX4_goes_8 (by decide) (fun h8 => ?_) (fun h8 => ?_)
  · refine vv_aload_n C dX4_goes_14 rfl 0 rfl ?_
    refine vv_gR C (a := 0) (k := 2) (b := 11) inlX4 rfl rfl rfl rfl (by decide) rfl (tm_2 (List.mem_of_getElem? (i := 0) rfl)) dX4_goes_15 ?_
    refine vv_aload_n C dX4_goes_18 rfl 0 rfl ?_
    refine vv_gR C (a := 0) (k := 1) (b := 3) inlX4 rfl rfl rfl rfl (by decide) rfl (tm_1 (List.mem_of_getElem? (i := 20) rfl)) dX4_goes_19 ?_
    refine vv_cVN_v C (a := 11) (kk_X0_tellWanted l g _ _ (show (11 : Nat) = 11 ∨ (11 : Nat) = 20 ∨ (11 : Nat) = 26 from Or.inl rfl) n hn hn8) yk_X0_tellWanted (List.mem_of_getElem? (i := 47) rfl) rfl rfl rfl (by decide) rfl (Nat.le_of_ble_eq_true rfl) rfl dX4_goes_22 (fun S22 h22 => ?_)
    obtain ⟨hc, hw⟩ := h22
    have hn2 : S22.1 3 0 = nI n := by rw [hc.2 3 (by decide)]; exact hn
    refine vv_aload_n C dX4_goes_25 rfl 0 rfl ?_
    refine vv_gR C (a := 0) (k := 2) (b := 11) inlX4 rfl rfl rfl rfl (by decide) rfl (tm_2 (List.mem_of_getElem? (i := 0) rfl)) dX4_goes_26 ?_
    refine vv_aload_n C dX4_goes_29 rfl 0 rfl ?_
    refine vv_gR C (a := 0) (k := 1) (b := 3) inlX4 rfl rfl rfl rfl (by decide) rfl (tm_1 (List.mem_of_getElem? (i := 20) rfl)) dX4_goes_30 ?_
    refine vv_iload_n C dX4_goes_33 rfl 1 rfl ?_
    refine vv_cVN_F C (a := 11) (kk_X0_goesBy l g _ _ rfl rfl _ n hn2 hn8) yk_X0_goesBy (List.mem_of_getElem? (i := 48) rfl) rfl rfl rfl (by decide) rfl (Nat.le_of_ble_eq_true rfl) rfl dX4_goes_34 ?_
    refine vv_jret C dX4_goes_37 ?_
    exact ⟨by rw [if_pos (show aw_bits t (S.1 3 0) = true from h8)]; exact pu_Gof (d := 11) (show (11 : Nat) = 11 ∨ (11 : Nat) = 20 ∨ (11 : Nat) = 26 from Or.inl rfl) hc hw t, hc⟩
  · refine vv_bipush (v := (-102)) C dX4_goes_11 (by decide) ?_
    refine vv_jret C dX4_goes_13 ?_
    exact ⟨by simp [aw_bits, h8], pu_chg_rf S _⟩
theorem yk_X4_hour : vx_yV yX4_hour cX4_hour 1 (some .int) 0 := ⟨(tm_17 (List.mem_of_getElem? (i := 22) rfl)), (tm_1 (List.mem_of_getElem? (i := 2) rfl)), by decide +kernel, (tm_17 (List.mem_of_getElem? (i := 20) rfl)), (tm_17 (List.mem_of_getElem? (i := 21) rfl))⟩
set_option maxHeartbeats 4000000 in
set_option maxRecDepth 100000 in
theorem kk_X4_hour (l : Launch) (g : vx_G) (S : vx_St) (n : Nat) (hn : S.1 3 0 = nI n) (hn8 : n ≤ 8) : vx_M l g yX4_hour cX4_hour 1 (some .int) (vx_R 4 94) [.ref (g.2.2.1 0)] S (vx_pi (fun r S' => r = (if aw_goB (S.1 11 2) (S.1 11 7) = true then pu_feet (pu_hs S) (S.1 10) (S.1 11 6) (S.1 11 1) (S.1 11 2) (S.1 11 5) (S.1 11 4) n else -103) ∧ pu_chg S S' [11, 12, 14] ∧ S'.1 11 = (if aw_goB (S.1 11 2) (S.1 11 7) = true then pu_nx (pu_hs S) (S.1 10) (S.1 11) n else S.1 11) ∧ S'.1 12 = (if aw_goB (S.1 11 2) (S.1 11 7) = true then pu_took (S.1 12) (pu_W (pu_hs S) (S.1 11 2) (S.1 11 5) (S.1 11 4)) (pu_set2 (pu_hs S) (S.1 10) (S.1 11 6) (S.1 11 1) (S.1 11 2) (S.1 11 5) (S.1 11 4) n) n else S.1 12))) := by
  refine vx_M.intro (by decide) (Nat.le_of_ble_eq_true rfl) ?_
  intro p e s m args below meth c C
  refine vv_aload_n C dX4_hour_0 rfl 0 rfl ?_
  refine vv_gR C (a := 0) (k := 2) (b := 11) inlX4 rfl rfl rfl rfl (by decide) rfl (tm_2 (List.mem_of_getElem? (i := 0) rfl)) dX4_hour_1 ?_
  refine vv_cVN_F C (a := 11) (kk_X0_hourComes l g _ _ rfl) yk_X0_hourComes (List.mem_of_getElem? (i := 51) rfl) rfl rfl rfl (by decide) rfl (Nat.le_of_ble_eq_true rfl) rfl dX4_hour_4 ?_
  refine vv_ifb_eq (tgt := 24) C dX4_hour_7 (by decide) (fun h7 => ?_) (fun h7 => ?_)
  · refine vv_bipush (v := (-103)) C dX4_hour_24 (by decide) ?_
    refine vv_jret C dX4_hour_26 ?_
    have hg : ¬ aw_goB (S.1 11 2) (S.1 11 7) = true := by rw [show aw_goB (S.1 11 2) (S.1 11 7) = false from h7]; decide
    exact ⟨by rw [if_neg hg], pu_chg_rf S _, by rw [if_neg hg], by rw [if_neg hg]⟩
  · refine vv_aload_n C dX4_hour_10 rfl 0 rfl ?_
    refine vv_gR C (a := 0) (k := 2) (b := 11) inlX4 rfl rfl rfl rfl (by decide) rfl (tm_2 (List.mem_of_getElem? (i := 0) rfl)) dX4_hour_11 ?_
    refine vv_aload_n C dX4_hour_14 rfl 0 rfl ?_
    refine vv_gR C (a := 0) (k := 1) (b := 3) inlX4 rfl rfl rfl rfl (by decide) rfl (tm_1 (List.mem_of_getElem? (i := 20) rfl)) dX4_hour_15 ?_
    refine vv_cVN_i C (a := 11) (kk_X0_passHour l g _ _ (show (11 : Nat) = 11 ∨ (11 : Nat) = 20 ∨ (11 : Nat) = 26 from Or.inl rfl) n hn hn8) yk_X0_passHour (List.mem_of_getElem? (i := 52) rfl) rfl rfl rfl (by decide) rfl (Nat.le_of_ble_eq_true rfl) rfl dX4_hour_18 (fun r18 S18 h18 => ?_)
    obtain ⟨k1, k2, k3, k4⟩ := h18
    refine vv_goto (tgt := 26) C dX4_hour_21 (by decide) ?_
    refine vv_jret C dX4_hour_26 ?_
    have hg : aw_goB (S.1 11 2) (S.1 11 7) = true := h7
    exact ⟨by rw [if_pos hg]; exact k1, k2, by rw [if_pos hg]; exact k3, by rw [if_pos hg]; exact k4⟩
theorem yk_X4_worked : vx_yV yX4_worked cX4_worked 1 (some .int) 0 := ⟨(tm_19 (List.mem_of_getElem? (i := 11) rfl)), (tm_1 (List.mem_of_getElem? (i := 2) rfl)), by decide +kernel, (tm_19 (List.mem_of_getElem? (i := 9) rfl)), (tm_19 (List.mem_of_getElem? (i := 10) rfl))⟩
set_option maxHeartbeats 4000000 in
set_option maxRecDepth 100000 in
theorem kk_X4_worked (l : Launch) (g : vx_G) (S : vx_St)  : vx_M l g yX4_worked cX4_worked 1 (some .int) (vx_R 0 0) [.ref (g.2.2.1 0)] S (vx_pf (S.1 11 4) S) := by
  refine vx_M.intro (by decide) (Nat.le_of_ble_eq_true rfl) ?_
  intro p e s m args below meth c C
  refine vv_aload_n C dX4_worked_0 rfl 0 rfl ?_
  refine vv_gR C (a := 0) (k := 2) (b := 11) inlX4 rfl rfl rfl rfl (by decide) rfl (tm_2 (List.mem_of_getElem? (i := 0) rfl)) dX4_worked_1 ?_
  refine vv_getIN C (a := 11) (k := 4) (o := 0) inlX0 rfl rfl rfl (by decide) rfl (List.mem_of_getElem? (i := 21) rfl) dX4_worked_4 ?_
  refine vv_fret C dX4_worked_7 ?_
  rfl
theorem yk_X4_part : vx_yV yX4_part cX4_part 2 (some .int) 1 := ⟨(tm_19 (List.mem_of_getElem? (i := 19) rfl)), (tm_1 (List.mem_of_getElem? (i := 2) rfl)), by decide +kernel, (tm_19 (List.mem_of_getElem? (i := 17) rfl)), (tm_19 (List.mem_of_getElem? (i := 18) rfl))⟩
set_option maxHeartbeats 4000000 in
set_option maxRecDepth 100000 in
theorem kk_X4_part (l : Launch) (g : vx_G) (S : vx_St) (h : Int32) (n : Nat) (hn : S.1 3 0 = nI n) (hn8 : n ≤ 8) : vx_M l g yX4_part cX4_part 2 (some .int) (vx_R 2 48) [.ref (g.2.2.1 0), .int h] S (vx_pi (fun r S' => r = (if pu_hq h (S.1 3 0) = true then pu_pts (S.1 11 0 - S.1 11 1) (S.1 11 8) (S.1 12) (S.1 15) (S.1 16) n h.toNatClampNeg else -101) ∧ pu_chg S S' [15, 16])) := by
  refine vx_M.intro (by decide) (Nat.le_of_ble_eq_true rfl) ?_
  intro p e s m args below meth c C
  refine vv_aload_n C dX4_part_0 rfl 0 rfl ?_
  refine vv_gR C (a := 0) (k := 1) (b := 3) inlX4 rfl rfl rfl rfl (by decide) rfl (tm_1 (List.mem_of_getElem? (i := 20) rfl)) dX4_part_1 ?_
  refine vv_iload_n C dX4_part_4 rfl 1 rfl ?_
  refine vv_cVN_F C (a := 3) (kk_X1_has l g _ _) yk_X1_has (List.mem_of_getElem? (i := 40) rfl) rfl rfl rfl (by decide) rfl (Nat.le_of_ble_eq_true rfl) rfl dX4_part_5 ?_
  refine vv_ifb_ne (tgt := 14) C dX4_part_8 (by decide) (fun h8 => ?_) (fun h8 => ?_)
  · have hq := h8
    obtain ⟨k, hk, rfl⟩ := pu_hq_k hn (by omega) h8
    refine vv_aload_n C dX4_part_14 rfl 0 rfl ?_
    refine vv_gR C (a := 0) (k := 2) (b := 11) inlX4 rfl rfl rfl rfl (by decide) rfl (tm_2 (List.mem_of_getElem? (i := 0) rfl)) dX4_part_15 ?_
    refine vv_aload_n C dX4_part_18 rfl 0 rfl ?_
    refine vv_gR C (a := 0) (k := 1) (b := 3) inlX4 rfl rfl rfl rfl (by decide) rfl (tm_1 (List.mem_of_getElem? (i := 20) rfl)) dX4_part_19 ?_
    refine vv_getIN C (a := 3) (k := 0) (o := 0) inlX1 rfl rfl rfl (by decide) rfl (List.mem_of_getElem? (i := 5) rfl) dX4_part_22 ?_
    rw [hn]
    refine vv_cVN_v C (a := 11) (kk_X0_tellParts l g _ _ (show (11 : Nat) = 11 ∨ (11 : Nat) = 20 ∨ (11 : Nat) = 26 from Or.inl rfl) n hn8) yk_X0_tellParts (List.mem_of_getElem? (i := 55) rfl) rfl rfl rfl (by decide) rfl (Nat.le_of_ble_eq_true rfl) rfl dX4_part_25 (fun S25 h25 => ?_)
    obtain ⟨hc, hp⟩ := h25
    refine vv_aload_n C dX4_part_28 rfl 0 rfl ?_
    refine vv_gR C (a := 0) (k := 2) (b := 11) inlX4 rfl rfl rfl rfl (by decide) rfl (tm_2 (List.mem_of_getElem? (i := 0) rfl)) dX4_part_29 ?_
    refine vv_gRN C (a := 11) (k := 12) (b := 15) inlX0 rfl rfl rfl rfl (by decide) rfl (List.mem_of_getElem? (i := 28) rfl) dX4_part_32 ?_
    refine vv_iload_n C dX4_part_35 rfl 1 rfl ?_
    refine vv_ialdN C (a := 15) rfl (by omega) (by decide) dX4_part_36 ?_
    refine vv_jret C dX4_part_37 ?_
    exact ⟨by rw [← hn, if_pos (show pu_hq (nI k) (S.1 3 0) = true from hq), nI_clamp (by omega)]; rw [show S25.1 15 = _ from hp], hc⟩
  · refine vv_bipush (v := (-101)) C dX4_part_11 (by decide) ?_
    refine vv_jret C dX4_part_13 ?_
    exact ⟨by simp [pu_hq, h8], pu_chg_rf S _⟩
theorem yk_X4_night : vx_yV yX4_night cX4_night 1 (some .int) 0 := ⟨(tm_20 (List.mem_of_getElem? (i := 18) rfl)), (tm_1 (List.mem_of_getElem? (i := 2) rfl)), by decide +kernel, (tm_20 (List.mem_of_getElem? (i := 16) rfl)), (tm_20 (List.mem_of_getElem? (i := 17) rfl))⟩
set_option maxHeartbeats 4000000 in
set_option maxRecDepth 100000 in
theorem kk_X4_night (l : Launch) (g : vx_G) (S : vx_St) (n : Nat) (hn : S.1 3 0 = nI n) (hn8 : n ≤ 8) : vx_M l g yX4_night cX4_night 1 (some .int) (vx_R 3 71) [.ref (g.2.2.1 0)] S (vx_pi (fun r S' => r = S.1 11 0 - S.1 11 1 ∧ pu_chg S S' [11, 12, 13, 15, 16] ∧ S'.1 11 = pu_ngt (S.1 11) ∧ S'.1 12 = pu_fill (fun _ => 0) (S.1 12) n ∧ S'.1 13 = pu_fill (fun h => pu_mn (S.1 13 h + pu_pts (S.1 11 0 - S.1 11 1) (S.1 11 8) (S.1 12) (S.1 15) (S.1 16) n h)) (S.1 13) n)) := by
  refine vx_M.intro (by decide) (Nat.le_of_ble_eq_true rfl) ?_
  intro p e s m args below meth c C
  refine vv_aload_n C dX4_night_0 rfl 0 rfl ?_
  refine vv_gR C (a := 0) (k := 2) (b := 11) inlX4 rfl rfl rfl rfl (by decide) rfl (tm_2 (List.mem_of_getElem? (i := 0) rfl)) dX4_night_1 ?_
  refine vv_aload_n C dX4_night_4 rfl 0 rfl ?_
  refine vv_gR C (a := 0) (k := 1) (b := 3) inlX4 rfl rfl rfl rfl (by decide) rfl (tm_1 (List.mem_of_getElem? (i := 20) rfl)) dX4_night_5 ?_
  refine vv_getIN C (a := 3) (k := 0) (o := 0) inlX1 rfl rfl rfl (by decide) rfl (List.mem_of_getElem? (i := 5) rfl) dX4_night_8 ?_
  rw [hn]
  refine vv_cVN_i C (a := 11) (kk_X0_passNight l g _ _ (show (11 : Nat) = 11 ∨ (11 : Nat) = 20 ∨ (11 : Nat) = 26 from Or.inl rfl) n hn8) yk_X0_passNight (List.mem_of_getElem? (i := 56) rfl) rfl rfl rfl (by decide) rfl (Nat.le_of_ble_eq_true rfl) rfl dX4_night_11 (fun r11 S11 h11 => ?_)
  refine vv_jret C dX4_night_14 ?_
  exact h11
theorem yk_X4_wipe : vx_yV yX4_wipe cX4_wipe 2 (some .int) 0 := ⟨(tm_26 (List.mem_of_getElem? (i := 17) rfl)), (tm_1 (List.mem_of_getElem? (i := 2) rfl)), by decide +kernel, (tm_26 (List.mem_of_getElem? (i := 15) rfl)), (tm_26 (List.mem_of_getElem? (i := 16) rfl))⟩
set_option maxHeartbeats 4000000 in
set_option maxRecDepth 100000 in
theorem kk_X4_wipe (l : Launch) (g : vx_G) (S : vx_St)  : vx_M l g yX4_wipe cX4_wipe 2 (some .int) (vx_R 0 0) [.ref (g.2.2.1 0)] S (vx_pi (fun r S' => r = S.1 17 0 ∧ S' = vx_u S 17 0 0)) := by
  refine vx_M.intro (by decide) (Nat.le_of_ble_eq_true rfl) ?_
  intro p e s m args below meth c C
  refine vv_aload_n C dX4_wipe_0 rfl 0 rfl ?_
  refine vv_gR C (a := 0) (k := 3) (b := 17) inlX4 rfl rfl rfl rfl (by decide) rfl (tm_2 (List.mem_of_getElem? (i := 4) rfl)) dX4_wipe_1 ?_
  refine vv_getIN C (a := 17) (k := 0) (o := 0) inlX3 rfl rfl rfl (by decide) rfl (List.mem_of_getElem? (i := 30) rfl) dX4_wipe_4 ?_
  refine vv_istore_n (i := 1) (L' := [_, _]) C dX4_wipe_7 rfl (by decide) rfl ?_
  refine vv_aload_n C dX4_wipe_8 rfl 1 rfl ?_
  refine vv_gR C (a := 0) (k := 3) (b := 17) inlX4 rfl rfl rfl rfl (by decide) rfl (tm_2 (List.mem_of_getElem? (i := 4) rfl)) dX4_wipe_9 ?_
  refine vv_iconst (v := (0)) C dX4_wipe_12 (by decide) ?_
  refine vv_putIN C (a := 17) (k := 0) inlX3 tyX3 tyX3_ok nmX3 rfl rfl rfl (by decide) rfl rfl rfl (List.mem_of_getElem? (i := 30) rfl) dX4_wipe_13 ?_
  refine vv_iload_n C dX4_wipe_16 rfl 0 rfl ?_
  refine vv_jret C dX4_wipe_17 ?_
  exact ⟨rfl, rfl⟩
theorem yk_X4_leaks : vx_yV yX4_leaks cX4_leaks 3 (some .int) 0 := ⟨(tm_27 (List.mem_of_getElem? (i := 1) rfl)), (tm_1 (List.mem_of_getElem? (i := 2) rfl)), by decide +kernel, (tm_26 (List.mem_of_getElem? (i := 23) rfl)), (tm_27 (List.mem_of_getElem? (i := 0) rfl))⟩
set_option maxHeartbeats 4000000 in
set_option maxRecDepth 100000 in
theorem kk_X4_leaks (l : Launch) (g : vx_G) (S : vx_St) (n : Nat) (hn : S.1 3 0 = nI n) (hn8 : n ≤ 8) (mr : Nat) (hm : S.1 17 0 = nI mr) (hm8 : mr ≤ 8) : vx_M l g yX4_leaks cX4_leaks 3 (some .int) (vx_R 3 67) [.ref (g.2.2.1 0)] S (vx_pf (pu_leaks (S.1 18) (S.1 19) mr n) S) := by
  refine vx_M.intro (by decide) (Nat.le_of_ble_eq_true rfl) ?_
  intro p e s m args below meth c C
  have lp4 : ∀ (fu : Nat) (i : Nat), (n - i < fu ∧ i ≤ n) → vx_V p l e (vx_R 3 67) s m args below meth c (MQ below (vx_Q g (vx_pf (pu_leaks (S.1 18) (S.1 19) mr n) S)) args s 0 0 (vx_A g)) g 3 4 [(0, .ref (g.2.2.1 0)), (1, .int (pu_leaks (S.1 18) (S.1 19) mr i)), (2, .int (nI i))] [] (S) := by
    intro fu
    induction fu with
    | zero =>
      intro i hfu
      exact absurd hfu.1 (by omega)
    | succ fu ih =>
      intro i hfu
      obtain ⟨hf1, hf2⟩ := hfu
      refine vv_iload_n C dX4_leaks_4 rfl 2 rfl ?_
      refine vv_aload_n C dX4_leaks_5 rfl 0 rfl ?_
      refine vv_gR C (a := 0) (k := 1) (b := 3) inlX4 rfl rfl rfl rfl (by decide) rfl (tm_1 (List.mem_of_getElem? (i := 20) rfl)) dX4_leaks_6 ?_
      refine vv_getIN C (a := 3) (k := 0) (o := 0) inlX1 rfl rfl rfl (by decide) rfl (List.mem_of_getElem? (i := 5) rfl) dX4_leaks_9 ?_
      refine vv_icmp_ge (tgt := 40) C dX4_leaks_12 (by decide) (fun h12 => ?_) (fun h12 => ?_)
      · have hge := pu_geT hn (by omega) (by omega) h12
        obtain rfl : n = i := by omega
        refine vv_iload_n C dX4_leaks_40 rfl 1 rfl ?_
        refine vv_fret C dX4_leaks_41 ?_
        rfl
      · have hlt := pu_geF hn (by omega) (by omega) h12
        refine vv_aload_n C dX4_leaks_15 rfl 0 rfl ?_
        refine vv_gR C (a := 0) (k := 3) (b := 17) inlX4 rfl rfl rfl rfl (by decide) rfl (tm_2 (List.mem_of_getElem? (i := 4) rfl)) dX4_leaks_16 ?_
        refine vv_iload_n C dX4_leaks_19 rfl 2 rfl ?_
        refine vv_cVN_F C (a := 17) (kk_X3_leastLeakOf l g _ 17 rfl rfl rfl mr hm hm8 _) yk_X3_leastLeakOf (List.mem_of_getElem? (i := 64) rfl) rfl rfl rfl (by decide) rfl (Nat.le_of_ble_eq_true rfl) rfl dX4_leaks_20 ?_
        refine vv_iconst (v := (-1)) C dX4_leaks_23 (by decide) ?_
        refine vv_icmp_eq (tgt := 34) C dX4_leaks_24 (by decide) (fun h24 => ?_) (fun h24 => ?_)
        · refine vv_iincN (L' := [_, _, _]) (j := 2) C dX4_leaks_34 rfl (by decide) rfl ?_
          refine vv_goto (tgt := 4) C dX4_leaks_37 (by decide) ?_
          refine vv_sub (L' := [_, _, _]) [1, 2, 0] rfl ?_
          have q := ih (i + 1) ⟨by omega, by omega⟩
          rw [pu_leaks, if_pos h24] at q
          exact q
        · refine vv_iload_n C dX4_leaks_27 rfl 1 rfl ?_
          refine vv_iload_n C dX4_leaks_28 rfl 2 rfl ?_
          refine vv_cS_F C (kk_X4_bit l g _ _) yk_X4_bit (tm_14 (List.mem_of_getElem? (i := 6) rfl)) (by decide) rfl (Nat.le_of_ble_eq_true rfl) rfl dX4_leaks_29 ?_
          refine vv_ior C dX4_leaks_32 ?_
          refine vv_istore_n (i := 1) (L' := [_, _, _]) C dX4_leaks_33 rfl (by decide) rfl ?_
          refine vv_iincN (L' := [_, _, _]) (j := 2) C dX4_leaks_34 rfl (by decide) rfl ?_
          refine vv_goto (tgt := 4) C dX4_leaks_37 (by decide) ?_
          refine vv_sub (L' := [_, _, _]) [2, 1, 0] rfl ?_
          have q := ih (i + 1) ⟨by omega, by omega⟩
          rw [pu_leaks, if_neg h24] at q
          exact q
  refine vv_iconst (v := (0)) C dX4_leaks_0 (by decide) ?_
  refine vv_istore_n (i := 1) (L' := [_, _]) C dX4_leaks_1 rfl (by decide) rfl ?_
  refine vv_iconst (v := (nI 0)) C dX4_leaks_2 (by decide) ?_
  refine vv_istore_n (i := 2) (L' := [_, _, _]) C dX4_leaks_3 rfl (by decide) rfl ?_
  refine vv_sub (L' := [_, _, _]) [2, 1, 0] rfl ?_
  exact lp4 (n + 1) 0 ⟨by omega, by omega⟩
theorem yk_X4_leak : vx_yV yX4_leak cX4_leak 2 (some .int) 1 := ⟨(tm_28 (List.mem_of_getElem? (i := 4) rfl)), (tm_1 (List.mem_of_getElem? (i := 2) rfl)), by decide +kernel, (tm_28 (List.mem_of_getElem? (i := 2) rfl)), (tm_28 (List.mem_of_getElem? (i := 3) rfl))⟩
set_option maxHeartbeats 4000000 in
set_option maxRecDepth 100000 in
theorem kk_X4_leak (l : Launch) (g : vx_G) (S : vx_St) (h : Int32) (mr : Nat) (hm : S.1 17 0 = nI mr) (hm8 : mr ≤ 8) : vx_M l g yX4_leak cX4_leak 2 (some .int) (vx_R 3 67) [.ref (g.2.2.1 0), .int h] S (vx_pf (if pu_hq h (S.1 3 0) = true then pu_leak (S.1 18) (S.1 19) h mr 9 else -101) S) := by
  refine vx_M.intro (by decide) (Nat.le_of_ble_eq_true rfl) ?_
  intro p e s m args below meth c C
  refine vv_aload_n C dX4_leak_0 rfl 0 rfl ?_
  refine vv_gR C (a := 0) (k := 1) (b := 3) inlX4 rfl rfl rfl rfl (by decide) rfl (tm_1 (List.mem_of_getElem? (i := 20) rfl)) dX4_leak_1 ?_
  refine vv_iload_n C dX4_leak_4 rfl 1 rfl ?_
  refine vv_cVN_F C (a := 3) (kk_X1_has l g _ _) yk_X1_has (List.mem_of_getElem? (i := 40) rfl) rfl rfl rfl (by decide) rfl (Nat.le_of_ble_eq_true rfl) rfl dX4_leak_5 ?_
  refine vv_ifb_eq (tgt := 22) C dX4_leak_8 (by decide) (fun h8 => ?_) (fun h8 => ?_)
  · refine vv_bipush (v := (-101)) C dX4_leak_22 (by decide) ?_
    refine vv_fret C dX4_leak_24 ?_
    rw [if_neg (show ¬ pu_hq h (S.1 3 0) = true by rw [show pu_hq h (S.1 3 0) = false from h8]; decide)]
  · refine vv_aload_n C dX4_leak_11 rfl 0 rfl ?_
    refine vv_gR C (a := 0) (k := 3) (b := 17) inlX4 rfl rfl rfl rfl (by decide) rfl (tm_2 (List.mem_of_getElem? (i := 4) rfl)) dX4_leak_12 ?_
    refine vv_iload_n C dX4_leak_15 rfl 1 rfl ?_
    refine vv_cVN_F C (a := 17) (kk_X3_leastLeakOf l g _ 17 rfl rfl rfl mr hm hm8 _) yk_X3_leastLeakOf (List.mem_of_getElem? (i := 64) rfl) rfl rfl rfl (by decide) rfl (Nat.le_of_ble_eq_true rfl) rfl dX4_leak_16 ?_
    refine vv_goto (tgt := 24) C dX4_leak_19 (by decide) ?_
    refine vv_fret C dX4_leak_24 ?_
    rw [if_pos (show pu_hq h (S.1 3 0) = true from h8)]
theorem yk_X4_read : vx_yV yX4_read cX4_read 4 (some .int) 2 := ⟨(tm_25 (List.mem_of_getElem? (i := 22) rfl)), (tm_1 (List.mem_of_getElem? (i := 2) rfl)), by decide +kernel, (tm_25 (List.mem_of_getElem? (i := 20) rfl)), (tm_25 (List.mem_of_getElem? (i := 21) rfl))⟩
set_option maxHeartbeats 4000000 in
set_option maxRecDepth 100000 in
theorem kk_X4_read (l : Launch) (g : vx_G) (S : vx_St) (t f : Int32) (n : Nat) (hn : S.1 3 0 = nI n) (hn8 : n ≤ 8) (mr : Nat) (hm : S.1 17 0 = nI mr) (hm8 : mr ≤ 8) : vx_M l g yX4_read cX4_read 4 (some .int) (vx_R 3 61) [.ref (g.2.2.1 0), .int t, .int f] S (vx_pi (fun r S' => r = aw_read t f (S.1 3 0) mr ∧ S' = if aw_rdB t f (S.1 3 0) = true ∧ mr < 8 then vx_u (vx_u (vx_u S 18 mr (pu_or (S.1 10) t n)) 19 mr (f - pu_sum (S.1 8) t n - pu_sum (S.1 9) (pu_or (S.1 10) t n) n)) 17 0 (nI (mr + 1)) else S)) := by
  refine vx_M.intro (by decide) (Nat.le_of_ble_eq_true rfl) ?_
  intro p e s m args below meth c C
  refine vv_iload_n C dX4_read_0 rfl 1 rfl ?_
  refine vv_if_eq (tgt := 27) C dX4_read_1 (by decide) (fun h1 => ?_) (fun h1 => ?_)
  · refine vv_bipush (v := (-102)) C dX4_read_27 (by decide) ?_
    refine vv_jret C dX4_read_29 ?_
    have hB : aw_rdB t f (S.1 3 0) = false := by simp [aw_rdB, h1]
    exact ⟨by rw [aw_read, if_neg (by rw [hB]; decide)], by rw [if_neg (by rw [hB]; intro z; exact absurd z.1 (by decide))]⟩
  · refine vv_aload_n C dX4_read_4 rfl 0 rfl ?_
    refine vv_gR C (a := 0) (k := 1) (b := 3) inlX4 rfl rfl rfl rfl (by decide) rfl (tm_1 (List.mem_of_getElem? (i := 20) rfl)) dX4_read_5 ?_
    refine vv_iload_n C dX4_read_8 rfl 1 rfl ?_
    refine vv_cVN_F C (a := 3) (kk_X1_areBits l g _ _) yk_X1_areBits (List.mem_of_getElem? (i := 46) rfl) rfl rfl rfl (by decide) rfl (Nat.le_of_ble_eq_true rfl) rfl dX4_read_9 ?_
    refine vv_ifb_eq (tgt := 27) C dX4_read_12 (by decide) (fun h12 => ?_) (fun h12 => ?_)
    · have b12 : aw_bits t (S.1 3 0) = false := h12
      refine vv_bipush (v := (-102)) C dX4_read_27 (by decide) ?_
      refine vv_jret C dX4_read_29 ?_
      have hB : aw_rdB t f (S.1 3 0) = false := by simp [aw_rdB, b12]
      exact ⟨by rw [aw_read, if_neg (by rw [hB]; decide)], by rw [if_neg (by rw [hB]; intro z; exact absurd z.1 (by decide))]⟩
    · have b12 : aw_bits t (S.1 3 0) = true := h12
      refine vv_iload_n C dX4_read_15 rfl 2 rfl ?_
      refine vv_iconst (v := (1)) C dX4_read_16 (by decide) ?_
      refine vv_icmp_lt (tgt := 27) C dX4_read_17 (by decide) (fun h17 => ?_) (fun h17 => ?_)
      · have g17 := pu_lt h17
        refine vv_bipush (v := (-102)) C dX4_read_27 (by decide) ?_
        refine vv_jret C dX4_read_29 ?_
        have hB : aw_rdB t f (S.1 3 0) = false := by simp [aw_rdB, g17]
        exact ⟨by rw [aw_read, if_neg (by rw [hB]; decide)], by rw [if_neg (by rw [hB]; intro z; exact absurd z.1 (by decide))]⟩
      · have g17 := pu_nlt h17
        refine vv_iload_n C dX4_read_20 rfl 2 rfl ?_
        refine vv_sipush (v := (199)) C dX4_read_21 (by decide) ?_
        refine vv_icmp_le (tgt := 30) C dX4_read_24 (by decide) (fun h24 => ?_) (fun h24 => ?_)
        · have g24 := pu_le h24
          refine vv_aload_n C dX4_read_30 rfl 0 rfl ?_
          refine vv_gR C (a := 0) (k := 3) (b := 17) inlX4 rfl rfl rfl rfl (by decide) rfl (tm_2 (List.mem_of_getElem? (i := 4) rfl)) dX4_read_31 ?_
          refine vv_getIN C (a := 17) (k := 0) (o := 0) inlX3 rfl rfl rfl (by decide) rfl (List.mem_of_getElem? (i := 30) rfl) dX4_read_34 ?_
          refine vv_bipush (v := (nI 8)) C dX4_read_37 (by decide) ?_
          refine vv_icmp_lt (tgt := 45) C dX4_read_39 (by decide) (fun h39 => ?_) (fun h39 => ?_)
          · have g39 := pu_lt h39
            have hlt : mr < 8 := pu_geF (x := nI 8) rfl (by omega) (by omega) (by rw [← hm]; exact g39)
            refine vv_aload_n C dX4_read_45 rfl 0 rfl ?_
            refine vv_gR C (a := 0) (k := 1) (b := 3) inlX4 rfl rfl rfl rfl (by decide) rfl (tm_1 (List.mem_of_getElem? (i := 20) rfl)) dX4_read_46 ?_
            refine vv_iload_n C dX4_read_49 rfl 1 rfl ?_
            refine vv_cVN_F C (a := 3) (kk_X1_waysTo l g _ _ n hn hn8) yk_X1_waysTo (List.mem_of_getElem? (i := 61) rfl) rfl rfl rfl (by decide) rfl (Nat.le_of_ble_eq_true rfl) rfl dX4_read_50 ?_
            refine vv_istore_n (i := 3) (L' := [_, _, _, _]) C dX4_read_53 rfl (by decide) rfl ?_
            refine vv_aload_n C dX4_read_54 rfl 1 rfl ?_
            refine vv_gR C (a := 0) (k := 3) (b := 17) inlX4 rfl rfl rfl rfl (by decide) rfl (tm_2 (List.mem_of_getElem? (i := 4) rfl)) dX4_read_55 ?_
            refine vv_iload_n C dX4_read_58 rfl 0 rfl ?_
            refine vv_iload_n C dX4_read_59 rfl 3 rfl ?_
            refine vv_aload_n C dX4_read_60 rfl 1 rfl ?_
            refine vv_gR C (a := 0) (k := 1) (b := 3) inlX4 rfl rfl rfl rfl (by decide) rfl (tm_1 (List.mem_of_getElem? (i := 20) rfl)) dX4_read_61 ?_
            refine vv_iload_n C dX4_read_64 rfl 2 rfl ?_
            refine vv_cVN_F C (a := 3) (kk_X1_takesOf l g _ _ n hn hn8) yk_X1_takesOf (List.mem_of_getElem? (i := 60) rfl) rfl rfl rfl (by decide) rfl (Nat.le_of_ble_eq_true rfl) rfl dX4_read_65 ?_
            refine vv_isub C dX4_read_68 ?_
            refine vv_aload_n C dX4_read_69 rfl 1 rfl ?_
            refine vv_gR C (a := 0) (k := 1) (b := 3) inlX4 rfl rfl rfl rfl (by decide) rfl (tm_1 (List.mem_of_getElem? (i := 20) rfl)) dX4_read_70 ?_
            refine vv_iload_n C dX4_read_73 rfl 0 rfl ?_
            refine vv_cVN_F C (a := 3) (kk_X1_toldLossOf l g _ _ n hn hn8) yk_X1_toldLossOf (List.mem_of_getElem? (i := 62) rfl) rfl rfl rfl (by decide) rfl (Nat.le_of_ble_eq_true rfl) rfl dX4_read_74 ?_
            refine vv_isub C dX4_read_77 ?_
            refine vv_cVN_v C (a := 17) (kk_X3_add l g _ mr hm hlt _ _) yk_X3_add (List.mem_of_getElem? (i := 63) rfl) rfl rfl rfl (by decide) rfl (Nat.le_of_ble_eq_true rfl) rfl dX4_read_78 (fun S78 h78 => ?_)
            subst h78
            refine vv_aload_n C dX4_read_81 rfl 1 rfl ?_
            refine vv_gR C (a := 0) (k := 3) (b := 17) inlX4 rfl rfl rfl rfl (by decide) rfl (tm_2 (List.mem_of_getElem? (i := 4) rfl)) dX4_read_82 ?_
            refine vv_getIN C (a := 17) (k := 0) (o := 0) inlX3 rfl rfl rfl (by decide) rfl (List.mem_of_getElem? (i := 30) rfl) dX4_read_85 ?_
            refine vv_jret C dX4_read_88 ?_
            have hB : aw_rdB t f (S.1 3 0) = true := by simp [aw_rdB, h1, b12, g17, h24]
            exact ⟨by rw [aw_read, if_pos hB, if_pos hlt]; simp [vx_u_if, upd], by rw [if_pos ⟨hB, hlt⟩]⟩
          · have g39 := pu_nlt h39
            have hge : ¬ mr < 8 := by have := pu_geT (x := nI 8) (n := 8) (i := mr) rfl (by omega) (by omega) (by rw [← hm]; exact g39); omega
            refine vv_bipush (v := (-104)) C dX4_read_42 (by decide) ?_
            refine vv_jret C dX4_read_44 ?_
            have hB : aw_rdB t f (S.1 3 0) = true := by simp [aw_rdB, h1, b12, g17, h24]
            exact ⟨by rw [aw_read, if_pos hB, if_neg hge], by rw [if_neg (fun z => hge z.2)]⟩
        · have g24 := pu_nle h24
          refine vv_bipush (v := (-102)) C dX4_read_27 (by decide) ?_
          refine vv_jret C dX4_read_29 ?_
          have hB : aw_rdB t f (S.1 3 0) = false := by simp [aw_rdB, h24]
          exact ⟨by rw [aw_read, if_neg (by rw [hB]; decide)], by rw [if_neg (by rw [hB]; intro z; exact absurd z.1 (by decide))]⟩
theorem yk_X4_seedAfter : vx_yS yX4_seedAfter cX4_seedAfter 1 (some .int) 1 := ⟨(tm_25 (List.mem_of_getElem? (i := 2) rfl)), (tm_1 (List.mem_of_getElem? (i := 2) rfl)), by decide +kernel, (tm_25 (List.mem_of_getElem? (i := 1) rfl))⟩
set_option maxHeartbeats 4000000 in
set_option maxRecDepth 100000 in
theorem kk_X4_seedAfter (l : Launch) (g : vx_G) (S : vx_St) (x : Int32) : vx_M l g yX4_seedAfter cX4_seedAfter 1 (some .int) (vx_R 0 0) [.int x] S (vx_pf (pu_seed x) S) := by
  refine vx_M.intro (by decide) (Nat.le_of_ble_eq_true rfl) ?_
  intro p e s m args below meth c C
  refine vv_ldc2 C (tm_25 (List.mem_of_getElem? (i := 3) rfl)) dX4_seedAfter_0 ?_
  refine vv_iload_n C dX4_seedAfter_3 rfl 0 rfl ?_
  refine vv_i2l C dX4_seedAfter_4 ?_
  refine vv_lmul C dX4_seedAfter_5 ?_
  refine vv_ldc2 C (tm_25 (List.mem_of_getElem? (i := 4) rfl)) dX4_seedAfter_6 ?_
  refine vv_ladd C dX4_seedAfter_9 ?_
  refine vv_ldc2 C (tm_25 (List.mem_of_getElem? (i := 5) rfl)) dX4_seedAfter_10 ?_
  refine vv_lrem C dX4_seedAfter_13 (by decide) ?_
  refine vv_l2i C dX4_seedAfter_14 ?_
  refine vv_fret C dX4_seedAfter_15 ?_
  rfl
