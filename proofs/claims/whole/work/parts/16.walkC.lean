theorem yk_X2_codeIn : vx_yS yX2_codeIn cX2_codeIn 3 (some .int) 2 := ⟨(tm_4 (List.mem_of_getElem? (i := 21) rfl)), (tm_1 (List.mem_of_getElem? (i := 15) rfl)), by decide +kernel, (tm_4 (List.mem_of_getElem? (i := 20) rfl))⟩
set_option maxHeartbeats 4000000 in
set_option maxRecDepth 100000 in
theorem kk_X2_codeIn (l : Launch) (g : vx_G) (S : vx_St) (w : Int64) (q : Int32) : vx_M l g yX2_codeIn cX2_codeIn 3 (some .int) (vx_R 0 0) [.long w, .int q] S (vx_pf (pu_code w q) S) := by
  refine vx_M.intro (by decide) (Nat.le_of_ble_eq_true rfl) ?_
  intro p e s m args below meth c C
  refine vv_lload_n C dX2_codeIn_0 rfl 0 rfl ?_
  refine vv_bipush (v := (8)) C dX2_codeIn_1 (by decide) ?_
  refine vv_iload_n C dX2_codeIn_3 rfl 1 rfl ?_
  refine vv_imul C dX2_codeIn_4 ?_
  refine vv_lushr C dX2_codeIn_5 ?_
  refine vv_l2i C dX2_codeIn_6 ?_
  refine vv_sipush (v := (255)) C dX2_codeIn_7 (by decide) ?_
  refine vv_iand C dX2_codeIn_10 ?_
  refine vv_fret C dX2_codeIn_11 ?_
  rfl
theorem yk_X2_lettersIn : vx_yS yX2_lettersIn cX2_lettersIn 6 (some .int) 1 := ⟨(tm_4 (List.mem_of_getElem? (i := 18) rfl)), (tm_1 (List.mem_of_getElem? (i := 15) rfl)), by decide +kernel, (tm_4 (List.mem_of_getElem? (i := 17) rfl))⟩
set_option maxHeartbeats 4000000 in
set_option maxRecDepth 100000 in
theorem kk_X2_lettersIn (l : Launch) (g : vx_G) (S : vx_St) (w : Int64) : vx_M l g yX2_lettersIn cX2_lettersIn 6 (some .int) (vx_R 1 22) [.long w] S (vx_pf (if pu_okl (fun i => pu_code w (nI i)) 8 = true then nI (pu_many (fun i => pu_code w (nI i)) 8) else -1) S) := by
  refine vx_M.intro (by decide) (Nat.le_of_ble_eq_true rfl) ?_
  intro p e s m args below meth c C
  have lp7 : ∀ (fu : Nat) (i : Nat), (8 - i < fu ∧ i ≤ 8 ∧ pu_okl (fun i => pu_code w (nI i)) i = true) → vx_V p l e (vx_R 1 22) s m args below meth c (MQ below (vx_Q g (vx_pf (if pu_okl (fun i => pu_code w (nI i)) 8 = true then nI (pu_many (fun i => pu_code w (nI i)) 8) else -1) S)) args s 0 0 (vx_A g)) g 6 7 [(0, .long w), (2, .int (nI (pu_many (fun i => pu_code w (nI i)) i))), (3, .int (vx_i (pu_end (fun i => pu_code w (nI i)) i))), (4, .int (nI i))] [] (S) := by
    intro fu
    induction fu with
    | zero =>
      intro i hfu
      exact absurd hfu.1 (by omega)
    | succ fu ih =>
      intro i hfu
      obtain ⟨hf1, hf2, hf3⟩ := hfu
      refine vv_iload C dX2_lettersIn_7 3 rfl ?_
      refine vv_bipush (v := (nI 8)) C dX2_lettersIn_9 (by decide) ?_
      refine vv_icmp_ge (tgt := 59) C dX2_lettersIn_11 (by decide) (fun h11 => ?_) (fun h11 => ?_)
      · have g11 := pu_le h11
        have hge := pu_geT rfl (by omega) (by omega) h11
        obtain rfl : 8 = i := by omega
        refine vv_iload_n C dX2_lettersIn_59 rfl 1 rfl ?_
        refine vv_fret C dX2_lettersIn_60 ?_
        rw [if_pos hf3]
      · have g11 := pu_nle h11
        have hlt := pu_geF rfl (by omega) (by omega) h11
        refine vv_lload_n C dX2_lettersIn_14 rfl 0 rfl ?_
        refine vv_iload C dX2_lettersIn_15 3 rfl ?_
        refine vv_cS_F C (kk_X2_codeIn l g _ _ _) yk_X2_codeIn (tm_4 (List.mem_of_getElem? (i := 19) rfl)) (by decide) rfl (Nat.le_of_ble_eq_true rfl) rfl dX2_lettersIn_17 ?_
        refine vv_istore (L' := [_, _, _, _, _]) C dX2_lettersIn_20 (by decide) rfl ?_
        refine vv_iload C dX2_lettersIn_22 0 rfl ?_
        refine vv_bipush (v := (126)) C dX2_lettersIn_24 (by decide) ?_
        refine vv_icmp_gt (tgt := 38) C dX2_lettersIn_26 (by decide) (fun h26 => ?_) (fun h26 => ?_)
        · have g26 := pu_lt h26
          refine vv_iconst (v := (-1)) C dX2_lettersIn_38 (by decide) ?_
          refine vv_fret C dX2_lettersIn_39 ?_
          rw [pu_okl_no (i := i) (by simp [pu_okl, h11, g11, h26, g26]) 8 (by omega)]; rfl
        · have g26 := pu_nlt h26
          refine vv_iload_n C dX2_lettersIn_29 rfl 3 rfl ?_
          refine vv_ifb_eq (tgt := 40) C dX2_lettersIn_30 (by decide) (fun h30 => ?_) (fun h30 => ?_)
          · refine vv_iload C dX2_lettersIn_40 0 rfl ?_
            refine vv_if_ne (tgt := 50) C dX2_lettersIn_42 (by decide) (fun h42 => ?_) (fun h42 => ?_)
            · refine vv_iincN (L' := [_, _, _, _, _]) (j := 2) C dX2_lettersIn_50 rfl (by decide) rfl ?_
              refine vv_iincN (L' := [_, _, _, _, _]) (j := 4) C dX2_lettersIn_53 rfl (by decide) rfl ?_
              refine vv_goto (tgt := 7) C dX2_lettersIn_56 (by decide) ?_
              refine vv_sub (L' := [_, _, _, _]) [3, 1, 4, 0] rfl ?_
              have q := ih (i + 1) ⟨by omega, by omega, by simp [pu_okl, hf3, h11, g11, h26, g26, h30, h42]⟩
              rw [pu_many_n (c := (fun i => pu_code w (nI i))) h42, pu_end_n (c := (fun i => pu_code w (nI i))) h42] at q
              exact q
            · refine vv_iconst (v := (1)) C dX2_lettersIn_45 (by decide) ?_
              refine vv_istore_n (i := 3) (L' := [_, _, _, _, _]) C dX2_lettersIn_46 rfl (by decide) rfl ?_
              refine vv_goto (tgt := 53) C dX2_lettersIn_47 (by decide) ?_
              refine vv_iincN (L' := [_, _, _, _, _]) (j := 4) C dX2_lettersIn_53 rfl (by decide) rfl ?_
              refine vv_goto (tgt := 7) C dX2_lettersIn_56 (by decide) ?_
              refine vv_sub (L' := [_, _, _, _]) [3, 4, 1, 0] rfl ?_
              have q := ih (i + 1) ⟨by omega, by omega, by simp [pu_okl, hf3, h11, g11, h26, g26, h30, h42]⟩
              rw [pu_many_z (c := (fun i => pu_code w (nI i))) h42, pu_end_z (c := (fun i => pu_code w (nI i))) h42] at q
              exact q
          · refine vv_iload C dX2_lettersIn_33 0 rfl ?_
            refine vv_if_eq (tgt := 40) C dX2_lettersIn_35 (by decide) (fun h35 => ?_) (fun h35 => ?_)
            · refine vv_iload C dX2_lettersIn_40 0 rfl ?_
              refine vv_if_ne (tgt := 50) C dX2_lettersIn_42 (by decide) (fun h42 => ?_) (fun h42 => ?_)
              · refine vv_iincN (L' := [_, _, _, _, _]) (j := 2) C dX2_lettersIn_50 rfl (by decide) rfl ?_
                refine vv_iincN (L' := [_, _, _, _, _]) (j := 4) C dX2_lettersIn_53 rfl (by decide) rfl ?_
                refine vv_goto (tgt := 7) C dX2_lettersIn_56 (by decide) ?_
                refine vv_sub (L' := [_, _, _, _]) [3, 1, 4, 0] rfl ?_
                have q := ih (i + 1) ⟨by omega, by omega, by simp [pu_okl, hf3, h11, g11, h26, g26, h30, h35, h42]⟩
                rw [pu_many_n (c := (fun i => pu_code w (nI i))) h42, pu_end_n (c := (fun i => pu_code w (nI i))) h42] at q
                exact q
              · refine vv_iconst (v := (1)) C dX2_lettersIn_45 (by decide) ?_
                refine vv_istore_n (i := 3) (L' := [_, _, _, _, _]) C dX2_lettersIn_46 rfl (by decide) rfl ?_
                refine vv_goto (tgt := 53) C dX2_lettersIn_47 (by decide) ?_
                refine vv_iincN (L' := [_, _, _, _, _]) (j := 4) C dX2_lettersIn_53 rfl (by decide) rfl ?_
                refine vv_goto (tgt := 7) C dX2_lettersIn_56 (by decide) ?_
                refine vv_sub (L' := [_, _, _, _]) [3, 4, 1, 0] rfl ?_
                have q := ih (i + 1) ⟨by omega, by omega, by simp [pu_okl, hf3, h11, g11, h26, g26, h30, h35, h42]⟩
                rw [pu_many_z (c := (fun i => pu_code w (nI i))) h42, pu_end_z (c := (fun i => pu_code w (nI i))) h42] at q
                exact q
            · refine vv_iconst (v := (-1)) C dX2_lettersIn_38 (by decide) ?_
              refine vv_fret C dX2_lettersIn_39 ?_
              rw [pu_okl_no (i := i) (by simp [pu_okl, h11, g11, h26, g26, h30, h35]) 8 (by omega)]; rfl
  refine vv_iconst (v := (nI 0)) C dX2_lettersIn_0 (by decide) ?_
  refine vv_istore_n (i := 2) (L' := [_, _]) C dX2_lettersIn_1 rfl (by decide) rfl ?_
  refine vv_iconst (v := (0)) C dX2_lettersIn_2 (by decide) ?_
  refine vv_istore_n (i := 3) (L' := [_, _, _]) C dX2_lettersIn_3 rfl (by decide) rfl ?_
  refine vv_iconst (v := (nI 0)) C dX2_lettersIn_4 (by decide) ?_
  refine vv_istore (L' := [_, _, _, _]) C dX2_lettersIn_5 (by decide) rfl ?_
  refine vv_sub (L' := [_, _, _, _]) [3, 2, 1, 0] rfl ?_
  exact lp7 9 0 ⟨by omega, by omega, rfl⟩
theorem yk_X2_append : vx_yV yX2_append cX2_append 5 none 2 := ⟨(tm_5 (List.mem_of_getElem? (i := 0) rfl)), (tm_1 (List.mem_of_getElem? (i := 15) rfl)), by decide +kernel, (tm_4 (List.mem_of_getElem? (i := 22) rfl)), (tm_4 (List.mem_of_getElem? (i := 23) rfl))⟩
set_option maxHeartbeats 4000000 in
set_option maxRecDepth 100000 in
theorem kk_X2_append (l : Launch) (g : vx_G) (S : vx_St) (w : Int64) (k : Nat) (z : Nat) (hz : S.1 1 0 = nI z) (hk : z + k ≤ 12) : vx_M l g yX2_append cX2_append 5 none (vx_R 1 22) [.ref (g.2.2.1 1), .long w, .int (nI k)] S (vx_pv (fun S' => pu_chg S S' [1, 2] ∧ S'.1 1 = upd (S.1 1) 0 (nI (z + k)) ∧ S'.1 2 = pu_app (S.1 2) (fun i => pu_code w (nI i)) z k)) := by
  refine vx_M.intro (by decide) (Nat.le_of_ble_eq_true rfl) ?_
  intro p e s m args below meth c C
  have lp3 : ∀ (fu : Nat) (i : Nat) (S1 : vx_St), (k - i < fu ∧ i ≤ k ∧ pu_chg S S1 [1, 2] ∧ S1.1 1 = upd (S.1 1) 0 (nI (z + i)) ∧ S1.1 2 = pu_app (S.1 2) (fun i => pu_code w (nI i)) z i) → vx_V p l e (vx_R 1 22) s m args below meth c (MQ below (vx_Q g (vx_pv (fun S' => pu_chg S S' [1, 2] ∧ S'.1 1 = upd (S.1 1) 0 (nI (z + k)) ∧ S'.1 2 = pu_app (S.1 2) (fun i => pu_code w (nI i)) z k))) args s 0 0 (vx_A g)) g 5 3 [(0, .ref (g.2.2.1 1)), (1, .long w), (3, .int (nI k)), (4, .int (nI i))] [] (S1) := by
    intro fu
    induction fu with
    | zero =>
      intro i S1 hfu
      exact absurd hfu.1 (by omega)
    | succ fu ih =>
      intro i S1 hfu
      obtain ⟨hf1, hf2, hc, r1, r2⟩ := hfu
      have hz1 : S1.1 1 0 = nI (z + i) := by rw [r1]; simp [upd]
      refine vv_iload C dX2_append_3 3 rfl ?_
      refine vv_iload_n C dX2_append_5 rfl 2 rfl ?_
      refine vv_icmp_ge (tgt := 49) C dX2_append_6 (by decide) (fun h6 => ?_) (fun h6 => ?_)
      · have hge := pu_geT rfl (by omega) (by omega) h6
        obtain rfl : k = i := by omega
        refine vv_nret C dX2_append_49 ?_
        exact ⟨hc, r1, r2⟩
      · have hlt := pu_geF rfl (by omega) (by omega) h6
        refine vv_aload_n C dX2_append_9 rfl 0 rfl ?_
        refine vv_getI C (a := 1) (k := 0) (o := 0) inlX2 rfl rfl rfl (by decide) rfl (tm_5 (List.mem_of_getElem? (i := 1) rfl)) dX2_append_10 ?_
        refine vv_bipush (v := (nI 12)) C dX2_append_13 (by decide) ?_
        refine vv_icmp_ge (tgt := 49) C dX2_append_15 (by decide) (fun h15 => ?_) (fun h15 => ?_)
        · rw [hz1] at h15
          exact absurd (pu_geT rfl (by omega) (by omega) h15) (by omega)
        · refine vv_aload_n C dX2_append_18 rfl 0 rfl ?_
          refine vv_gR C (a := 1) (k := 1) (b := 2) inlX2 rfl rfl rfl rfl (by decide) rfl (tm_2 (List.mem_of_getElem? (i := 12) rfl)) dX2_append_19 ?_
          refine vv_aload_n C dX2_append_22 rfl 0 rfl ?_
          refine vv_getI C (a := 1) (k := 0) (o := 0) inlX2 rfl rfl rfl (by decide) rfl (tm_5 (List.mem_of_getElem? (i := 1) rfl)) dX2_append_23 ?_
          rw [hz1]
          refine vv_lload_n C dX2_append_26 rfl 1 rfl ?_
          refine vv_iload C dX2_append_27 3 rfl ?_
          refine vv_cS_F C (kk_X2_codeIn l g _ _ _) yk_X2_codeIn (tm_4 (List.mem_of_getElem? (i := 19) rfl)) (by decide) rfl (Nat.le_of_ble_eq_true rfl) rfl dX2_append_29 ?_
          refine vv_iastN C (a := 2) rfl (show z + i < 12 by omega) (by decide) dX2_append_32 ?_
          refine vv_aload_n C dX2_append_33 rfl 0 rfl ?_
          refine vv_dup C dX2_append_34 rfl ?_
          refine vv_getI C (a := 1) (k := 0) (o := 0) inlX2 rfl rfl rfl (by decide) rfl (tm_5 (List.mem_of_getElem? (i := 1) rfl)) dX2_append_35 ?_
          refine vv_iconst (v := (1)) C dX2_append_38 (by decide) ?_
          refine vv_iadd C dX2_append_39 ?_
          refine vv_putI C (a := 1) (k := 0) inlX2 tyX2 tyX2_ok nmX2 rfl rfl rfl (by decide) rfl rfl rfl (tm_5 (List.mem_of_getElem? (i := 1) rfl)) dX2_append_40 ?_
          refine vv_iincN (L' := [_, _, _, _]) (j := 3) C dX2_append_43 rfl (by decide) rfl ?_
          refine vv_goto (tgt := 3) C dX2_append_46 (by decide) ?_
          refine vv_sub (L' := [_, _, _, _]) [1, 2, 3, 0] rfl ?_
          refine ih (i + 1) _ ⟨by omega, by omega, pu_chg_u (pu_chg_u hc _ _ (by simp)) _ _ (by simp), ?_, ?_⟩
          · rw [vx_u_row, vx_u_ne _ _ _ (by decide), hz1, r1, nI_1]; funext j; simp only [upd]; split <;> rfl
          · rw [vx_u_ne _ _ _ (by decide), vx_u_row, r2]; exact pu_app_s _ _ z i
  refine vv_iconst (v := (nI 0)) C dX2_append_0 (by decide) ?_
  refine vv_istore (L' := [_, _, _, _]) C dX2_append_1 (by decide) rfl ?_
  refine vv_sub (L' := [_, _, _, _]) [1, 2, 3, 0] rfl ?_
  exact lp3 (k + 1) 0 S ⟨by omega, by omega, pu_chg_rf S _, by funext j; simp only [upd, Nat.add_zero]; split <;> simp_all, (pu_app_0 _ _ _).symm⟩
theorem yk_X2_isDigit : vx_yS yX2_isDigit cX2_isDigit 3 (some .boolean) 3 := ⟨(tm_10 (List.mem_of_getElem? (i := 1) rfl)), (tm_1 (List.mem_of_getElem? (i := 15) rfl)), by decide +kernel, (tm_10 (List.mem_of_getElem? (i := 0) rfl))⟩
set_option maxHeartbeats 4000000 in
set_option maxRecDepth 100000 in
theorem kk_X2_isDigit (l : Launch) (g : vx_G) (S : vx_St) (q lo hi : Int32) : vx_M l g yX2_isDigit cX2_isDigit 3 (some .boolean) (vx_R 0 0) [.int q, .int lo, .int hi] S (vx_pf (vx_i (pu_dig q lo hi)) S) := by
  refine vx_M.intro (by decide) (Nat.le_of_ble_eq_true rfl) ?_
  intro p e s m args below meth c C
  refine vv_iload_n C dX2_isDigit_0 rfl 0 rfl ?_
  refine vv_bipush (v := (48)) C dX2_isDigit_1 (by decide) ?_
  refine vv_iload_n C dX2_isDigit_3 rfl 1 rfl ?_
  refine vv_iadd C dX2_isDigit_4 ?_
  refine vv_icmp_lt (tgt := 20) C dX2_isDigit_5 (by decide) (fun h5 => ?_) (fun h5 => ?_)
  · have g5 := pu_lt h5
    refine vv_iconst (v := (0)) C dX2_isDigit_20 (by decide) ?_
    refine vv_fzret C dX2_isDigit_21 rfl ?_
    simp [vx_i, pu_dig, h5, g5]
  · have g5 := pu_nlt h5
    refine vv_iload_n C dX2_isDigit_8 rfl 0 rfl ?_
    refine vv_bipush (v := (48)) C dX2_isDigit_9 (by decide) ?_
    refine vv_iload_n C dX2_isDigit_11 rfl 2 rfl ?_
    refine vv_iadd C dX2_isDigit_12 ?_
    refine vv_icmp_gt (tgt := 20) C dX2_isDigit_13 (by decide) (fun h13 => ?_) (fun h13 => ?_)
    · have g13 := pu_lt h13
      refine vv_iconst (v := (0)) C dX2_isDigit_20 (by decide) ?_
      refine vv_fzret C dX2_isDigit_21 rfl ?_
      simp [vx_i, pu_dig, h5, g5, h13, g13]
    · have g13 := pu_nlt h13
      refine vv_iconst (v := (1)) C dX2_isDigit_16 (by decide) ?_
      refine vv_goto (tgt := 21) C dX2_isDigit_17 (by decide) ?_
      refine vv_fzret C dX2_isDigit_21 rfl ?_
      simp [vx_i, pu_dig, h5, g5, h13, g13]
theorem yk_X2_digitAt : vx_yV yX2_digitAt cX2_digitAt 2 (some .int) 1 := ⟨(tm_10 (List.mem_of_getElem? (i := 5) rfl)), (tm_1 (List.mem_of_getElem? (i := 15) rfl)), by decide +kernel, (tm_10 (List.mem_of_getElem? (i := 3) rfl)), (tm_10 (List.mem_of_getElem? (i := 4) rfl))⟩
set_option maxHeartbeats 4000000 in
set_option maxRecDepth 100000 in
theorem kk_X2_digitAt (l : Launch) (g : vx_G) (S : vx_St) (i : Nat) (hi : i < 12) : vx_M l g yX2_digitAt cX2_digitAt 2 (some .int) (vx_R 0 0) [.ref (g.2.2.1 1), .int (nI i)] S (vx_pf (S.1 2 i - 48) S) := by
  refine vx_M.intro (by decide) (Nat.le_of_ble_eq_true rfl) ?_
  intro p e s m args below meth c C
  refine vv_aload_n C dX2_digitAt_0 rfl 0 rfl ?_
  refine vv_gR C (a := 1) (k := 1) (b := 2) inlX2 rfl rfl rfl rfl (by decide) rfl (tm_2 (List.mem_of_getElem? (i := 12) rfl)) dX2_digitAt_1 ?_
  refine vv_iload_n C dX2_digitAt_4 rfl 1 rfl ?_
  refine vv_ialdN C (a := 2) rfl (by omega) (by decide) dX2_digitAt_5 ?_
  refine vv_bipush (v := (48)) C dX2_digitAt_6 (by decide) ?_
  refine vv_isub C dX2_digitAt_8 ?_
  refine vv_fret C dX2_digitAt_9 ?_
  rfl
theorem yk_X2_kindOf : vx_yS yX2_kindOf cX2_kindOf 1 (some .int) 1 := ⟨(tm_6 (List.mem_of_getElem? (i := 5) rfl)), (tm_1 (List.mem_of_getElem? (i := 15) rfl)), by decide +kernel, (tm_6 (List.mem_of_getElem? (i := 4) rfl))⟩
theorem kk_X2_kindOf (l : Launch) (g : vx_G) (S : vx_St) (q : Int32) : vx_M l g yX2_kindOf cX2_kindOf 1 (some .int) (vx_R 4 91) [.int q] S (vx_pf (pu_kind q) S) := by
  refine vx_M.intro (by decide) (Nat.le_of_ble_eq_true rfl) ?_
  intro p e s m args below meth c C
  refine vv_ldcS2 C dX2_kindOf_0 ?_
  refine vv_iload_n C dX2_kindOf_2 rfl 0 rfl ?_
  refine vv_i2c C dX2_kindOf_3 ?_
  refine vv_cJ C (kk_J0_indexOf_0f7a4 l g S _) yk_J0_indexOf_0f7a4 (tm_6 (List.mem_of_getElem? (i := 6) rfl)) rfl (by decide) rfl (Nat.le_of_ble_eq_true rfl) rfl dX2_kindOf_4 ?_
  exact vv_fret C dX2_kindOf_7 rfl
theorem yk_X2_fits : vx_yV yX2_fits cX2_fits 4 (some .boolean) 2 := ⟨(tm_6 (List.mem_of_getElem? (i := 2) rfl)), (tm_1 (List.mem_of_getElem? (i := 15) rfl)), by decide +kernel, (tm_6 (List.mem_of_getElem? (i := 0) rfl)), (tm_6 (List.mem_of_getElem? (i := 1) rfl))⟩
set_option maxHeartbeats 4000000 in
set_option maxRecDepth 100000 in
theorem kk_X2_fits (l : Launch) (g : vx_G) (S : vx_St) (i : Nat) (hi : i < 12) (x : Int32) : vx_M l g yX2_fits cX2_fits 4 (some .boolean) (vx_R 5 111) [.ref (g.2.2.1 1), .int (nI i), .int x] S (vx_pf (vx_i (pu_fits (S.1 2) x i)) S) := by
  refine vx_M.intro (by decide) (Nat.le_of_ble_eq_true rfl) ?_
  intro p e s m args below meth c C
  refine vv_aload_n C dX2_fits_0 rfl 0 rfl ?_
  refine vv_gR C (a := 1) (k := 1) (b := 2) inlX2 rfl rfl rfl rfl (by decide) rfl (tm_2 (List.mem_of_getElem? (i := 12) rfl)) dX2_fits_1 ?_
  refine vv_iload_n C dX2_fits_4 rfl 1 rfl ?_
  refine vv_ialdN C (a := 2) rfl (by omega) (by decide) dX2_fits_5 ?_
  refine vv_istore_n (i := 3) (L' := [_, _, _, _]) C dX2_fits_6 rfl (by decide) rfl ?_
  refine vv_iload_n C dX2_fits_7 rfl 2 rfl ?_
  rcases (show i = 0 ∨ i = 1 ∨ i = 2 ∨ i = 3 ∨ i = 4 ∨ i = 5 ∨ 6 ≤ i by omega) with rfl | rfl | rfl | rfl | rfl | rfl | h6
  · refine vv_tableIn (tgt := 48) C dX2_fits_8 (by decide) (by decide) rfl (by decide) ?_
    refine vv_iload_n C dX2_fits_48 rfl 0 rfl ?_
    refine vv_cS_F C (kk_X2_kindOf l g _ _) yk_X2_kindOf (tm_6 (List.mem_of_getElem? (i := 3) rfl)) (by decide) rfl (Nat.le_of_ble_eq_true rfl) rfl dX2_fits_49 ?_
    refine vv_if_lt (tgt := 59) C dX2_fits_52 (by decide) (fun h52 => ?_) (fun h52 => ?_)
    · have g52 := pu_lt h52
      refine vv_iconst (v := (0)) C dX2_fits_59 (by decide) ?_
      refine vv_fzret C dX2_fits_60 rfl ?_
      simp [vx_i, pu_fits, h52, g52]
    · have g52 := pu_nlt h52
      refine vv_iconst (v := (1)) C dX2_fits_55 (by decide) ?_
      refine vv_goto (tgt := 60) C dX2_fits_56 (by decide) ?_
      refine vv_fzret C dX2_fits_60 rfl ?_
      simp [vx_i, pu_fits, h52, g52]
  · refine vv_tableIn (tgt := 61) C dX2_fits_8 (by decide) (by decide) rfl (by decide) ?_
    refine vv_iload_n C dX2_fits_61 rfl 0 rfl ?_
    refine vv_bipush (v := (45)) C dX2_fits_62 (by decide) ?_
    refine vv_icmp_eq (tgt := 78) C dX2_fits_64 (by decide) (fun h64 => ?_) (fun h64 => ?_)
    · refine vv_iconst (v := (1)) C dX2_fits_78 (by decide) ?_
      refine vv_goto (tgt := 83) C dX2_fits_79 (by decide) ?_
      refine vv_fzret C dX2_fits_83 rfl ?_
      simp [vx_i, pu_fits, h64]
    · refine vv_iload_n C dX2_fits_67 rfl 0 rfl ?_
      refine vv_iconst (v := (0)) C dX2_fits_68 (by decide) ?_
      refine vv_iload_n C dX2_fits_69 rfl 3 rfl ?_
      refine vv_iconst (v := (1)) C dX2_fits_70 (by decide) ?_
      refine vv_isub C dX2_fits_71 ?_
      refine vv_cS_F C (kk_X2_isDigit l g _ _ _ _) yk_X2_isDigit (tm_9 (List.mem_of_getElem? (i := 23) rfl)) (by decide) rfl (Nat.le_of_ble_eq_true rfl) rfl dX2_fits_72 ?_
      refine vv_ifb_eq (tgt := 82) C dX2_fits_75 (by decide) (fun h75 => ?_) (fun h75 => ?_)
      · refine vv_iconst (v := (0)) C dX2_fits_82 (by decide) ?_
        refine vv_fzret C dX2_fits_83 rfl ?_
        simp [vx_i, pu_fits, h64, h75]
      · refine vv_iconst (v := (1)) C dX2_fits_78 (by decide) ?_
        refine vv_goto (tgt := 83) C dX2_fits_79 (by decide) ?_
        refine vv_fzret C dX2_fits_83 rfl ?_
        simp [vx_i, pu_fits, h64, h75]
  · refine vv_tableIn (tgt := 84) C dX2_fits_8 (by decide) (by decide) rfl (by decide) ?_
    refine vv_iload_n C dX2_fits_84 rfl 0 rfl ?_
    refine vv_iconst (v := (0)) C dX2_fits_85 (by decide) ?_
    refine vv_bipush (v := (8)) C dX2_fits_86 (by decide) ?_
    refine vv_cS_F C (kk_X2_isDigit l g _ _ _ _) yk_X2_isDigit (tm_9 (List.mem_of_getElem? (i := 23) rfl)) (by decide) rfl (Nat.le_of_ble_eq_true rfl) rfl dX2_fits_88 ?_
    refine vv_fzret C dX2_fits_91 (vx_i_b _) ?_
    rfl
  · refine vv_tableIn (tgt := 92) C dX2_fits_8 (by decide) (by decide) rfl (by decide) ?_
    refine vv_iload_n C dX2_fits_92 rfl 0 rfl ?_
    refine vv_aload_n C dX2_fits_93 rfl 1 rfl ?_
    refine vv_iconst (v := (nI 2)) C dX2_fits_94 (by decide) ?_
    refine vv_cV_F C (a := 1) (kk_X2_digitAt l g _ _ (by omega)) yk_X2_digitAt (tm_10 (List.mem_of_getElem? (i := 2) rfl)) rfl rfl rfl (by decide) rfl (Nat.le_of_ble_eq_true rfl) rfl dX2_fits_95 ?_
    refine vv_iconst (v := (1)) C dX2_fits_98 (by decide) ?_
    refine vv_iadd C dX2_fits_99 ?_
    refine vv_bipush (v := (9)) C dX2_fits_100 (by decide) ?_
    refine vv_cS_F C (kk_X2_isDigit l g _ _ _ _) yk_X2_isDigit (tm_9 (List.mem_of_getElem? (i := 23) rfl)) (by decide) rfl (Nat.le_of_ble_eq_true rfl) rfl dX2_fits_102 ?_
    refine vv_fzret C dX2_fits_105 (vx_i_b _) ?_
    rfl
  · refine vv_tableIn (tgt := 106) C dX2_fits_8 (by decide) (by decide) rfl (by decide) ?_
    refine vv_iload_n C dX2_fits_106 rfl 0 rfl ?_
    refine vv_iconst (v := (1)) C dX2_fits_107 (by decide) ?_
    refine vv_bipush (v := (9)) C dX2_fits_108 (by decide) ?_
    refine vv_cS_F C (kk_X2_isDigit l g _ _ _ _) yk_X2_isDigit (tm_9 (List.mem_of_getElem? (i := 23) rfl)) (by decide) rfl (Nat.le_of_ble_eq_true rfl) rfl dX2_fits_110 ?_
    refine vv_fzret C dX2_fits_113 (vx_i_b _) ?_
    rfl
  · refine vv_tableIn (tgt := 114) C dX2_fits_8 (by decide) (by decide) rfl (by decide) ?_
    refine vv_iload_n C dX2_fits_114 rfl 0 rfl ?_
    refine vv_iconst (v := (0)) C dX2_fits_115 (by decide) ?_
    refine vv_bipush (v := (9)) C dX2_fits_116 (by decide) ?_
    refine vv_cS_F C (kk_X2_isDigit l g _ _ _ _) yk_X2_isDigit (tm_9 (List.mem_of_getElem? (i := 23) rfl)) (by decide) rfl (Nat.le_of_ble_eq_true rfl) rfl dX2_fits_118 ?_
    refine vv_fzret C dX2_fits_121 (vx_i_b _) ?_
    rfl
  · refine vv_tableOut (tgt := 122) C dX2_fits_8 (Or.inr (by rw [nI_toInt (by omega)]; omega)) (by decide) ?_
    refine vv_iconst (v := (0)) C dX2_fits_122 (by decide) ?_
    refine vv_fzret C dX2_fits_123 rfl ?_
    simp only [pu_fits, show ¬ i = 0 by omega, show ¬ i = 1 by omega, show ¬ i = 2 by omega, show ¬ i = 3 by omega, show ¬ i = 4 by omega, show ¬ i = 5 by omega, if_false]; rfl
theorem yk_X2_faultAt : vx_yV yX2_faultAt cX2_faultAt 3 (some .int) 1 := ⟨(tm_5 (List.mem_of_getElem? (i := 22) rfl)), (tm_1 (List.mem_of_getElem? (i := 15) rfl)), by decide +kernel, (tm_5 (List.mem_of_getElem? (i := 20) rfl)), (tm_5 (List.mem_of_getElem? (i := 21) rfl))⟩
set_option maxHeartbeats 4000000 in
set_option maxRecDepth 100000 in
theorem kk_X2_faultAt (l : Launch) (g : vx_G) (S : vx_St) (x : Int32) (z : Nat) (hz : S.1 1 0 = nI z) (hz12 : z ≤ 12) : vx_M l g yX2_faultAt cX2_faultAt 3 (some .int) (vx_R 6 134) [.ref (g.2.2.1 1), .int x] S (vx_pf (nI (pu_fst (pu_fits (S.1 2) x) z)) S) := by
  refine vx_M.intro (by decide) (Nat.le_of_ble_eq_true rfl) ?_
  intro p e s m args below meth c C
  have lp2 : ∀ (fu : Nat) (i : Nat), (z - i < fu ∧ i ≤ z ∧ ∀ j, j < i → pu_fits (S.1 2) x j = true) → vx_V p l e (vx_R 6 134) s m args below meth c (MQ below (vx_Q g (vx_pf (nI (pu_fst (pu_fits (S.1 2) x) z)) S)) args s 0 0 (vx_A g)) g 3 2 [(0, .ref (g.2.2.1 1)), (1, .int x), (2, .int (nI i))] [] (S) := by
    intro fu
    induction fu with
    | zero =>
      intro i hfu
      exact absurd hfu.1 (by omega)
    | succ fu ih =>
      intro i hfu
      obtain ⟨hf1, hf2, hf3⟩ := hfu
      refine vv_iload_n C dX2_faultAt_2 rfl 2 rfl ?_
      refine vv_aload_n C dX2_faultAt_3 rfl 0 rfl ?_
      refine vv_getI C (a := 1) (k := 0) (o := 0) inlX2 rfl rfl rfl (by decide) rfl (tm_5 (List.mem_of_getElem? (i := 1) rfl)) dX2_faultAt_4 ?_
      refine vv_icmp_ge (tgt := 27) C dX2_faultAt_7 (by decide) (fun h7 => ?_) (fun h7 => ?_)
      · have hge := pu_geT hz (by omega) (by omega) h7
        obtain rfl : z = i := by omega
        refine vv_aload_n C dX2_faultAt_27 rfl 0 rfl ?_
        refine vv_getI C (a := 1) (k := 0) (o := 0) inlX2 rfl rfl rfl (by decide) rfl (tm_5 (List.mem_of_getElem? (i := 1) rfl)) dX2_faultAt_28 ?_
        refine vv_fret C dX2_faultAt_31 ?_
        rw [pu_fst_all z hf3]; exact hz
      · have hlt := pu_geF hz (by omega) (by omega) h7
        refine vv_aload_n C dX2_faultAt_10 rfl 0 rfl ?_
        refine vv_iload_n C dX2_faultAt_11 rfl 2 rfl ?_
        refine vv_iload_n C dX2_faultAt_12 rfl 1 rfl ?_
        refine vv_cV_F C (a := 1) (kk_X2_fits l g _ _ (by omega) _) yk_X2_fits (tm_5 (List.mem_of_getElem? (i := 23) rfl)) rfl rfl rfl (by decide) rfl (Nat.le_of_ble_eq_true rfl) rfl dX2_faultAt_13 ?_
        refine vv_ifb_ne (tgt := 21) C dX2_faultAt_16 (by decide) (fun h16 => ?_) (fun h16 => ?_)
        · refine vv_iincN (L' := [_, _, _]) (j := 2) C dX2_faultAt_21 rfl (by decide) rfl ?_
          refine vv_goto (tgt := 2) C dX2_faultAt_24 (by decide) ?_
          refine vv_sub (L' := [_, _, _]) [1, 2, 0] rfl ?_
          exact ih (i + 1) ⟨by omega, by omega, fun j hj => by rcases Nat.lt_or_ge j i with q | q; exact hf3 j q; rw [show j = i by omega]; exact h16⟩
        · refine vv_iload_n C dX2_faultAt_19 rfl 2 rfl ?_
          refine vv_fret C dX2_faultAt_20 ?_
          rw [pu_fst_at hf3 h16 z hlt]
  refine vv_iconst (v := (nI 0)) C dX2_faultAt_0 (by decide) ?_
  refine vv_istore_n (i := 2) (L' := [_, _, _]) C dX2_faultAt_1 rfl (by decide) rfl ?_
  refine vv_sub (L' := [_, _, _]) [1, 2, 0] rfl ?_
  exact lp2 (z + 1) 0 ⟨by omega, by omega, fun j hj => absurd hj (Nat.not_lt_zero j)⟩
theorem yk_X2_isHouse : vx_yV yX2_isHouse cX2_isHouse 2 (some .boolean) 1 := ⟨(tm_11 (List.mem_of_getElem? (i := 7) rfl)), (tm_1 (List.mem_of_getElem? (i := 15) rfl)), by decide +kernel, (tm_11 (List.mem_of_getElem? (i := 5) rfl)), (tm_11 (List.mem_of_getElem? (i := 6) rfl))⟩
set_option maxHeartbeats 4000000 in
set_option maxRecDepth 100000 in
theorem kk_X2_isHouse (l : Launch) (g : vx_G) (S : vx_St) (x : Int32) (z : Nat) (hz : S.1 1 0 = nI z) (hz12 : z ≤ 12) : vx_M l g yX2_isHouse cX2_isHouse 2 (some .boolean) (vx_R 7 156) [.ref (g.2.2.1 1), .int x] S (vx_pf (vx_i (decide (z = 6) && decide (pu_fst (pu_fits (S.1 2) x) z = z))) S) := by
  refine vx_M.intro (by decide) (Nat.le_of_ble_eq_true rfl) ?_
  intro p e s m args below meth c C
  refine vv_aload_n C dX2_isHouse_0 rfl 0 rfl ?_
  refine vv_getI C (a := 1) (k := 0) (o := 0) inlX2 rfl rfl rfl (by decide) rfl (tm_5 (List.mem_of_getElem? (i := 1) rfl)) dX2_isHouse_1 ?_
  refine vv_bipush (v := (nI 6)) C dX2_isHouse_4 (by decide) ?_
  refine vv_icmp_ne (tgt := 25) C dX2_isHouse_6 (by decide) (fun h6 => ?_) (fun h6 => ?_)
  · rw [hz, nI_eq (by omega) (by omega)] at h6
    refine vv_iconst (v := (0)) C dX2_isHouse_25 (by decide) ?_
    refine vv_fzret C dX2_isHouse_26 rfl ?_
    simp_all [vx_i]
  · rw [hz, nI_eq (by omega) (by omega)] at h6
    refine vv_aload_n C dX2_isHouse_9 rfl 0 rfl ?_
    refine vv_iload_n C dX2_isHouse_10 rfl 1 rfl ?_
    refine vv_cV_F C (a := 1) (kk_X2_faultAt l g _ _ z hz hz12) yk_X2_faultAt (tm_11 (List.mem_of_getElem? (i := 8) rfl)) rfl rfl rfl (by decide) rfl (Nat.le_of_ble_eq_true rfl) rfl dX2_isHouse_11 ?_
    refine vv_aload_n C dX2_isHouse_14 rfl 0 rfl ?_
    refine vv_getI C (a := 1) (k := 0) (o := 0) inlX2 rfl rfl rfl (by decide) rfl (tm_5 (List.mem_of_getElem? (i := 1) rfl)) dX2_isHouse_15 ?_
    refine vv_icmp_ne (tgt := 25) C dX2_isHouse_18 (by decide) (fun h18 => ?_) (fun h18 => ?_)
    · have hb : pu_fst (pu_fits (S.1 2) x) z ≤ z := pu_fst_le _ z
      rw [hz, nI_eq (by omega) (by omega)] at h18
      refine vv_iconst (v := (0)) C dX2_isHouse_25 (by decide) ?_
      refine vv_fzret C dX2_isHouse_26 rfl ?_
      simp_all [vx_i]
    · have hb : pu_fst (pu_fits (S.1 2) x) z ≤ z := pu_fst_le _ z
      rw [hz, nI_eq (by omega) (by omega)] at h18
      refine vv_iconst (v := (1)) C dX2_isHouse_21 (by decide) ?_
      refine vv_goto (tgt := 26) C dX2_isHouse_22 (by decide) ?_
      refine vv_fzret C dX2_isHouse_26 rfl ?_
      simp_all [vx_i]
