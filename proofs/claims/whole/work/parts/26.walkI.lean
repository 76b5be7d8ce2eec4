theorem yk_X5_house : vx_yV yX5_house cX5_house 1 (some .int) 0 := ⟨(tm_12 (List.mem_of_getElem? (i := 2) rfl)), (tm_1 (List.mem_of_getElem? (i := 5) rfl)), by decide +kernel, (tm_12 (List.mem_of_getElem? (i := 0) rfl)), (tm_12 (List.mem_of_getElem? (i := 1) rfl))⟩
set_option maxHeartbeats 4000000 in
set_option maxRecDepth 100000 in
theorem kk_X5_house (l : Launch) (g : vx_G) (S : vx_St) (z : Nat) (hz : S.1 35 20 = nI z) (hz12 : z ≤ 12) (n : Nat) (hn : S.1 35 0 = nI n) (hn8 : n ≤ 8) : vx_M l g yX5_house cX5_house 1 (some .int) (vx_R 3 65) [.ref (g.2.2.1 35)] S (vx_pi (fun r S' => r = am_hou (S.1 46) z (S.1 35 0) (S.1 35 12) n ∧ (am_hB (S.1 46) z (S.1 35 0) (S.1 35 12) n = false → S' = S) ∧ (am_hB (S.1 46) z (S.1 35 0) (S.1 35 12) n = true → pu_chg S S' [35, 36, 37, 38, 39, 40, 41, 42, 43] ∧ S'.1 35 = upd (upd (upd (S.1 35) 9 (S.1 35 9 &&& (pu_bit (nI n) ^^^ -1))) 0 (nI (n + 1))) 20 0 ∧ S'.1 36 = upd (S.1 36) n (pm_kind (S.1 46 0)) ∧ S'.1 37 = upd (S.1 37) n (pu_par (S.1 46 1)) ∧ S'.1 38 = upd (S.1 38) n (S.1 46 2 - 48) ∧ S'.1 39 = upd (S.1 39) n (S.1 46 3 - 48) ∧ S'.1 40 = upd (S.1 40) n (S.1 46 4 - 48) ∧ S'.1 41 = upd (S.1 41) n (S.1 46 5 - 48) ∧ S'.1 42 = upd (S.1 42) n 0 ∧ S'.1 43 = upd (S.1 43) n 0))) := by
  refine vx_M.intro (by decide) (Nat.le_of_ble_eq_true rfl) ?_
  intro p e s m args below meth c C
  refine vv_aload_n C dX5_house_0 rfl 0 rfl ?_
  refine vv_cV_F C (a := 35) (kk_X5_faultNow l g _ z hz hz12) yk_X5_faultNow (tm_10 (List.mem_of_getElem? (i := 10) rfl)) rfl rfl rfl (by decide) rfl (Nat.le_of_ble_eq_true rfl) rfl dX5_house_1 ?_
  refine vv_aload_n C dX5_house_4 rfl 0 rfl ?_
  refine vv_getI C (a := 35) (k := 20) (o := 0) inlX5 rfl rfl rfl (by decide) rfl (tm_5 (List.mem_of_getElem? (i := 7) rfl)) dX5_house_5 ?_
  refine vv_icmp_lt (tgt := 27) C dX5_house_8 (by decide) (fun h8 => ?_) (fun h8 => ?_)
  · have g8 := pu_lt h8
    have hfz : ¬ pu_fst (fun k => pm_may (S.1 46) (S.1 35 0) k (S.1 46 k)) z = z := by rw [hz] at h8; have := pu_gtT (x := nI (pu_fst (fun k => pm_may (S.1 46) (S.1 35 0) k (S.1 46 k)) z)) rfl (by have := pu_fst_le (fun k => pm_may (S.1 46) (S.1 35 0) k (S.1 46 k)) z; omega) (by omega) h8; omega
    refine vv_bipush (v := (-103)) C dX5_house_27 (by decide) ?_
    refine vv_jret C dX5_house_29 ?_
    exact ⟨by simp [am_hou, hfz], fun _ => rfl, fun q => by simp [am_hB, hfz] at q⟩
  · have g8 := pu_nlt h8
    have hfz : pu_fst (fun k => pm_may (S.1 46) (S.1 35 0) k (S.1 46 k)) z = z := by rw [hz] at h8; have h9 := pu_fst_le (fun k => pm_may (S.1 46) (S.1 35 0) k (S.1 46 k)) z; have := pu_gtF (x := nI (pu_fst (fun k => pm_may (S.1 46) (S.1 35 0) k (S.1 46 k)) z)) rfl (by omega) (by omega) h8; omega
    refine vv_aload_n C dX5_house_11 rfl 0 rfl ?_
    refine vv_getI C (a := 35) (k := 20) (o := 0) inlX5 rfl rfl rfl (by decide) rfl (tm_5 (List.mem_of_getElem? (i := 7) rfl)) dX5_house_12 ?_
    refine vv_bipush (v := (nI 6)) C dX5_house_15 (by decide) ?_
    refine vv_icmp_ne (tgt := 27) C dX5_house_17 (by decide) (fun h17 => ?_) (fun h17 => ?_)
    · rw [hz, nI_eq (by omega) (by omega)] at h17
      refine vv_bipush (v := (-103)) C dX5_house_27 (by decide) ?_
      refine vv_jret C dX5_house_29 ?_
      exact ⟨by simp [am_hou, hfz, h17], fun _ => rfl, fun q => by simp [am_hB, hfz, h17] at q⟩
    · rw [hz, nI_eq (by omega) (by omega)] at h17
      refine vv_aload_n C dX5_house_20 rfl 0 rfl ?_
      refine vv_getI C (a := 35) (k := 12) (o := 0) inlX5 rfl rfl rfl (by decide) rfl (tm_12 (List.mem_of_getElem? (i := 3) rfl)) dX5_house_21 ?_
      refine vv_if_le (tgt := 30) C dX5_house_24 (by decide) (fun h24 => ?_) (fun h24 => ?_)
      · have g24 := pu_le h24
        refine vv_aload_n C dX5_house_30 rfl 0 rfl ?_
        refine vv_getI C (a := 35) (k := 0) (o := 0) inlX5 rfl rfl rfl (by decide) rfl (tm_10 (List.mem_of_getElem? (i := 18) rfl)) dX5_house_31 ?_
        refine vv_bipush (v := (nI 8)) C dX5_house_34 (by decide) ?_
        refine vv_icmp_ne (tgt := 42) C dX5_house_36 (by decide) (fun h36 => ?_) (fun h36 => ?_)
        · rw [hn, nI_eq (by omega) (by omega)] at h36
          have hlt : n < 8 := by omega
          refine vv_aload_n C dX5_house_42 rfl 0 rfl ?_
          refine vv_gR C (a := 35) (k := 1) (b := 36) inlX5 rfl rfl rfl rfl (by decide) rfl (tm_3 (List.mem_of_getElem? (i := 18) rfl)) dX5_house_43 ?_
          refine vv_aload_n C dX5_house_46 rfl 0 rfl ?_
          refine vv_getI C (a := 35) (k := 0) (o := 0) inlX5 rfl rfl rfl (by decide) rfl (tm_10 (List.mem_of_getElem? (i := 18) rfl)) dX5_house_47 ?_
          rw [hn] at hfz
          rw [hn]
          refine vv_aload_n C dX5_house_50 rfl 0 rfl ?_
          refine vv_gR C (a := 35) (k := 21) (b := 46) inlX5 rfl rfl rfl rfl (by decide) rfl (tm_4 (List.mem_of_getElem? (i := 7) rfl)) dX5_house_51 ?_
          refine vv_iconst (v := (nI 0)) C dX5_house_54 (by decide) ?_
          refine vv_baldN C (a := 46) rfl (by omega) (by decide) dX5_house_55 ?_
          refine vv_cS_F C (kk_X5_kindBy l g _ _) yk_X5_kindBy (tm_10 (List.mem_of_getElem? (i := 19) rfl)) (by decide) rfl (Nat.le_of_ble_eq_true rfl) rfl dX5_house_56 ?_
          refine vv_iastN C (a := 36) rfl (by omega) (by decide) dX5_house_59 ?_
          refine vv_aload_n C dX5_house_60 rfl 0 rfl ?_
          refine vv_gR C (a := 35) (k := 2) (b := 37) inlX5 rfl rfl rfl rfl (by decide) rfl (tm_3 (List.mem_of_getElem? (i := 19) rfl)) dX5_house_61 ?_
          refine vv_aload_n C dX5_house_64 rfl 0 rfl ?_
          refine vv_getI C (a := 35) (k := 0) (o := 0) inlX5 rfl rfl rfl (by decide) rfl (tm_10 (List.mem_of_getElem? (i := 18) rfl)) dX5_house_65 ?_
          simp only [vx_u_if, reduceIte, Nat.reduceEqDiff]
          rw [hn]
          refine vv_aload_n C dX5_house_68 rfl 0 rfl ?_
          refine vv_gR C (a := 35) (k := 21) (b := 46) inlX5 rfl rfl rfl rfl (by decide) rfl (tm_4 (List.mem_of_getElem? (i := 7) rfl)) dX5_house_69 ?_
          refine vv_iconst (v := (nI 1)) C dX5_house_72 (by decide) ?_
          refine vv_baldN C (a := 46) rfl (by omega) (by decide) dX5_house_73 ?_
          simp only [vx_u_if, reduceIte, Nat.reduceEqDiff]
          refine vv_bipush (v := (45)) C dX5_house_74 (by decide) ?_
          refine vv_icmp_ne (tgt := 83) C dX5_house_76 (by decide) (fun h76 => ?_) (fun h76 => ?_)
          · refine vv_aload_n C dX5_house_83 rfl 0 rfl ?_
            refine vv_gR C (a := 35) (k := 21) (b := 46) inlX5 rfl rfl rfl rfl (by decide) rfl (tm_4 (List.mem_of_getElem? (i := 7) rfl)) dX5_house_84 ?_
            refine vv_iconst (v := (nI 1)) C dX5_house_87 (by decide) ?_
            refine vv_baldN C (a := 46) rfl (by omega) (by decide) dX5_house_88 ?_
            simp only [vx_u_if, reduceIte, Nat.reduceEqDiff]
            refine vv_bipush (v := (48)) C dX5_house_89 (by decide) ?_
            refine vv_isub C dX5_house_91 ?_
            refine vv_iastN C (a := 37) rfl (by omega) (by decide) dX5_house_92 ?_
            refine vv_aload_n C dX5_house_93 rfl 0 rfl ?_
            refine vv_gR C (a := 35) (k := 3) (b := 38) inlX5 rfl rfl rfl rfl (by decide) rfl (tm_3 (List.mem_of_getElem? (i := 20) rfl)) dX5_house_94 ?_
            refine vv_aload_n C dX5_house_97 rfl 0 rfl ?_
            refine vv_getI C (a := 35) (k := 0) (o := 0) inlX5 rfl rfl rfl (by decide) rfl (tm_10 (List.mem_of_getElem? (i := 18) rfl)) dX5_house_98 ?_
            simp only [vx_u_if, reduceIte, Nat.reduceEqDiff]
            rw [hn]
            refine vv_aload_n C dX5_house_101 rfl 0 rfl ?_
            refine vv_gR C (a := 35) (k := 21) (b := 46) inlX5 rfl rfl rfl rfl (by decide) rfl (tm_4 (List.mem_of_getElem? (i := 7) rfl)) dX5_house_102 ?_
            refine vv_iconst (v := (nI 2)) C dX5_house_105 (by decide) ?_
            refine vv_baldN C (a := 46) rfl (by omega) (by decide) dX5_house_106 ?_
            simp only [vx_u_if, reduceIte, Nat.reduceEqDiff]
            refine vv_bipush (v := (48)) C dX5_house_107 (by decide) ?_
            refine vv_isub C dX5_house_109 ?_
            refine vv_iastN C (a := 38) rfl (by omega) (by decide) dX5_house_110 ?_
            refine vv_aload_n C dX5_house_111 rfl 0 rfl ?_
            refine vv_gR C (a := 35) (k := 4) (b := 39) inlX5 rfl rfl rfl rfl (by decide) rfl (tm_3 (List.mem_of_getElem? (i := 21) rfl)) dX5_house_112 ?_
            refine vv_aload_n C dX5_house_115 rfl 0 rfl ?_
            refine vv_getI C (a := 35) (k := 0) (o := 0) inlX5 rfl rfl rfl (by decide) rfl (tm_10 (List.mem_of_getElem? (i := 18) rfl)) dX5_house_116 ?_
            simp only [vx_u_if, reduceIte, Nat.reduceEqDiff]
            rw [hn]
            refine vv_aload_n C dX5_house_119 rfl 0 rfl ?_
            refine vv_gR C (a := 35) (k := 21) (b := 46) inlX5 rfl rfl rfl rfl (by decide) rfl (tm_4 (List.mem_of_getElem? (i := 7) rfl)) dX5_house_120 ?_
            refine vv_iconst (v := (nI 3)) C dX5_house_123 (by decide) ?_
            refine vv_baldN C (a := 46) rfl (by omega) (by decide) dX5_house_124 ?_
            simp only [vx_u_if, reduceIte, Nat.reduceEqDiff]
            refine vv_bipush (v := (48)) C dX5_house_125 (by decide) ?_
            refine vv_isub C dX5_house_127 ?_
            refine vv_iastN C (a := 39) rfl (by omega) (by decide) dX5_house_128 ?_
            refine vv_aload_n C dX5_house_129 rfl 0 rfl ?_
            refine vv_gR C (a := 35) (k := 5) (b := 40) inlX5 rfl rfl rfl rfl (by decide) rfl (tm_3 (List.mem_of_getElem? (i := 22) rfl)) dX5_house_130 ?_
            refine vv_aload_n C dX5_house_133 rfl 0 rfl ?_
            refine vv_getI C (a := 35) (k := 0) (o := 0) inlX5 rfl rfl rfl (by decide) rfl (tm_10 (List.mem_of_getElem? (i := 18) rfl)) dX5_house_134 ?_
            simp only [vx_u_if, reduceIte, Nat.reduceEqDiff]
            rw [hn]
            refine vv_aload_n C dX5_house_137 rfl 0 rfl ?_
            refine vv_gR C (a := 35) (k := 21) (b := 46) inlX5 rfl rfl rfl rfl (by decide) rfl (tm_4 (List.mem_of_getElem? (i := 7) rfl)) dX5_house_138 ?_
            refine vv_iconst (v := (nI 4)) C dX5_house_141 (by decide) ?_
            refine vv_baldN C (a := 46) rfl (by omega) (by decide) dX5_house_142 ?_
            simp only [vx_u_if, reduceIte, Nat.reduceEqDiff]
            refine vv_bipush (v := (48)) C dX5_house_143 (by decide) ?_
            refine vv_isub C dX5_house_145 ?_
            refine vv_iastN C (a := 40) rfl (by omega) (by decide) dX5_house_146 ?_
            refine vv_aload_n C dX5_house_147 rfl 0 rfl ?_
            refine vv_gR C (a := 35) (k := 6) (b := 41) inlX5 rfl rfl rfl rfl (by decide) rfl (tm_3 (List.mem_of_getElem? (i := 23) rfl)) dX5_house_148 ?_
            refine vv_aload_n C dX5_house_151 rfl 0 rfl ?_
            refine vv_getI C (a := 35) (k := 0) (o := 0) inlX5 rfl rfl rfl (by decide) rfl (tm_10 (List.mem_of_getElem? (i := 18) rfl)) dX5_house_152 ?_
            simp only [vx_u_if, reduceIte, Nat.reduceEqDiff]
            rw [hn]
            refine vv_aload_n C dX5_house_155 rfl 0 rfl ?_
            refine vv_gR C (a := 35) (k := 21) (b := 46) inlX5 rfl rfl rfl rfl (by decide) rfl (tm_4 (List.mem_of_getElem? (i := 7) rfl)) dX5_house_156 ?_
            refine vv_iconst (v := (nI 5)) C dX5_house_159 (by decide) ?_
            refine vv_baldN C (a := 46) rfl (by omega) (by decide) dX5_house_160 ?_
            simp only [vx_u_if, reduceIte, Nat.reduceEqDiff]
            refine vv_bipush (v := (48)) C dX5_house_161 (by decide) ?_
            refine vv_isub C dX5_house_163 ?_
            refine vv_iastN C (a := 41) rfl (by omega) (by decide) dX5_house_164 ?_
            refine vv_aload_n C dX5_house_165 rfl 0 rfl ?_
            refine vv_gR C (a := 35) (k := 7) (b := 42) inlX5 rfl rfl rfl rfl (by decide) rfl (tm_4 (List.mem_of_getElem? (i := 0) rfl)) dX5_house_166 ?_
            refine vv_aload_n C dX5_house_169 rfl 0 rfl ?_
            refine vv_getI C (a := 35) (k := 0) (o := 0) inlX5 rfl rfl rfl (by decide) rfl (tm_10 (List.mem_of_getElem? (i := 18) rfl)) dX5_house_170 ?_
            simp only [vx_u_if, reduceIte, Nat.reduceEqDiff]
            rw [hn]
            refine vv_iconst (v := (0)) C dX5_house_173 (by decide) ?_
            refine vv_iastN C (a := 42) rfl (by omega) (by decide) dX5_house_174 ?_
            refine vv_aload_n C dX5_house_175 rfl 0 rfl ?_
            refine vv_gR C (a := 35) (k := 8) (b := 43) inlX5 rfl rfl rfl rfl (by decide) rfl (tm_4 (List.mem_of_getElem? (i := 1) rfl)) dX5_house_176 ?_
            refine vv_aload_n C dX5_house_179 rfl 0 rfl ?_
            refine vv_getI C (a := 35) (k := 0) (o := 0) inlX5 rfl rfl rfl (by decide) rfl (tm_10 (List.mem_of_getElem? (i := 18) rfl)) dX5_house_180 ?_
            simp only [vx_u_if, reduceIte, Nat.reduceEqDiff]
            rw [hn]
            refine vv_iconst (v := (0)) C dX5_house_183 (by decide) ?_
            refine vv_iastN C (a := 43) rfl (by omega) (by decide) dX5_house_184 ?_
            refine vv_aload_n C dX5_house_185 rfl 0 rfl ?_
            refine vv_dup C dX5_house_186 rfl ?_
            refine vv_getI C (a := 35) (k := 9) (o := 0) inlX5 rfl rfl rfl (by decide) rfl (tm_12 (List.mem_of_getElem? (i := 4) rfl)) dX5_house_187 ?_
            refine vv_iconst (v := (1)) C dX5_house_190 (by decide) ?_
            refine vv_aload_n C dX5_house_191 rfl 0 rfl ?_
            refine vv_getI C (a := 35) (k := 0) (o := 0) inlX5 rfl rfl rfl (by decide) rfl (tm_10 (List.mem_of_getElem? (i := 18) rfl)) dX5_house_192 ?_
            simp only [vx_u_if, reduceIte, Nat.reduceEqDiff]
            rw [hn]
            refine vv_ishl C dX5_house_195 ?_
            refine vv_iconst (v := (-1)) C dX5_house_196 (by decide) ?_
            refine vv_ixor C dX5_house_197 ?_
            refine vv_iand C dX5_house_198 ?_
            refine vv_putI C (a := 35) (k := 9) inlX5 tyX5 tyX5_ok nmX5 rfl rfl rfl (by decide) rfl rfl rfl (tm_12 (List.mem_of_getElem? (i := 4) rfl)) dX5_house_199 ?_
            refine vv_aload_n C dX5_house_202 rfl 0 rfl ?_
            refine vv_dup C dX5_house_203 rfl ?_
            refine vv_getI C (a := 35) (k := 0) (o := 0) inlX5 rfl rfl rfl (by decide) rfl (tm_10 (List.mem_of_getElem? (i := 18) rfl)) dX5_house_204 ?_
            simp only [vx_u_if, reduceIte, Nat.reduceEqDiff]
            refine vv_iconst (v := (1)) C dX5_house_207 (by decide) ?_
            refine vv_iadd C dX5_house_208 ?_
            refine vv_putI C (a := 35) (k := 0) inlX5 tyX5 tyX5_ok nmX5 rfl rfl rfl (by decide) rfl rfl rfl (tm_10 (List.mem_of_getElem? (i := 18) rfl)) dX5_house_209 ?_
            refine vv_aload_n C dX5_house_212 rfl 0 rfl ?_
            refine vv_iconst (v := (0)) C dX5_house_213 (by decide) ?_
            refine vv_putI C (a := 35) (k := 20) inlX5 tyX5 tyX5_ok nmX5 rfl rfl rfl (by decide) rfl rfl rfl (tm_5 (List.mem_of_getElem? (i := 7) rfl)) dX5_house_214 ?_
            refine vv_aload_n C dX5_house_217 rfl 0 rfl ?_
            refine vv_getI C (a := 35) (k := 0) (o := 0) inlX5 rfl rfl rfl (by decide) rfl (tm_10 (List.mem_of_getElem? (i := 18) rfl)) dX5_house_218 ?_
            simp only [vx_u_if, reduceIte, Nat.reduceEqDiff]
            refine vv_iconst (v := (1)) C dX5_house_221 (by decide) ?_
            refine vv_isub C dX5_house_222 ?_
            refine vv_jret C dX5_house_223 ?_
            have hpar : pu_par (S.1 46 1) = S.1 46 1 - 48 := by simp [pu_par, h76]
            have hb : (decide (z = 6) && decide (pu_fst (fun k => pm_may (S.1 46) (nI n) k (S.1 46 k)) z = z)) = true := by rw [decide_eq_true h17, decide_eq_true hfz]; rfl
            refine ⟨by rw [am_hou, if_pos ⟨hb, g24⟩, if_pos hlt]; simp [upd, hn, nI_1, nI_pred], fun q => by rw [am_hB, hb] at q; simp [g24, hlt] at q, fun _ => ⟨?_, ?_⟩⟩
            · iterate 11 refine pu_chg_u ?_ _ _ (by simp)
              exact pu_chg_rf S _
            · simp [vx_u_if, hpar, hn, nI_1, upd, pu_bit]
          · refine vv_iconst (v := (-1)) C dX5_house_79 (by decide) ?_
            refine vv_goto (tgt := 92) C dX5_house_80 (by decide) ?_
            refine vv_iastN C (a := 37) rfl (by omega) (by decide) dX5_house_92 ?_
            refine vv_aload_n C dX5_house_93 rfl 0 rfl ?_
            refine vv_gR C (a := 35) (k := 3) (b := 38) inlX5 rfl rfl rfl rfl (by decide) rfl (tm_3 (List.mem_of_getElem? (i := 20) rfl)) dX5_house_94 ?_
            refine vv_aload_n C dX5_house_97 rfl 0 rfl ?_
            refine vv_getI C (a := 35) (k := 0) (o := 0) inlX5 rfl rfl rfl (by decide) rfl (tm_10 (List.mem_of_getElem? (i := 18) rfl)) dX5_house_98 ?_
            simp only [vx_u_if, reduceIte, Nat.reduceEqDiff]
            rw [hn]
            refine vv_aload_n C dX5_house_101 rfl 0 rfl ?_
            refine vv_gR C (a := 35) (k := 21) (b := 46) inlX5 rfl rfl rfl rfl (by decide) rfl (tm_4 (List.mem_of_getElem? (i := 7) rfl)) dX5_house_102 ?_
            refine vv_iconst (v := (nI 2)) C dX5_house_105 (by decide) ?_
            refine vv_baldN C (a := 46) rfl (by omega) (by decide) dX5_house_106 ?_
            simp only [vx_u_if, reduceIte, Nat.reduceEqDiff]
            refine vv_bipush (v := (48)) C dX5_house_107 (by decide) ?_
            refine vv_isub C dX5_house_109 ?_
            refine vv_iastN C (a := 38) rfl (by omega) (by decide) dX5_house_110 ?_
            refine vv_aload_n C dX5_house_111 rfl 0 rfl ?_
            refine vv_gR C (a := 35) (k := 4) (b := 39) inlX5 rfl rfl rfl rfl (by decide) rfl (tm_3 (List.mem_of_getElem? (i := 21) rfl)) dX5_house_112 ?_
            refine vv_aload_n C dX5_house_115 rfl 0 rfl ?_
            refine vv_getI C (a := 35) (k := 0) (o := 0) inlX5 rfl rfl rfl (by decide) rfl (tm_10 (List.mem_of_getElem? (i := 18) rfl)) dX5_house_116 ?_
            simp only [vx_u_if, reduceIte, Nat.reduceEqDiff]
            rw [hn]
            refine vv_aload_n C dX5_house_119 rfl 0 rfl ?_
            refine vv_gR C (a := 35) (k := 21) (b := 46) inlX5 rfl rfl rfl rfl (by decide) rfl (tm_4 (List.mem_of_getElem? (i := 7) rfl)) dX5_house_120 ?_
            refine vv_iconst (v := (nI 3)) C dX5_house_123 (by decide) ?_
            refine vv_baldN C (a := 46) rfl (by omega) (by decide) dX5_house_124 ?_
            simp only [vx_u_if, reduceIte, Nat.reduceEqDiff]
            refine vv_bipush (v := (48)) C dX5_house_125 (by decide) ?_
            refine vv_isub C dX5_house_127 ?_
            refine vv_iastN C (a := 39) rfl (by omega) (by decide) dX5_house_128 ?_
            refine vv_aload_n C dX5_house_129 rfl 0 rfl ?_
            refine vv_gR C (a := 35) (k := 5) (b := 40) inlX5 rfl rfl rfl rfl (by decide) rfl (tm_3 (List.mem_of_getElem? (i := 22) rfl)) dX5_house_130 ?_
            refine vv_aload_n C dX5_house_133 rfl 0 rfl ?_
            refine vv_getI C (a := 35) (k := 0) (o := 0) inlX5 rfl rfl rfl (by decide) rfl (tm_10 (List.mem_of_getElem? (i := 18) rfl)) dX5_house_134 ?_
            simp only [vx_u_if, reduceIte, Nat.reduceEqDiff]
            rw [hn]
            refine vv_aload_n C dX5_house_137 rfl 0 rfl ?_
            refine vv_gR C (a := 35) (k := 21) (b := 46) inlX5 rfl rfl rfl rfl (by decide) rfl (tm_4 (List.mem_of_getElem? (i := 7) rfl)) dX5_house_138 ?_
            refine vv_iconst (v := (nI 4)) C dX5_house_141 (by decide) ?_
            refine vv_baldN C (a := 46) rfl (by omega) (by decide) dX5_house_142 ?_
            simp only [vx_u_if, reduceIte, Nat.reduceEqDiff]
            refine vv_bipush (v := (48)) C dX5_house_143 (by decide) ?_
            refine vv_isub C dX5_house_145 ?_
            refine vv_iastN C (a := 40) rfl (by omega) (by decide) dX5_house_146 ?_
            refine vv_aload_n C dX5_house_147 rfl 0 rfl ?_
            refine vv_gR C (a := 35) (k := 6) (b := 41) inlX5 rfl rfl rfl rfl (by decide) rfl (tm_3 (List.mem_of_getElem? (i := 23) rfl)) dX5_house_148 ?_
            refine vv_aload_n C dX5_house_151 rfl 0 rfl ?_
            refine vv_getI C (a := 35) (k := 0) (o := 0) inlX5 rfl rfl rfl (by decide) rfl (tm_10 (List.mem_of_getElem? (i := 18) rfl)) dX5_house_152 ?_
            simp only [vx_u_if, reduceIte, Nat.reduceEqDiff]
            rw [hn]
            refine vv_aload_n C dX5_house_155 rfl 0 rfl ?_
            refine vv_gR C (a := 35) (k := 21) (b := 46) inlX5 rfl rfl rfl rfl (by decide) rfl (tm_4 (List.mem_of_getElem? (i := 7) rfl)) dX5_house_156 ?_
            refine vv_iconst (v := (nI 5)) C dX5_house_159 (by decide) ?_
            refine vv_baldN C (a := 46) rfl (by omega) (by decide) dX5_house_160 ?_
            simp only [vx_u_if, reduceIte, Nat.reduceEqDiff]
            refine vv_bipush (v := (48)) C dX5_house_161 (by decide) ?_
            refine vv_isub C dX5_house_163 ?_
            refine vv_iastN C (a := 41) rfl (by omega) (by decide) dX5_house_164 ?_
            refine vv_aload_n C dX5_house_165 rfl 0 rfl ?_
            refine vv_gR C (a := 35) (k := 7) (b := 42) inlX5 rfl rfl rfl rfl (by decide) rfl (tm_4 (List.mem_of_getElem? (i := 0) rfl)) dX5_house_166 ?_
            refine vv_aload_n C dX5_house_169 rfl 0 rfl ?_
            refine vv_getI C (a := 35) (k := 0) (o := 0) inlX5 rfl rfl rfl (by decide) rfl (tm_10 (List.mem_of_getElem? (i := 18) rfl)) dX5_house_170 ?_
            simp only [vx_u_if, reduceIte, Nat.reduceEqDiff]
            rw [hn]
            refine vv_iconst (v := (0)) C dX5_house_173 (by decide) ?_
            refine vv_iastN C (a := 42) rfl (by omega) (by decide) dX5_house_174 ?_
            refine vv_aload_n C dX5_house_175 rfl 0 rfl ?_
            refine vv_gR C (a := 35) (k := 8) (b := 43) inlX5 rfl rfl rfl rfl (by decide) rfl (tm_4 (List.mem_of_getElem? (i := 1) rfl)) dX5_house_176 ?_
            refine vv_aload_n C dX5_house_179 rfl 0 rfl ?_
            refine vv_getI C (a := 35) (k := 0) (o := 0) inlX5 rfl rfl rfl (by decide) rfl (tm_10 (List.mem_of_getElem? (i := 18) rfl)) dX5_house_180 ?_
            simp only [vx_u_if, reduceIte, Nat.reduceEqDiff]
            rw [hn]
            refine vv_iconst (v := (0)) C dX5_house_183 (by decide) ?_
            refine vv_iastN C (a := 43) rfl (by omega) (by decide) dX5_house_184 ?_
            refine vv_aload_n C dX5_house_185 rfl 0 rfl ?_
            refine vv_dup C dX5_house_186 rfl ?_
            refine vv_getI C (a := 35) (k := 9) (o := 0) inlX5 rfl rfl rfl (by decide) rfl (tm_12 (List.mem_of_getElem? (i := 4) rfl)) dX5_house_187 ?_
            refine vv_iconst (v := (1)) C dX5_house_190 (by decide) ?_
            refine vv_aload_n C dX5_house_191 rfl 0 rfl ?_
            refine vv_getI C (a := 35) (k := 0) (o := 0) inlX5 rfl rfl rfl (by decide) rfl (tm_10 (List.mem_of_getElem? (i := 18) rfl)) dX5_house_192 ?_
            simp only [vx_u_if, reduceIte, Nat.reduceEqDiff]
            rw [hn]
            refine vv_ishl C dX5_house_195 ?_
            refine vv_iconst (v := (-1)) C dX5_house_196 (by decide) ?_
            refine vv_ixor C dX5_house_197 ?_
            refine vv_iand C dX5_house_198 ?_
            refine vv_putI C (a := 35) (k := 9) inlX5 tyX5 tyX5_ok nmX5 rfl rfl rfl (by decide) rfl rfl rfl (tm_12 (List.mem_of_getElem? (i := 4) rfl)) dX5_house_199 ?_
            refine vv_aload_n C dX5_house_202 rfl 0 rfl ?_
            refine vv_dup C dX5_house_203 rfl ?_
            refine vv_getI C (a := 35) (k := 0) (o := 0) inlX5 rfl rfl rfl (by decide) rfl (tm_10 (List.mem_of_getElem? (i := 18) rfl)) dX5_house_204 ?_
            simp only [vx_u_if, reduceIte, Nat.reduceEqDiff]
            refine vv_iconst (v := (1)) C dX5_house_207 (by decide) ?_
            refine vv_iadd C dX5_house_208 ?_
            refine vv_putI C (a := 35) (k := 0) inlX5 tyX5 tyX5_ok nmX5 rfl rfl rfl (by decide) rfl rfl rfl (tm_10 (List.mem_of_getElem? (i := 18) rfl)) dX5_house_209 ?_
            refine vv_aload_n C dX5_house_212 rfl 0 rfl ?_
            refine vv_iconst (v := (0)) C dX5_house_213 (by decide) ?_
            refine vv_putI C (a := 35) (k := 20) inlX5 tyX5 tyX5_ok nmX5 rfl rfl rfl (by decide) rfl rfl rfl (tm_5 (List.mem_of_getElem? (i := 7) rfl)) dX5_house_214 ?_
            refine vv_aload_n C dX5_house_217 rfl 0 rfl ?_
            refine vv_getI C (a := 35) (k := 0) (o := 0) inlX5 rfl rfl rfl (by decide) rfl (tm_10 (List.mem_of_getElem? (i := 18) rfl)) dX5_house_218 ?_
            simp only [vx_u_if, reduceIte, Nat.reduceEqDiff]
            refine vv_iconst (v := (1)) C dX5_house_221 (by decide) ?_
            refine vv_isub C dX5_house_222 ?_
            refine vv_jret C dX5_house_223 ?_
            have hpar : pu_par (S.1 46 1) = -1 := by simp [pu_par, h76]
            have hb : (decide (z = 6) && decide (pu_fst (fun k => pm_may (S.1 46) (nI n) k (S.1 46 k)) z = z)) = true := by rw [decide_eq_true h17, decide_eq_true hfz]; rfl
            refine ⟨by rw [am_hou, if_pos ⟨hb, g24⟩, if_pos hlt]; simp [upd, hn, nI_1, nI_pred], fun q => by rw [am_hB, hb] at q; simp [g24, hlt] at q, fun _ => ⟨?_, ?_⟩⟩
            · iterate 11 refine pu_chg_u ?_ _ _ (by simp)
              exact pu_chg_rf S _
            · simp [vx_u_if, hpar, hn, nI_1, upd, pu_bit]
        · rw [hn, nI_eq (by omega) (by omega)] at h36
          have hge : ¬ n < 8 := by omega
          refine vv_bipush (v := (-104)) C dX5_house_39 (by decide) ?_
          refine vv_jret C dX5_house_41 ?_
          have hb : (decide (z = 6) && decide (pu_fst (fun k => pm_may (S.1 46) (S.1 35 0) k (S.1 46 k)) z = z)) = true := by rw [decide_eq_true h17, decide_eq_true hfz]; rfl
          exact ⟨by rw [am_hou, if_pos ⟨hb, g24⟩, if_neg hge], fun _ => rfl, fun q => by rw [am_hB, hb] at q; simp [g24, hge] at q⟩
      · have g24 := pu_nle h24
        refine vv_bipush (v := (-103)) C dX5_house_27 (by decide) ?_
        refine vv_jret C dX5_house_29 ?_
        exact ⟨by simp [am_hou, hfz, g24], fun _ => rfl, fun q => by simp [am_hB, hfz, g24] at q⟩
theorem yk_X5_save : vx_yV yX5_save cX5_save 2 none 0 := ⟨(tm_22 (List.mem_of_getElem? (i := 21) rfl)), (tm_1 (List.mem_of_getElem? (i := 5) rfl)), by decide +kernel, (tm_22 (List.mem_of_getElem? (i := 19) rfl)), (tm_22 (List.mem_of_getElem? (i := 20) rfl))⟩
set_option maxHeartbeats 4000000 in
set_option maxRecDepth 100000 in
theorem kk_X5_save (l : Launch) (g : vx_G) (S : vx_St) (hb15 : vx_b01 (S.1 35 15) = S.1 35 15) (hb16 : vx_b01 (S.1 35 16) = S.1 35 16) : vx_M l g yX5_save cX5_save 2 none (vx_R 0 0) [.ref (g.2.2.1 35)] S (vx_pv (fun S' => pu_chg S S' [35, 47] ∧ S'.1 35 = upd (upd (upd (upd (upd (upd (upd (S.1 35) 23 (S.1 35 9)) 24 (S.1 35 11)) 25 (S.1 35 12)) 26 (S.1 35 13)) 27 (S.1 35 14)) 28 (S.1 35 15)) 29 (S.1 35 16) ∧ S'.1 47 = pu_fill (S.1 42) (S.1 47) 8)) := by
  refine vx_M.intro (by decide) (Nat.le_of_ble_eq_true rfl) ?_
  intro p e s m args below meth c C
  have lp2 : ∀ (fu : Nat) (i : Nat) (S1 : vx_St), (8 - i < fu ∧ i ≤ 8 ∧ pu_chg S S1 [35, 47] ∧ S1.1 35 = S.1 35 ∧ S1.1 47 = pu_fill (S.1 42) (S.1 47) i) → vx_V p l e (vx_R 0 0) s m args below meth c (MQ below (vx_Q g (vx_pv (fun S' => pu_chg S S' [35, 47] ∧ S'.1 35 = upd (upd (upd (upd (upd (upd (upd (S.1 35) 23 (S.1 35 9)) 24 (S.1 35 11)) 25 (S.1 35 12)) 26 (S.1 35 13)) 27 (S.1 35 14)) 28 (S.1 35 15)) 29 (S.1 35 16) ∧ S'.1 47 = pu_fill (S.1 42) (S.1 47) 8))) args s 0 0 (vx_A g)) g 2 2 [(0, .ref (g.2.2.1 35)), (1, .int (nI i))] [] (S1) := by
    intro fu
    induction fu with
    | zero =>
      intro i S1 hfu
      exact absurd hfu.1 (by omega)
    | succ fu ih =>
      intro i S1 hfu
      obtain ⟨hf1, hf2, hc, r35, rr⟩ := hfu
      have rs : S1.1 42 = S.1 42 := hc.2 _ (by decide)
      refine vv_iload_n C dX5_save_2 rfl 1 rfl ?_
      refine vv_bipush (v := (nI 8)) C dX5_save_3 (by decide) ?_
      refine vv_icmp_ge (tgt := 26) C dX5_save_5 (by decide) (fun h5 => ?_) (fun h5 => ?_)
      · have hge := pu_geT rfl (by omega) (by omega) h5
        obtain rfl : 8 = i := by omega
        refine vv_aload_n C dX5_save_26 rfl 0 rfl ?_
        refine vv_aload_n C dX5_save_27 rfl 0 rfl ?_
        refine vv_getI C (a := 35) (k := 9) (o := 0) inlX5 rfl rfl rfl (by decide) rfl (tm_12 (List.mem_of_getElem? (i := 4) rfl)) dX5_save_28 ?_
        refine vv_putI C (a := 35) (k := 23) inlX5 tyX5 tyX5_ok nmX5 rfl rfl rfl (by decide) rfl rfl rfl (tm_22 (List.mem_of_getElem? (i := 22) rfl)) dX5_save_31 ?_
        refine vv_aload_n C dX5_save_34 rfl 0 rfl ?_
        refine vv_aload_n C dX5_save_35 rfl 0 rfl ?_
        refine vv_getI C (a := 35) (k := 11) (o := 0) inlX5 rfl rfl rfl (by decide) rfl (tm_4 (List.mem_of_getElem? (i := 3) rfl)) dX5_save_36 ?_
        refine vv_putI C (a := 35) (k := 24) inlX5 tyX5 tyX5_ok nmX5 rfl rfl rfl (by decide) rfl rfl rfl (tm_22 (List.mem_of_getElem? (i := 23) rfl)) dX5_save_39 ?_
        refine vv_aload_n C dX5_save_42 rfl 0 rfl ?_
        refine vv_aload_n C dX5_save_43 rfl 0 rfl ?_
        refine vv_getI C (a := 35) (k := 12) (o := 0) inlX5 rfl rfl rfl (by decide) rfl (tm_12 (List.mem_of_getElem? (i := 3) rfl)) dX5_save_44 ?_
        refine vv_putI C (a := 35) (k := 25) inlX5 tyX5 tyX5_ok nmX5 rfl rfl rfl (by decide) rfl rfl rfl (tm_23 (List.mem_of_getElem? (i := 0) rfl)) dX5_save_47 ?_
        refine vv_aload_n C dX5_save_50 rfl 0 rfl ?_
        refine vv_aload_n C dX5_save_51 rfl 0 rfl ?_
        refine vv_getI C (a := 35) (k := 13) (o := 0) inlX5 rfl rfl rfl (by decide) rfl (tm_19 (List.mem_of_getElem? (i := 3) rfl)) dX5_save_52 ?_
        refine vv_putI C (a := 35) (k := 26) inlX5 tyX5 tyX5_ok nmX5 rfl rfl rfl (by decide) rfl rfl rfl (tm_23 (List.mem_of_getElem? (i := 1) rfl)) dX5_save_55 ?_
        refine vv_aload_n C dX5_save_58 rfl 0 rfl ?_
        refine vv_aload_n C dX5_save_59 rfl 0 rfl ?_
        refine vv_getI C (a := 35) (k := 14) (o := 0) inlX5 rfl rfl rfl (by decide) rfl (tm_15 (List.mem_of_getElem? (i := 16) rfl)) dX5_save_60 ?_
        refine vv_putI C (a := 35) (k := 27) inlX5 tyX5 tyX5_ok nmX5 rfl rfl rfl (by decide) rfl rfl rfl (tm_23 (List.mem_of_getElem? (i := 2) rfl)) dX5_save_63 ?_
        refine vv_aload_n C dX5_save_66 rfl 0 rfl ?_
        refine vv_aload_n C dX5_save_67 rfl 0 rfl ?_
        refine vv_getZ C (a := 35) (k := 15) (o := 0) inlX5 rfl rfl rfl (by decide) rfl (tm_18 (List.mem_of_getElem? (i := 22) rfl)) dX5_save_68 ?_
        refine vv_putZ C (a := 35) (k := 28) inlX5 tyX5 tyX5_ok nmX5 rfl rfl rfl (by decide) rfl rfl rfl (vx_b_b _) (tm_23 (List.mem_of_getElem? (i := 3) rfl)) dX5_save_71 ?_
        refine vv_aload_n C dX5_save_74 rfl 0 rfl ?_
        refine vv_aload_n C dX5_save_75 rfl 0 rfl ?_
        refine vv_getZ C (a := 35) (k := 16) (o := 0) inlX5 rfl rfl rfl (by decide) rfl (tm_14 (List.mem_of_getElem? (i := 19) rfl)) dX5_save_76 ?_
        refine vv_putZ C (a := 35) (k := 29) inlX5 tyX5 tyX5_ok nmX5 rfl rfl rfl (by decide) rfl rfl rfl (vx_b_b _) (tm_23 (List.mem_of_getElem? (i := 4) rfl)) dX5_save_79 ?_
        refine vv_nret C dX5_save_82 ?_
        refine ⟨?_, ?_, ?_⟩
        · iterate 7 refine pu_chg_u ?_ _ _ (by simp)
          exact hc
        · simp only [vx_u_row, r35]
          simp [upd, hb15, hb16]
        · simp only [vx_u_ne _ _ _ (show (47 : Nat) ≠ 35 by decide)]
          exact rr
      · have hlt := pu_geF rfl (by omega) (by omega) h5
        refine vv_aload_n C dX5_save_8 rfl 0 rfl ?_
        refine vv_gR C (a := 35) (k := 22) (b := 47) inlX5 rfl rfl rfl rfl (by decide) rfl (tm_4 (List.mem_of_getElem? (i := 8) rfl)) dX5_save_9 ?_
        refine vv_iload_n C dX5_save_12 rfl 1 rfl ?_
        refine vv_aload_n C dX5_save_13 rfl 0 rfl ?_
        refine vv_gR C (a := 35) (k := 7) (b := 42) inlX5 rfl rfl rfl rfl (by decide) rfl (tm_4 (List.mem_of_getElem? (i := 0) rfl)) dX5_save_14 ?_
        refine vv_iload_n C dX5_save_17 rfl 1 rfl ?_
        refine vv_ialdN C (a := 42) rfl (by omega) (by decide) dX5_save_18 ?_
        refine vv_iastN C (a := 47) rfl (by omega) (by decide) dX5_save_19 ?_
        refine vv_iincN (L' := [_, _]) (j := 1) C dX5_save_20 rfl (by decide) rfl ?_
        refine vv_goto (tgt := 2) C dX5_save_23 (by decide) ?_
        refine vv_sub (L' := [_, _]) [1, 0] rfl ?_
        refine ih (i + 1) _ ⟨by omega, by omega, pu_chg_u hc _ _ (by simp), ?_, ?_⟩
        · rw [vx_u_ne _ _ _ (by decide)]; exact r35
        · rw [vx_u_row, rr, rs]; exact pu_fill_s _ _ i
  refine vv_iconst (v := (nI 0)) C dX5_save_0 (by decide) ?_
  refine vv_istore_n (i := 1) (L' := [_, _]) C dX5_save_1 rfl (by decide) rfl ?_
  refine vv_sub (L' := [_, _]) [1, 0] rfl ?_
  exact lp2 9 0 S ⟨by omega, by omega, pu_chg_rf S _, rfl, rfl⟩
theorem yk_X5_back : vx_yV yX5_back cX5_back 2 none 0 := ⟨(tm_23 (List.mem_of_getElem? (i := 8) rfl)), (tm_1 (List.mem_of_getElem? (i := 5) rfl)), by decide +kernel, (tm_23 (List.mem_of_getElem? (i := 6) rfl)), (tm_23 (List.mem_of_getElem? (i := 7) rfl))⟩
set_option maxHeartbeats 4000000 in
set_option maxRecDepth 100000 in
theorem kk_X5_back (l : Launch) (g : vx_G) (S : vx_St) (hb15 : vx_b01 (S.1 35 28) = S.1 35 28) (hb16 : vx_b01 (S.1 35 29) = S.1 35 29) : vx_M l g yX5_back cX5_back 2 none (vx_R 0 0) [.ref (g.2.2.1 35)] S (vx_pv (fun S' => pu_chg S S' [35, 42] ∧ S'.1 35 = upd (upd (upd (upd (upd (upd (upd (S.1 35) 9 (S.1 35 23)) 11 (S.1 35 24)) 12 (S.1 35 25)) 13 (S.1 35 26)) 14 (S.1 35 27)) 15 (S.1 35 28)) 16 (S.1 35 29) ∧ S'.1 42 = pu_fill (S.1 47) (S.1 42) 8)) := by
  refine vx_M.intro (by decide) (Nat.le_of_ble_eq_true rfl) ?_
  intro p e s m args below meth c C
  have lp2 : ∀ (fu : Nat) (i : Nat) (S1 : vx_St), (8 - i < fu ∧ i ≤ 8 ∧ pu_chg S S1 [35, 42] ∧ S1.1 35 = S.1 35 ∧ S1.1 42 = pu_fill (S.1 47) (S.1 42) i) → vx_V p l e (vx_R 0 0) s m args below meth c (MQ below (vx_Q g (vx_pv (fun S' => pu_chg S S' [35, 42] ∧ S'.1 35 = upd (upd (upd (upd (upd (upd (upd (S.1 35) 9 (S.1 35 23)) 11 (S.1 35 24)) 12 (S.1 35 25)) 13 (S.1 35 26)) 14 (S.1 35 27)) 15 (S.1 35 28)) 16 (S.1 35 29) ∧ S'.1 42 = pu_fill (S.1 47) (S.1 42) 8))) args s 0 0 (vx_A g)) g 2 2 [(0, .ref (g.2.2.1 35)), (1, .int (nI i))] [] (S1) := by
    intro fu
    induction fu with
    | zero =>
      intro i S1 hfu
      exact absurd hfu.1 (by omega)
    | succ fu ih =>
      intro i S1 hfu
      obtain ⟨hf1, hf2, hc, r35, rr⟩ := hfu
      have rs : S1.1 47 = S.1 47 := hc.2 _ (by decide)
      refine vv_iload_n C dX5_back_2 rfl 1 rfl ?_
      refine vv_bipush (v := (nI 8)) C dX5_back_3 (by decide) ?_
      refine vv_icmp_ge (tgt := 26) C dX5_back_5 (by decide) (fun h5 => ?_) (fun h5 => ?_)
      · have hge := pu_geT rfl (by omega) (by omega) h5
        obtain rfl : 8 = i := by omega
        refine vv_aload_n C dX5_back_26 rfl 0 rfl ?_
        refine vv_aload_n C dX5_back_27 rfl 0 rfl ?_
        refine vv_getI C (a := 35) (k := 23) (o := 0) inlX5 rfl rfl rfl (by decide) rfl (tm_22 (List.mem_of_getElem? (i := 22) rfl)) dX5_back_28 ?_
        refine vv_putI C (a := 35) (k := 9) inlX5 tyX5 tyX5_ok nmX5 rfl rfl rfl (by decide) rfl rfl rfl (tm_12 (List.mem_of_getElem? (i := 4) rfl)) dX5_back_31 ?_
        refine vv_aload_n C dX5_back_34 rfl 0 rfl ?_
        refine vv_aload_n C dX5_back_35 rfl 0 rfl ?_
        refine vv_getI C (a := 35) (k := 24) (o := 0) inlX5 rfl rfl rfl (by decide) rfl (tm_22 (List.mem_of_getElem? (i := 23) rfl)) dX5_back_36 ?_
        refine vv_putI C (a := 35) (k := 11) inlX5 tyX5 tyX5_ok nmX5 rfl rfl rfl (by decide) rfl rfl rfl (tm_4 (List.mem_of_getElem? (i := 3) rfl)) dX5_back_39 ?_
        refine vv_aload_n C dX5_back_42 rfl 0 rfl ?_
        refine vv_aload_n C dX5_back_43 rfl 0 rfl ?_
        refine vv_getI C (a := 35) (k := 25) (o := 0) inlX5 rfl rfl rfl (by decide) rfl (tm_23 (List.mem_of_getElem? (i := 0) rfl)) dX5_back_44 ?_
        refine vv_putI C (a := 35) (k := 12) inlX5 tyX5 tyX5_ok nmX5 rfl rfl rfl (by decide) rfl rfl rfl (tm_12 (List.mem_of_getElem? (i := 3) rfl)) dX5_back_47 ?_
        refine vv_aload_n C dX5_back_50 rfl 0 rfl ?_
        refine vv_aload_n C dX5_back_51 rfl 0 rfl ?_
        refine vv_getI C (a := 35) (k := 26) (o := 0) inlX5 rfl rfl rfl (by decide) rfl (tm_23 (List.mem_of_getElem? (i := 1) rfl)) dX5_back_52 ?_
        refine vv_putI C (a := 35) (k := 13) inlX5 tyX5 tyX5_ok nmX5 rfl rfl rfl (by decide) rfl rfl rfl (tm_19 (List.mem_of_getElem? (i := 3) rfl)) dX5_back_55 ?_
        refine vv_aload_n C dX5_back_58 rfl 0 rfl ?_
        refine vv_aload_n C dX5_back_59 rfl 0 rfl ?_
        refine vv_getI C (a := 35) (k := 27) (o := 0) inlX5 rfl rfl rfl (by decide) rfl (tm_23 (List.mem_of_getElem? (i := 2) rfl)) dX5_back_60 ?_
        refine vv_putI C (a := 35) (k := 14) inlX5 tyX5 tyX5_ok nmX5 rfl rfl rfl (by decide) rfl rfl rfl (tm_15 (List.mem_of_getElem? (i := 16) rfl)) dX5_back_63 ?_
        refine vv_aload_n C dX5_back_66 rfl 0 rfl ?_
        refine vv_aload_n C dX5_back_67 rfl 0 rfl ?_
        refine vv_getZ C (a := 35) (k := 28) (o := 0) inlX5 rfl rfl rfl (by decide) rfl (tm_23 (List.mem_of_getElem? (i := 3) rfl)) dX5_back_68 ?_
        refine vv_putZ C (a := 35) (k := 15) inlX5 tyX5 tyX5_ok nmX5 rfl rfl rfl (by decide) rfl rfl rfl (vx_b_b _) (tm_18 (List.mem_of_getElem? (i := 22) rfl)) dX5_back_71 ?_
        refine vv_aload_n C dX5_back_74 rfl 0 rfl ?_
        refine vv_aload_n C dX5_back_75 rfl 0 rfl ?_
        refine vv_getZ C (a := 35) (k := 29) (o := 0) inlX5 rfl rfl rfl (by decide) rfl (tm_23 (List.mem_of_getElem? (i := 4) rfl)) dX5_back_76 ?_
        refine vv_putZ C (a := 35) (k := 16) inlX5 tyX5 tyX5_ok nmX5 rfl rfl rfl (by decide) rfl rfl rfl (vx_b_b _) (tm_14 (List.mem_of_getElem? (i := 19) rfl)) dX5_back_79 ?_
        refine vv_nret C dX5_back_82 ?_
        refine ⟨?_, ?_, ?_⟩
        · iterate 7 refine pu_chg_u ?_ _ _ (by simp)
          exact hc
        · simp only [vx_u_row, r35]
          simp [upd, hb15, hb16]
        · simp only [vx_u_ne _ _ _ (show (42 : Nat) ≠ 35 by decide)]
          exact rr
      · have hlt := pu_geF rfl (by omega) (by omega) h5
        refine vv_aload_n C dX5_back_8 rfl 0 rfl ?_
        refine vv_gR C (a := 35) (k := 7) (b := 42) inlX5 rfl rfl rfl rfl (by decide) rfl (tm_4 (List.mem_of_getElem? (i := 0) rfl)) dX5_back_9 ?_
        refine vv_iload_n C dX5_back_12 rfl 1 rfl ?_
        refine vv_aload_n C dX5_back_13 rfl 0 rfl ?_
        refine vv_gR C (a := 35) (k := 22) (b := 47) inlX5 rfl rfl rfl rfl (by decide) rfl (tm_4 (List.mem_of_getElem? (i := 8) rfl)) dX5_back_14 ?_
        refine vv_iload_n C dX5_back_17 rfl 1 rfl ?_
        refine vv_ialdN C (a := 47) rfl (by omega) (by decide) dX5_back_18 ?_
        refine vv_iastN C (a := 42) rfl (by omega) (by decide) dX5_back_19 ?_
        refine vv_iincN (L' := [_, _]) (j := 1) C dX5_back_20 rfl (by decide) rfl ?_
        refine vv_goto (tgt := 2) C dX5_back_23 (by decide) ?_
        refine vv_sub (L' := [_, _]) [1, 0] rfl ?_
        refine ih (i + 1) _ ⟨by omega, by omega, pu_chg_u hc _ _ (by simp), ?_, ?_⟩
        · rw [vx_u_ne _ _ _ (by decide)]; exact r35
        · rw [vx_u_row, rr, rs]; exact pu_fill_s _ _ i
  refine vv_iconst (v := (nI 0)) C dX5_back_0 (by decide) ?_
  refine vv_istore_n (i := 1) (L' := [_, _]) C dX5_back_1 rfl (by decide) rfl ?_
  refine vv_sub (L' := [_, _]) [1, 0] rfl ?_
  exact lp2 9 0 S ⟨by omega, by omega, pu_chg_rf S _, rfl, rfl⟩
def pm_on (S S1 : vx_St) (br : Int32) : Prop := S1.2 35 46 = S.2 35 46 ∧ (∀ c, c ∉ [35, 42, 47] → S1.1 c = S.1 c) ∧ (∀ k, (k < 9 ∨ k = 10 ∨ (16 < k ∧ k < 23) ∨ 29 < k) → S1.1 35 k = S.1 35 k) ∧ S1.1 35 9 = br ∧ S1.1 35 23 = S.1 35 9 ∧ S1.1 35 24 = S.1 35 11 ∧ S1.1 35 25 = S.1 35 12 ∧ S1.1 35 26 = S.1 35 13 ∧ S1.1 35 27 = S.1 35 14 ∧ S1.1 35 28 = S.1 35 15 ∧ S1.1 35 29 = S.1 35 16 ∧ (∀ k, k < 8 → S1.1 47 k = S.1 42 k) ∧ (∀ k, 8 ≤ k → S1.1 42 k = S.1 42 k)
theorem pm_on_hm {S S1 : vx_St} {br : Int32} (h : pm_on S S1 br) : pu_hm S1 = pu_hm S := pu_hm_c (fun c h1 h2 => h.2.1 c (by simp only [List.mem_cons, List.not_mem_nil, or_false, not_or]; omega))
theorem pm_on_hour {S S1 S2 : vx_St} {br : Int32} {n : Nat} (hn8 : n ≤ 8) (h : pm_on S S1 br) (c : pu_chg S1 S2 [35, 42]) (d : S2.1 35 = pm_nx (pu_hm S) (S1.1 35) n) (e : ∀ k, 8 ≤ k → S2.1 42 k = S1.1 42 k) : pm_on S S2 br := by
  obtain ⟨h1, h2, h3, h4, h5, h6, h7, h8, h9, h10, h11, h12, h13⟩ := h
  refine ⟨by rw [c.1]; exact h1, fun q hq => ?_, fun k hk => ?_, ?_, ?_, ?_, ?_, ?_, ?_, ?_, ?_, fun k hk => ?_, fun k hk => (e k hk).trans (h13 k hk)⟩
  · rw [c.2 q (by simp only [List.mem_cons, List.not_mem_nil, or_false, not_or] at hq ⊢; omega)]; exact h2 q hq
  · rw [d, pm_nx_o _ _ _ (by omega)]; exact h3 k hk
  · rw [d, pm_nx_o _ _ _ (by omega)]; exact h4
  · rw [d, pm_nx_o _ _ _ (by omega)]; exact h5
  · rw [d, pm_nx_o _ _ _ (by omega)]; exact h6
  · rw [d, pm_nx_o _ _ _ (by omega)]; exact h7
  · rw [d, pm_nx_o _ _ _ (by omega)]; exact h8
  · rw [d, pm_nx_o _ _ _ (by omega)]; exact h9
  · rw [d, pm_nx_o _ _ _ (by omega)]; exact h10
  · rw [d, pm_nx_o _ _ _ (by omega)]; exact h11
  · rw [c.2 47 (by decide)]; exact h12 k hk
theorem pm_on_rn {S S1 : vx_St} {br : Int32} (h : pm_on S S1 br) (x : Int32) : pm_on S (vx_u S1 35 16 x) br := by
  obtain ⟨h1, h2, h3, h4, h5, h6, h7, h8, h9, h10, h11, h12, h13⟩ := h
  refine ⟨h1, fun q hq => ?_, fun k hk => ?_, ?_, ?_, ?_, ?_, ?_, ?_, ?_, ?_, fun k hk => ?_, fun k hk => ?_⟩
  · rw [vx_u_ne _ _ _ (by simp only [List.mem_cons, List.not_mem_nil, or_false, not_or] at hq; omega)]; exact h2 q hq
  · rw [vx_u_row]; simp only [upd]; rw [if_neg (by omega)]; exact h3 k hk
  all_goals first | (rw [vx_u_row]; simp only [upd]; first | exact h4 | exact h5 | exact h6 | exact h7 | exact h8 | exact h9 | exact h10 | exact h11) | (rw [vx_u_ne _ _ _ (by decide)]; first | exact h12 k hk | exact h13 k hk)
theorem pm_on_back {S S1 S2 : vx_St} {br : Int32} (h : pm_on S S1 br) (c : pu_chg S1 S2 [35, 42]) (d : S2.1 35 = upd (upd (upd (upd (upd (upd (upd (S1.1 35) 9 (S1.1 35 23)) 11 (S1.1 35 24)) 12 (S1.1 35 25)) 13 (S1.1 35 26)) 14 (S1.1 35 27)) 15 (S1.1 35 28)) 16 (S1.1 35 29)) (e : S2.1 42 = pu_fill (S1.1 47) (S1.1 42) 8) : pm_same S S2 := by
  obtain ⟨h1, h2, h3, h4, h5, h6, h7, h8, h9, h10, h11, h12, h13⟩ := h
  refine ⟨fun q hq => ?_, fun k hk => ?_⟩
  · by_cases q42 : q = 42
    · subst q42
      rw [e]
      funext k
      simp only [pu_fill]
      split
      · rename_i hk; exact h12 k hk
      · rename_i hk; exact h13 k (by omega)
    · rw [c.2 q (by simp only [List.mem_cons, List.not_mem_nil, or_false, not_or] at hq ⊢; omega)]
      exact h2 q (by simp only [List.mem_cons, List.not_mem_nil, or_false, not_or] at hq ⊢; omega)
  · rw [d]
    simp only [upd]
    by_cases k16 : k = 16
    · subst k16; simp [h11]
    by_cases k15 : k = 15
    · subst k15; simp [h10]
    by_cases k14 : k = 14
    · subst k14; simp [h9]
    by_cases k13 : k = 13
    · subst k13; simp [h8]
    by_cases k12 : k = 12
    · subst k12; simp [h7]
    by_cases k11 : k = 11
    · subst k11; simp [h6]
    by_cases k9 : k = 9
    · subst k9; simp [h5]
    rw [if_neg k16, if_neg k15, if_neg k14, if_neg k13, if_neg k12, if_neg k11, if_neg k9]
    exact h3 k (by omega)
theorem yk_X5_takenOn : vx_yV yX5_takenOn cX5_takenOn 5 (some .int) 2 := ⟨(tm_22 (List.mem_of_getElem? (i := 17) rfl)), (tm_1 (List.mem_of_getElem? (i := 5) rfl)), by decide +kernel, (tm_22 (List.mem_of_getElem? (i := 15) rfl)), (tm_22 (List.mem_of_getElem? (i := 16) rfl))⟩
set_option maxHeartbeats 4000000 in
set_option maxRecDepth 100000 in
theorem kk_X5_takenOn (l : Launch) (g : vx_G) (S : vx_St) (brx mo : Int32) (n : Nat) (hn : S.1 35 0 = nI n) (hn8 : n ≤ 8) (hb15 : vx_b01 (S.1 35 15) = S.1 35 15) (hb16 : vx_b01 (S.1 35 16) = S.1 35 16) (hh : Nat) (hhr : S.1 35 12 = nI hh) (hh9 : hh ≤ 9) : vx_M l g yX5_takenOn cX5_takenOn 5 (some .int) (vx_R 6 139) [.ref (g.2.2.1 35), .int brx, .int mo] S (vx_pi (fun r S' => r = pm_TA (pu_hm S) (S.1 35 16) n hh (S.1 35 11 + mo) (S.1 35 14) (S.1 35 15) (pm_sm (S.1 42) n) brx ∧ pm_same S S' ∧ S'.2 = S.2)) := by
  refine vx_M.intro (by decide) (Nat.le_of_ble_eq_true rfl) ?_
  intro p e s m args below meth c C
  have lp24 : ∀ (fu : Nat) (i : Nat) (S1 : vx_St), (9 - i < fu ∧ i ≤ 9 ∧ pm_on S S1 brx ∧ S1.2 = S.2 ∧ S1.1 35 12 = nI i ∧ S1.1 35 16 = S.1 35 16 ∧ pm_ah (pu_hm S) (S.1 35 16) brx n (9 - i) (S1.1 35 11) (nI i) (S1.1 35 14) (S1.1 35 15) (pm_sm (S1.1 42) n) = pm_ah (pu_hm S) (S.1 35 16) brx n (9 - hh) (S.1 35 11 + mo) (nI hh) (S.1 35 14) (S.1 35 15) (pm_sm (S.1 42) n)) → vx_V p l e (vx_R 6 139) s m args below meth c (MQ below (vx_Q g (vx_pi (fun r S' => r = pm_TA (pu_hm S) (S.1 35 16) n hh (S.1 35 11 + mo) (S.1 35 14) (S.1 35 15) (pm_sm (S.1 42) n) brx ∧ pm_same S S' ∧ S'.2 = S.2))) args s 0 0 (vx_A g)) g 5 24 [(0, .ref (g.2.2.1 35)), (3, .int (pm_sm (S.1 42) n))] [] (S1) := by
    intro fu
    induction fu with
    | zero =>
      intro i S1 hfu
      exact absurd hfu.1 (by omega)
    | succ fu ih =>
      intro i S1 hfu
      obtain ⟨hf1, hf2, hon, hL, r12, r16, hst⟩ := hfu
      have hn1 : S1.1 35 0 = nI n := by rw [hon.2.2.1 0 (by omega)]; exact hn
      have hs1 := pm_on_hm hon
      have r9 := hon.2.2.2.1
      refine vv_aload_n C dX5_takenOn_24 rfl 0 rfl ?_
      refine vv_cV_F C (a := 35) (kk_X5_isOver l g _) yk_X5_isOver (tm_18 (List.mem_of_getElem? (i := 18) rfl)) rfl rfl rfl (by decide) rfl (Nat.le_of_ble_eq_true rfl) rfl dX5_takenOn_25 ?_
      refine vv_ifb_ne (tgt := 39) C dX5_takenOn_28 (by decide) (fun h28 => ?_) (fun h28 => ?_)
      · refine vv_aload_n C dX5_takenOn_39 rfl 0 rfl ?_
        refine vv_cV_F C (a := 35) (kk_X5_takenAll l g _ n hn1 hn8) yk_X5_takenAll (tm_20 (List.mem_of_getElem? (i := 11) rfl)) rfl rfl rfl (by decide) rfl (Nat.le_of_ble_eq_true rfl) rfl dX5_takenOn_40 ?_
        refine vv_iload_n C dX5_takenOn_43 rfl 1 rfl ?_
        refine vv_isub C dX5_takenOn_44 ?_
        refine vv_istore (L' := [_, _, _]) C dX5_takenOn_45 (by decide) rfl ?_
        refine vv_aload_n C dX5_takenOn_47 rfl 1 rfl ?_
        refine vv_cV_v C (a := 35) (kk_X5_back l g _ (by rw [hon.2.2.2.2.2.2.2.2.2.1]; exact hb15) (by rw [hon.2.2.2.2.2.2.2.2.2.2.1]; exact hb16)) yk_X5_back (tm_23 (List.mem_of_getElem? (i := 5) rfl)) rfl rfl rfl (by decide) rfl (Nat.le_of_ble_eq_true rfl) rfl dX5_takenOn_48 (fun S48 h48 => ?_)
        obtain ⟨c48, d48, t48⟩ := h48
        refine vv_iload C dX5_takenOn_51 0 rfl ?_
        refine vv_jret C dX5_takenOn_53 ?_
        have hg := h28
        simp only [Bool.not_eq_true', aw_goB, Bool.and_eq_false_iff, decide_eq_false_iff_not] at hg
        have hfin : pm_sm (S1.1 42) n = pm_ah (pu_hm S) (S.1 35 16) brx n (9 - hh) (S.1 35 11 + mo) (nI hh) (S.1 35 14) (S.1 35 15) (pm_sm (S.1 42) n) := by
          rw [← hst]
          rcases Nat.lt_or_ge i 9 with q | q
          · rw [show 9 - i = (9 - (i + 1)) + 1 by omega, pm_ah, if_neg (hg.elim (fun z => absurd (by rw [r12]; exact (nI_ltI (b := 9) (by omega) (by omega)).mpr q) z) id)]
          · rw [show 9 - i = 0 by omega, pm_ah]
        exact ⟨by rw [hfin]; rfl, pm_on_back hon c48 d48 t48, by rw [c48.1]; exact hL⟩
      · refine vv_aload_n C dX5_takenOn_31 rfl 0 rfl ?_
        refine vv_cV_i C (a := 35) (kk_X5_goHour l g _ n hn1 hn8) yk_X5_goHour (tm_18 (List.mem_of_getElem? (i := 23) rfl)) rfl rfl rfl (by decide) rfl (Nat.le_of_ble_eq_true rfl) rfl dX5_takenOn_32 (fun r32 S32 h32 => ?_)
        obtain ⟨_, c32, d32, t32⟩ := h32
        refine vv_pop C dX5_takenOn_35 rfl ?_
        refine vv_goto (tgt := 24) C dX5_takenOn_36 (by decide) ?_
        refine vv_sub (L' := [_, _]) [0, 1] rfl ?_
        rw [hs1] at d32 t32
        have tk8 : ∀ k, 8 ≤ k → S32.1 42 k = S1.1 42 k := fun k hk => by rw [t32]; split; rfl; exact if_neg (by omega)
        have hsm : pm_sm (S32.1 42) n = pm_sm (S1.1 42) n + pm_tn (pu_hm S) (S.1 35 16) (S1.1 35 11) (nI i) brx (S1.1 35 14) n := by
          rw [t32, r12, r9, r16, pm_tn]
          split
          · rw [pm_add0]
          · exact pm_sm_took _ _ _ n n (Nat.le_refl n)
        have hg := h28
        simp only [Bool.not_eq_false', aw_goB, Bool.and_eq_true, decide_eq_true_eq] at hg
        have hi9 : i < 9 := by have h9 := hg.1; rw [r12] at h9; exact (nI_ltI (b := 9) (by omega) (by omega)).mp h9
        refine ih (i + 1) S32 ⟨by omega, by omega, pm_on_hour hn8 hon c32 d32 tk8, by rw [c32.1]; exact hL, ?_, ?_, ?_⟩
        · rw [d32, pm_nx_12, r12, nI_1]
        · rw [d32, pm_nx_o _ _ _ (by omega)]; exact r16
        · rw [← hst, show 9 - i = (9 - (i + 1)) + 1 by omega, pm_ah, if_pos hg.2, hsm, d32, pm_nx_11, pm_nx_14, pm_nx_15, r12, r9, r16, nI_1]
  refine vv_aload_n C dX5_takenOn_0 rfl 0 rfl ?_
  refine vv_cV_v C (a := 35) (kk_X5_save l g _ hb15 hb16) yk_X5_save (tm_22 (List.mem_of_getElem? (i := 18) rfl)) rfl rfl rfl (by decide) rfl (Nat.le_of_ble_eq_true rfl) rfl dX5_takenOn_1 (fun S1 h1 => ?_)
  obtain ⟨c1, d1, t1⟩ := h1
  refine vv_aload_n C dX5_takenOn_4 rfl 0 rfl ?_
  refine vv_cV_F C (a := 35) (kk_X5_takenAll l g _ n (by rw [d1]; simp [upd, hn]) hn8) yk_X5_takenAll (tm_20 (List.mem_of_getElem? (i := 11) rfl)) rfl rfl rfl (by decide) rfl (Nat.le_of_ble_eq_true rfl) rfl dX5_takenOn_5 ?_
  rw [c1.2 42 (by decide)]
  refine vv_istore_n (i := 3) (L' := [_, _, _, _]) C dX5_takenOn_8 rfl (by decide) rfl ?_
  refine vv_aload_n C dX5_takenOn_9 rfl 1 rfl ?_
  refine vv_iload_n C dX5_takenOn_10 rfl 2 rfl ?_
  refine vv_putI C (a := 35) (k := 9) inlX5 tyX5 tyX5_ok nmX5 rfl rfl rfl (by decide) rfl rfl rfl (tm_12 (List.mem_of_getElem? (i := 4) rfl)) dX5_takenOn_11 ?_
  refine vv_aload_n C dX5_takenOn_14 rfl 1 rfl ?_
  refine vv_dup C dX5_takenOn_15 rfl ?_
  refine vv_getI C (a := 35) (k := 11) (o := 0) inlX5 rfl rfl rfl (by decide) rfl (tm_4 (List.mem_of_getElem? (i := 3) rfl)) dX5_takenOn_16 ?_
  refine vv_iload_n C dX5_takenOn_19 rfl 3 rfl ?_
  refine vv_iadd C dX5_takenOn_20 ?_
  refine vv_putI C (a := 35) (k := 11) inlX5 tyX5 tyX5_ok nmX5 rfl rfl rfl (by decide) rfl rfl rfl (tm_4 (List.mem_of_getElem? (i := 3) rfl)) dX5_takenOn_21 ?_
  refine vv_sub (L' := [_, _]) [1, 0] rfl ?_
  refine lp24 10 hh _ ⟨by omega, hh9, ?_, ?_, ?_, ?_, ?_⟩
  · refine ⟨by show S1.2 35 46 = _; rw [c1.1], fun q hq => ?_, fun k hk => ?_, ?_, ?_, ?_, ?_, ?_, ?_, ?_, ?_, fun k hk => ?_, fun k hk => ?_⟩
    · rw [vx_u_ne _ _ _ (by simp only [List.mem_cons, List.not_mem_nil, or_false, not_or] at hq; omega), vx_u_ne _ _ _ (by simp only [List.mem_cons, List.not_mem_nil, or_false, not_or] at hq; omega)]; exact c1.2 q (by simp only [List.mem_cons, List.not_mem_nil, or_false, not_or] at hq ⊢; omega)
    · simp only [vx_u_row, d1, upd]; repeat rw [if_neg (by omega)]
    all_goals first | (simp only [vx_u_row, d1]; simp [upd]; done) | (rw [vx_u_ne _ _ _ (by decide), vx_u_ne _ _ _ (by decide), t1]; exact if_pos hk) | (rw [vx_u_ne _ _ _ (by decide), vx_u_ne _ _ _ (by decide), c1.2 42 (by decide)])
  · exact c1.1
  · simp only [vx_u_row, d1]; simp [upd, hhr]
  · simp only [vx_u_row, d1]; simp [upd]
  · simp only [vx_u_row, d1, vx_u_ne _ _ _ (show (42 : Nat) ≠ 35 by decide), c1.2 42 (by decide)]; simp [upd]
