theorem pm_mix {S S1 S2 : vx_St} {H : Int64} {v : Int32} (hc : pm_same S S1) (hH : S1.2 35 46 = H) (h : S2 = vx_uL S1 35 46 (31 * S1.2 35 46 + v.toInt64)) : pm_same S S2 ∧ S2.2 35 46 = dg_m H v := by
  rw [h]
  refine ⟨hc, ?_⟩
  show (if (35 : Nat) = 35 ∧ (46 : Nat) = 46 then _ else S1.2 35 46) = _
  rw [if_pos ⟨rfl, rfl⟩, hH]
  rfl
theorem pm_same_0 (S : vx_St) (x : Int64) : pm_same S (vx_uL S 35 46 x) := pm_same_rf S
theorem pm_uL46 (S : vx_St) (x : Int64) : (vx_uL S 35 46 x).2 35 46 = x := by simp [vx_uL]
theorem yk_X5_digest : vx_yV yX5_digest cX5_digest 3 (some .long) 0 := ⟨(tm_31 (List.mem_of_getElem? (i := 18) rfl)), (tm_1 (List.mem_of_getElem? (i := 5) rfl)), by decide +kernel, (tm_31 (List.mem_of_getElem? (i := 16) rfl)), (tm_31 (List.mem_of_getElem? (i := 17) rfl))⟩
set_option maxHeartbeats 4000000 in
set_option maxRecDepth 100000 in
theorem kk_X5_digest (l : Launch) (g : vx_G) (S : vx_St) (z : Nat) (hz : S.1 35 20 = nI z) (hz12 : z ≤ 12) (n : Nat) (hn : S.1 35 0 = nI n) (hn8 : n ≤ 8) (hb15 : vx_b01 (S.1 35 15) = S.1 35 15) (hb16 : vx_b01 (S.1 35 16) = S.1 35 16) (hh : Nat) (hhr : S.1 35 12 = nI hh) (hh9 : hh ≤ 9) (mr : Nat) (hm : S.1 35 17 = nI mr) (hm8 : mr ≤ 8) : vx_M l g yX5_digest cX5_digest 3 (some .long) (vx_R 8 189) [.ref (g.2.2.1 35)] S (vx_pl (fun r S' => r = (dg_l (fun w => aw_cnt (S.1 35 0) (S.1 35 10) (S.1 35 11) (S.1 35 12) (pm_sm (S.1 42) n) (S.1 35 13) (S.1 35 15) (S.1 35 16) (S.1 35 17) (S.1 35 20) (nI w)) (dg_l (S.1 46) (dg_m (dg_m (dg_m (dg_m (dg_m (dg_m (dg_m (dg_H (fun i w => pm_hn (pu_hm S) (S.1 42) (S.1 43) (S.1 35 9) i (nI w)) (pm_W (pu_hm S) (S.1 35 12) (S.1 35 9) (S.1 35 14)) (fun i => pm_part (S.1 35 10 - S.1 35 11) (S.1 42) n i) (fun i => pm_leak (pu_hm S) n (S.1 44) (S.1 45) mr (nI i) 9) 601 n) (S.1 35 14)) (pm_G (pu_hm S) (S.1 35 16) (S.1 35 12) (S.1 35 9) (S.1 35 14) n (pu_all (nI n)))) (pm_best (fun t => pm_TA (pu_hm S) (S.1 35 16) n hh (S.1 35 11 + 0) (S.1 35 14) (S.1 35 15) (pm_sm (S.1 42) n) t) (2 ^ n - 1)).2) (pm_best (fun t => pm_TA (pu_hm S) (S.1 35 16) n hh (S.1 35 11 + 0) (S.1 35 14) (S.1 35 15) (pm_sm (S.1 42) n) t) (2 ^ n - 1)).1) (pm_TA (pu_hm S) (S.1 35 16) n hh (S.1 35 11 + 9) (S.1 35 14) (S.1 35 15) (pm_sm (S.1 42) n) (S.1 35 9) - pm_TA (pu_hm S) (S.1 35 16) n hh (S.1 35 11 + 0) (S.1 35 14) (S.1 35 15) (pm_sm (S.1 42) n) (S.1 35 9))) (pm_leaks (fun i => pm_leak (pu_hm S) n (S.1 44) (S.1 45) mr (nI i) 9) n)) (am_look (pm_leaks (fun i => pm_leak (pu_hm S) n (S.1 44) (S.1 45) mr (nI i) 9) n) (S.1 37) n)) z) 10) ∧ pm_same S S')) := by
  refine vx_M.intro (by decide) (Nat.le_of_ble_eq_true rfl) ?_
  intro p e s m args below meth c C
  have lp178 : ∀ (fu : Nat) (w : Nat) (S1 : vx_St), (10 - w < fu ∧ w ≤ 10 ∧ pm_same S S1 ∧ S1.2 35 46 = dg_l (fun w => aw_cnt (S.1 35 0) (S.1 35 10) (S.1 35 11) (S.1 35 12) (pm_sm (S.1 42) n) (S.1 35 13) (S.1 35 15) (S.1 35 16) (S.1 35 17) (S.1 35 20) (nI w)) (dg_l (S.1 46) (dg_m (dg_m (dg_m (dg_m (dg_m (dg_m (dg_m (dg_H (fun i w => pm_hn (pu_hm S) (S.1 42) (S.1 43) (S.1 35 9) i (nI w)) (pm_W (pu_hm S) (S.1 35 12) (S.1 35 9) (S.1 35 14)) (fun i => pm_part (S.1 35 10 - S.1 35 11) (S.1 42) n i) (fun i => pm_leak (pu_hm S) n (S.1 44) (S.1 45) mr (nI i) 9) 601 n) (S.1 35 14)) (pm_G (pu_hm S) (S.1 35 16) (S.1 35 12) (S.1 35 9) (S.1 35 14) n (pu_all (nI n)))) (pm_best (fun t => pm_TA (pu_hm S) (S.1 35 16) n hh (S.1 35 11 + 0) (S.1 35 14) (S.1 35 15) (pm_sm (S.1 42) n) t) (2 ^ n - 1)).2) (pm_best (fun t => pm_TA (pu_hm S) (S.1 35 16) n hh (S.1 35 11 + 0) (S.1 35 14) (S.1 35 15) (pm_sm (S.1 42) n) t) (2 ^ n - 1)).1) (pm_TA (pu_hm S) (S.1 35 16) n hh (S.1 35 11 + 9) (S.1 35 14) (S.1 35 15) (pm_sm (S.1 42) n) (S.1 35 9) - pm_TA (pu_hm S) (S.1 35 16) n hh (S.1 35 11 + 0) (S.1 35 14) (S.1 35 15) (pm_sm (S.1 42) n) (S.1 35 9))) (pm_leaks (fun i => pm_leak (pu_hm S) n (S.1 44) (S.1 45) mr (nI i) 9) n)) (am_look (pm_leaks (fun i => pm_leak (pu_hm S) n (S.1 44) (S.1 45) mr (nI i) 9) n) (S.1 37) n)) z) w) → vx_V p l e (vx_R 8 189) s m args below meth c (MQ below (vx_Q g (vx_pl (fun r S' => r = (dg_l (fun w => aw_cnt (S.1 35 0) (S.1 35 10) (S.1 35 11) (S.1 35 12) (pm_sm (S.1 42) n) (S.1 35 13) (S.1 35 15) (S.1 35 16) (S.1 35 17) (S.1 35 20) (nI w)) (dg_l (S.1 46) (dg_m (dg_m (dg_m (dg_m (dg_m (dg_m (dg_m (dg_H (fun i w => pm_hn (pu_hm S) (S.1 42) (S.1 43) (S.1 35 9) i (nI w)) (pm_W (pu_hm S) (S.1 35 12) (S.1 35 9) (S.1 35 14)) (fun i => pm_part (S.1 35 10 - S.1 35 11) (S.1 42) n i) (fun i => pm_leak (pu_hm S) n (S.1 44) (S.1 45) mr (nI i) 9) 601 n) (S.1 35 14)) (pm_G (pu_hm S) (S.1 35 16) (S.1 35 12) (S.1 35 9) (S.1 35 14) n (pu_all (nI n)))) (pm_best (fun t => pm_TA (pu_hm S) (S.1 35 16) n hh (S.1 35 11 + 0) (S.1 35 14) (S.1 35 15) (pm_sm (S.1 42) n) t) (2 ^ n - 1)).2) (pm_best (fun t => pm_TA (pu_hm S) (S.1 35 16) n hh (S.1 35 11 + 0) (S.1 35 14) (S.1 35 15) (pm_sm (S.1 42) n) t) (2 ^ n - 1)).1) (pm_TA (pu_hm S) (S.1 35 16) n hh (S.1 35 11 + 9) (S.1 35 14) (S.1 35 15) (pm_sm (S.1 42) n) (S.1 35 9) - pm_TA (pu_hm S) (S.1 35 16) n hh (S.1 35 11 + 0) (S.1 35 14) (S.1 35 15) (pm_sm (S.1 42) n) (S.1 35 9))) (pm_leaks (fun i => pm_leak (pu_hm S) n (S.1 44) (S.1 45) mr (nI i) 9) n)) (am_look (pm_leaks (fun i => pm_leak (pu_hm S) n (S.1 44) (S.1 45) mr (nI i) 9) n) (S.1 37) n)) z) 10) ∧ pm_same S S'))) args s 0 0 (vx_A g)) g 3 178 [(0, .ref (g.2.2.1 35)), (1, .int (nI w))] [] (S1) := by
    intro fu
    induction fu with
    | zero =>
      intro w S1 hfu
      exact absurd hfu.1 (by omega)
    | succ fu ih =>
      intro w S1 hfu
      obtain ⟨hf1, hf2, hc, hH⟩ := hfu
      refine vv_iload_n C dX5_digest_178 rfl 1 rfl ?_
      refine vv_bipush (v := (nI 10)) C dX5_digest_179 (by decide) ?_
      refine vv_icmp_ge (tgt := 200) C dX5_digest_181 (by decide) (fun h181 => ?_) (fun h181 => ?_)
      · have hge := pu_geT rfl (by omega) (by omega) h181
        obtain rfl : 10 = w := by omega
        refine vv_aload_n C dX5_digest_200 rfl 0 rfl ?_
        refine vv_getL C (a := 35) (k := 46) (o := 0) inlX5 rfl rfl rfl (by decide) rfl (tm_31 (List.mem_of_getElem? (i := 20) rfl)) dX5_digest_201 ?_
        refine vv_llret C dX5_digest_204 ?_
        exact ⟨hH, hc⟩
      · have hlt := pu_geF rfl (by omega) (by omega) h181
        refine vv_aload_n C dX5_digest_184 rfl 0 rfl ?_
        refine vv_aload_n C dX5_digest_185 rfl 0 rfl ?_
        refine vv_iload_n C dX5_digest_186 rfl 1 rfl ?_
        refine vv_cV_F C (a := 35) (kk_X5_howMany l g _ _ n (by rw [hc.2 0 (by omega)]; exact hn) hn8) yk_X5_howMany (tm_30 (List.mem_of_getElem? (i := 16) rfl)) rfl rfl rfl (by decide) rfl (Nat.le_of_ble_eq_true rfl) rfl dX5_digest_187 ?_
        rw [hc.2 0 (by omega), hc.2 10 (by omega), hc.2 11 (by omega), hc.2 12 (by omega), hc.2 13 (by omega), hc.2 15 (by omega), hc.2 16 (by omega), hc.2 17 (by omega), hc.2 20 (by omega), hc.1 42 (by decide)]
        refine vv_i2l C dX5_digest_190 ?_
        refine vv_cV_v C (a := 35) (kk_X5_mix l g _ _) yk_X5_mix (tm_31 (List.mem_of_getElem? (i := 21) rfl)) rfl rfl rfl (by decide) rfl (Nat.le_of_ble_eq_true rfl) rfl dX5_digest_191 (fun S191 h191 => ?_)
        obtain ⟨k191, e191⟩ := pm_mix hc hH h191
        refine vv_iincN (L' := [_, _]) (j := 1) C dX5_digest_194 rfl (by decide) rfl ?_
        refine vv_goto (tgt := 178) C dX5_digest_197 (by decide) ?_
        refine vv_sub (L' := [_, _]) [1, 0] rfl ?_
        exact ih (w + 1) S191 ⟨by omega, by omega, k191, e191⟩
  have lp151 : ∀ (fu : Nat) (i : Nat) (S1 : vx_St), (z - i < fu ∧ i ≤ z ∧ pm_same S S1 ∧ S1.2 35 46 = dg_l (S.1 46) (dg_m (dg_m (dg_m (dg_m (dg_m (dg_m (dg_m (dg_H (fun i w => pm_hn (pu_hm S) (S.1 42) (S.1 43) (S.1 35 9) i (nI w)) (pm_W (pu_hm S) (S.1 35 12) (S.1 35 9) (S.1 35 14)) (fun i => pm_part (S.1 35 10 - S.1 35 11) (S.1 42) n i) (fun i => pm_leak (pu_hm S) n (S.1 44) (S.1 45) mr (nI i) 9) 601 n) (S.1 35 14)) (pm_G (pu_hm S) (S.1 35 16) (S.1 35 12) (S.1 35 9) (S.1 35 14) n (pu_all (nI n)))) (pm_best (fun t => pm_TA (pu_hm S) (S.1 35 16) n hh (S.1 35 11 + 0) (S.1 35 14) (S.1 35 15) (pm_sm (S.1 42) n) t) (2 ^ n - 1)).2) (pm_best (fun t => pm_TA (pu_hm S) (S.1 35 16) n hh (S.1 35 11 + 0) (S.1 35 14) (S.1 35 15) (pm_sm (S.1 42) n) t) (2 ^ n - 1)).1) (pm_TA (pu_hm S) (S.1 35 16) n hh (S.1 35 11 + 9) (S.1 35 14) (S.1 35 15) (pm_sm (S.1 42) n) (S.1 35 9) - pm_TA (pu_hm S) (S.1 35 16) n hh (S.1 35 11 + 0) (S.1 35 14) (S.1 35 15) (pm_sm (S.1 42) n) (S.1 35 9))) (pm_leaks (fun i => pm_leak (pu_hm S) n (S.1 44) (S.1 45) mr (nI i) 9) n)) (am_look (pm_leaks (fun i => pm_leak (pu_hm S) n (S.1 44) (S.1 45) mr (nI i) 9) n) (S.1 37) n)) i) → vx_V p l e (vx_R 8 189) s m args below meth c (MQ below (vx_Q g (vx_pl (fun r S' => r = (dg_l (fun w => aw_cnt (S.1 35 0) (S.1 35 10) (S.1 35 11) (S.1 35 12) (pm_sm (S.1 42) n) (S.1 35 13) (S.1 35 15) (S.1 35 16) (S.1 35 17) (S.1 35 20) (nI w)) (dg_l (S.1 46) (dg_m (dg_m (dg_m (dg_m (dg_m (dg_m (dg_m (dg_H (fun i w => pm_hn (pu_hm S) (S.1 42) (S.1 43) (S.1 35 9) i (nI w)) (pm_W (pu_hm S) (S.1 35 12) (S.1 35 9) (S.1 35 14)) (fun i => pm_part (S.1 35 10 - S.1 35 11) (S.1 42) n i) (fun i => pm_leak (pu_hm S) n (S.1 44) (S.1 45) mr (nI i) 9) 601 n) (S.1 35 14)) (pm_G (pu_hm S) (S.1 35 16) (S.1 35 12) (S.1 35 9) (S.1 35 14) n (pu_all (nI n)))) (pm_best (fun t => pm_TA (pu_hm S) (S.1 35 16) n hh (S.1 35 11 + 0) (S.1 35 14) (S.1 35 15) (pm_sm (S.1 42) n) t) (2 ^ n - 1)).2) (pm_best (fun t => pm_TA (pu_hm S) (S.1 35 16) n hh (S.1 35 11 + 0) (S.1 35 14) (S.1 35 15) (pm_sm (S.1 42) n) t) (2 ^ n - 1)).1) (pm_TA (pu_hm S) (S.1 35 16) n hh (S.1 35 11 + 9) (S.1 35 14) (S.1 35 15) (pm_sm (S.1 42) n) (S.1 35 9) - pm_TA (pu_hm S) (S.1 35 16) n hh (S.1 35 11 + 0) (S.1 35 14) (S.1 35 15) (pm_sm (S.1 42) n) (S.1 35 9))) (pm_leaks (fun i => pm_leak (pu_hm S) n (S.1 44) (S.1 45) mr (nI i) 9) n)) (am_look (pm_leaks (fun i => pm_leak (pu_hm S) n (S.1 44) (S.1 45) mr (nI i) 9) n) (S.1 37) n)) z) 10) ∧ pm_same S S'))) args s 0 0 (vx_A g)) g 3 151 [(0, .ref (g.2.2.1 35)), (1, .int (nI i))] [] (S1) := by
    intro fu
    induction fu with
    | zero =>
      intro i S1 hfu
      exact absurd hfu.1 (by omega)
    | succ fu ih =>
      intro i S1 hfu
      obtain ⟨hf1, hf2, hc, hH⟩ := hfu
      refine vv_iload_n C dX5_digest_151 rfl 1 rfl ?_
      refine vv_aload_n C dX5_digest_152 rfl 0 rfl ?_
      refine vv_getI C (a := 35) (k := 20) (o := 0) inlX5 rfl rfl rfl (by decide) rfl (tm_5 (List.mem_of_getElem? (i := 7) rfl)) dX5_digest_153 ?_
      refine vv_icmp_ge (tgt := 176) C dX5_digest_156 (by decide) (fun h156 => ?_) (fun h156 => ?_)
      · have hge := pu_geT (n := z) (by rw [hc.2 20 (by omega)]; exact hz) (by omega) (by omega) h156
        obtain rfl : z = i := by omega
        refine vv_iconst (v := (nI 0)) C dX5_digest_176 (by decide) ?_
        refine vv_istore_n (i := 1) (L' := [_, _]) C dX5_digest_177 rfl (by decide) rfl ?_
        refine vv_sub (L' := [_, _]) [1, 0] rfl ?_
        exact lp178 11 0 S1 ⟨by omega, by omega, hc, hH⟩
      · have hlt := pu_geF (n := z) (by rw [hc.2 20 (by omega)]; exact hz) (by omega) (by omega) h156
        refine vv_aload_n C dX5_digest_159 rfl 0 rfl ?_
        refine vv_aload_n C dX5_digest_160 rfl 0 rfl ?_
        refine vv_gR C (a := 35) (k := 21) (b := 46) inlX5 rfl rfl rfl rfl (by decide) rfl (tm_4 (List.mem_of_getElem? (i := 7) rfl)) dX5_digest_161 ?_
        refine vv_iload_n C dX5_digest_164 rfl 1 rfl ?_
        refine vv_baldN C (a := 46) rfl (by omega) (by decide) dX5_digest_165 ?_
        rw [hc.1 46 (by decide)]
        refine vv_i2l C dX5_digest_166 ?_
        refine vv_cV_v C (a := 35) (kk_X5_mix l g _ _) yk_X5_mix (tm_31 (List.mem_of_getElem? (i := 21) rfl)) rfl rfl rfl (by decide) rfl (Nat.le_of_ble_eq_true rfl) rfl dX5_digest_167 (fun S167 h167 => ?_)
        obtain ⟨k167, e167⟩ := pm_mix hc hH h167
        refine vv_iincN (L' := [_, _]) (j := 1) C dX5_digest_170 rfl (by decide) rfl ?_
        refine vv_goto (tgt := 151) C dX5_digest_173 (by decide) ?_
        refine vv_sub (L' := [_, _]) [1, 0] rfl ?_
        exact ih (i + 1) S167 ⟨by omega, by omega, k167, e167⟩
  have lp9 : ∀ (fu : Nat) (i : Nat) (S1 : vx_St), (n - i < fu ∧ i ≤ n ∧ pm_same S S1 ∧ S1.2 35 46 = dg_H (fun i w => pm_hn (pu_hm S) (S.1 42) (S.1 43) (S.1 35 9) i (nI w)) (pm_W (pu_hm S) (S.1 35 12) (S.1 35 9) (S.1 35 14)) (fun i => pm_part (S.1 35 10 - S.1 35 11) (S.1 42) n i) (fun i => pm_leak (pu_hm S) n (S.1 44) (S.1 45) mr (nI i) 9) 601 i) → vx_V p l e (vx_R 8 189) s m args below meth c (MQ below (vx_Q g (vx_pl (fun r S' => r = (dg_l (fun w => aw_cnt (S.1 35 0) (S.1 35 10) (S.1 35 11) (S.1 35 12) (pm_sm (S.1 42) n) (S.1 35 13) (S.1 35 15) (S.1 35 16) (S.1 35 17) (S.1 35 20) (nI w)) (dg_l (S.1 46) (dg_m (dg_m (dg_m (dg_m (dg_m (dg_m (dg_m (dg_H (fun i w => pm_hn (pu_hm S) (S.1 42) (S.1 43) (S.1 35 9) i (nI w)) (pm_W (pu_hm S) (S.1 35 12) (S.1 35 9) (S.1 35 14)) (fun i => pm_part (S.1 35 10 - S.1 35 11) (S.1 42) n i) (fun i => pm_leak (pu_hm S) n (S.1 44) (S.1 45) mr (nI i) 9) 601 n) (S.1 35 14)) (pm_G (pu_hm S) (S.1 35 16) (S.1 35 12) (S.1 35 9) (S.1 35 14) n (pu_all (nI n)))) (pm_best (fun t => pm_TA (pu_hm S) (S.1 35 16) n hh (S.1 35 11 + 0) (S.1 35 14) (S.1 35 15) (pm_sm (S.1 42) n) t) (2 ^ n - 1)).2) (pm_best (fun t => pm_TA (pu_hm S) (S.1 35 16) n hh (S.1 35 11 + 0) (S.1 35 14) (S.1 35 15) (pm_sm (S.1 42) n) t) (2 ^ n - 1)).1) (pm_TA (pu_hm S) (S.1 35 16) n hh (S.1 35 11 + 9) (S.1 35 14) (S.1 35 15) (pm_sm (S.1 42) n) (S.1 35 9) - pm_TA (pu_hm S) (S.1 35 16) n hh (S.1 35 11 + 0) (S.1 35 14) (S.1 35 15) (pm_sm (S.1 42) n) (S.1 35 9))) (pm_leaks (fun i => pm_leak (pu_hm S) n (S.1 44) (S.1 45) mr (nI i) 9) n)) (am_look (pm_leaks (fun i => pm_leak (pu_hm S) n (S.1 44) (S.1 45) mr (nI i) 9) n) (S.1 37) n)) z) 10) ∧ pm_same S S'))) args s 0 0 (vx_A g)) g 3 9 [(0, .ref (g.2.2.1 35)), (1, .int (nI i))] [] (S1) := by
    intro fu
    induction fu with
    | zero =>
      intro i S1 hfu
      exact absurd hfu.1 (by omega)
    | succ fu ih =>
      intro i S1 hfu
      obtain ⟨hf1, hf2, hc, hH⟩ := hfu
      have lp19 : ∀ (fu : Nat) (w : Nat) (S2 : vx_St), (9 - w < fu ∧ w ≤ 9 ∧ i < n ∧ pm_same S S2 ∧ S2.2 35 46 = dg_l ((fun i w => pm_hn (pu_hm S) (S.1 42) (S.1 43) (S.1 35 9) i (nI w)) i) (dg_H (fun i w => pm_hn (pu_hm S) (S.1 42) (S.1 43) (S.1 35 9) i (nI w)) (pm_W (pu_hm S) (S.1 35 12) (S.1 35 9) (S.1 35 14)) (fun i => pm_part (S.1 35 10 - S.1 35 11) (S.1 42) n i) (fun i => pm_leak (pu_hm S) n (S.1 44) (S.1 45) mr (nI i) 9) 601 i) w) → vx_V p l e (vx_R 8 189) s m args below meth c (MQ below (vx_Q g (vx_pl (fun r S' => r = (dg_l (fun w => aw_cnt (S.1 35 0) (S.1 35 10) (S.1 35 11) (S.1 35 12) (pm_sm (S.1 42) n) (S.1 35 13) (S.1 35 15) (S.1 35 16) (S.1 35 17) (S.1 35 20) (nI w)) (dg_l (S.1 46) (dg_m (dg_m (dg_m (dg_m (dg_m (dg_m (dg_m (dg_H (fun i w => pm_hn (pu_hm S) (S.1 42) (S.1 43) (S.1 35 9) i (nI w)) (pm_W (pu_hm S) (S.1 35 12) (S.1 35 9) (S.1 35 14)) (fun i => pm_part (S.1 35 10 - S.1 35 11) (S.1 42) n i) (fun i => pm_leak (pu_hm S) n (S.1 44) (S.1 45) mr (nI i) 9) 601 n) (S.1 35 14)) (pm_G (pu_hm S) (S.1 35 16) (S.1 35 12) (S.1 35 9) (S.1 35 14) n (pu_all (nI n)))) (pm_best (fun t => pm_TA (pu_hm S) (S.1 35 16) n hh (S.1 35 11 + 0) (S.1 35 14) (S.1 35 15) (pm_sm (S.1 42) n) t) (2 ^ n - 1)).2) (pm_best (fun t => pm_TA (pu_hm S) (S.1 35 16) n hh (S.1 35 11 + 0) (S.1 35 14) (S.1 35 15) (pm_sm (S.1 42) n) t) (2 ^ n - 1)).1) (pm_TA (pu_hm S) (S.1 35 16) n hh (S.1 35 11 + 9) (S.1 35 14) (S.1 35 15) (pm_sm (S.1 42) n) (S.1 35 9) - pm_TA (pu_hm S) (S.1 35 16) n hh (S.1 35 11 + 0) (S.1 35 14) (S.1 35 15) (pm_sm (S.1 42) n) (S.1 35 9))) (pm_leaks (fun i => pm_leak (pu_hm S) n (S.1 44) (S.1 45) mr (nI i) 9) n)) (am_look (pm_leaks (fun i => pm_leak (pu_hm S) n (S.1 44) (S.1 45) mr (nI i) 9) n) (S.1 37) n)) z) 10) ∧ pm_same S S'))) args s 0 0 (vx_A g)) g 3 19 [(0, .ref (g.2.2.1 35)), (1, .int (nI i)), (2, .int (nI w))] [] (S2) := by
        intro fv
        induction fv with
        | zero =>
          intro w S2 hfu
          exact absurd hfu.1 (by omega)
        | succ fv ih2 =>
          intro w S2 hfu
          obtain ⟨hw1, hw2, hlt, hc2, hH2⟩ := hfu
          refine vv_iload_n C dX5_digest_19 rfl 2 rfl ?_
          refine vv_bipush (v := (nI 9)) C dX5_digest_20 (by decide) ?_
          refine vv_icmp_ge (tgt := 42) C dX5_digest_22 (by decide) (fun h22 => ?_) (fun h22 => ?_)
          · have hge := pu_geT rfl (by omega) (by omega) h22
            obtain rfl : 9 = w := by omega
            refine vv_aload_n C dX5_digest_42 rfl 0 rfl ?_
            refine vv_aload_n C dX5_digest_43 rfl 0 rfl ?_
            refine vv_iload_n C dX5_digest_44 rfl 1 rfl ?_
            refine vv_cV_F C (a := 35) (kk_X5_wantsNow l g _ i (by omega)) yk_X5_wantsNow (tm_15 (List.mem_of_getElem? (i := 12) rfl)) rfl rfl rfl (by decide) rfl (Nat.le_of_ble_eq_true rfl) rfl dX5_digest_45 ?_
            rw [pm_same_hm hc2, hc2.2 12 (by omega), hc2.2 9 (by omega), hc2.2 14 (by omega)]
            refine vv_i2l C dX5_digest_48 ?_
            refine vv_cV_v C (a := 35) (kk_X5_mix l g _ _) yk_X5_mix (tm_31 (List.mem_of_getElem? (i := 21) rfl)) rfl rfl rfl (by decide) rfl (Nat.le_of_ble_eq_true rfl) rfl dX5_digest_49 (fun S49 h49 => ?_)
            obtain ⟨k49, e49⟩ := pm_mix hc2 hH2 h49
            refine vv_aload_n C dX5_digest_52 rfl 0 rfl ?_
            refine vv_aload_n C dX5_digest_53 rfl 0 rfl ?_
            refine vv_iload_n C dX5_digest_54 rfl 1 rfl ?_
            refine vv_cV_F C (a := 35) (kk_X5_partOf l g _ i n (by rw [k49.2 0 (by omega)]; exact hn) hn8 hlt) yk_X5_partOf (tm_20 (List.mem_of_getElem? (i := 7) rfl)) rfl rfl rfl (by decide) rfl (Nat.le_of_ble_eq_true rfl) rfl dX5_digest_55 ?_
            rw [k49.2 10 (by omega), k49.2 11 (by omega), k49.1 42 (by decide)]
            refine vv_i2l C dX5_digest_58 ?_
            refine vv_cV_v C (a := 35) (kk_X5_mix l g _ _) yk_X5_mix (tm_31 (List.mem_of_getElem? (i := 21) rfl)) rfl rfl rfl (by decide) rfl (Nat.le_of_ble_eq_true rfl) rfl dX5_digest_59 (fun S59 h59 => ?_)
            obtain ⟨k59, e59⟩ := pm_mix k49 e49 h59
            refine vv_aload_n C dX5_digest_62 rfl 0 rfl ?_
            refine vv_aload_n C dX5_digest_63 rfl 0 rfl ?_
            refine vv_iload_n C dX5_digest_64 rfl 1 rfl ?_
            refine vv_cV_F C (a := 35) (kk_X5_leakNow l g _ _ n (by rw [k59.2 0 (by omega)]; exact hn) hn8 mr (by rw [k59.2 17 (by omega)]; exact hm) hm8) yk_X5_leakNow (tm_27 (List.mem_of_getElem? (i := 17) rfl)) rfl rfl rfl (by decide) rfl (Nat.le_of_ble_eq_true rfl) rfl dX5_digest_65 ?_
            rw [pm_same_hm k59, k59.1 44 (by decide), k59.1 45 (by decide)]
            refine vv_i2l C dX5_digest_68 ?_
            refine vv_cV_v C (a := 35) (kk_X5_mix l g _ _) yk_X5_mix (tm_31 (List.mem_of_getElem? (i := 21) rfl)) rfl rfl rfl (by decide) rfl (Nat.le_of_ble_eq_true rfl) rfl dX5_digest_69 (fun S69 h69 => ?_)
            obtain ⟨k69, e69⟩ := pm_mix k59 e59 h69
            refine vv_iincN (L' := [_, _, _]) (j := 1) C dX5_digest_72 rfl (by decide) rfl ?_
            refine vv_goto (tgt := 9) C dX5_digest_75 (by decide) ?_
            refine vv_sub (L' := [_, _]) [1, 0] rfl ?_
            exact ih (i + 1) S69 ⟨by omega, by omega, k69, e69⟩
          · have hlw := pu_geF rfl (by omega) (by omega) h22
            refine vv_aload_n C dX5_digest_25 rfl 0 rfl ?_
            refine vv_aload_n C dX5_digest_26 rfl 0 rfl ?_
            refine vv_iload_n C dX5_digest_27 rfl 1 rfl ?_
            refine vv_iload_n C dX5_digest_28 rfl 2 rfl ?_
            refine vv_cV_F C (a := 35) (kk_X5_houseNow l g _ i (by omega) _) yk_X5_houseNow (tm_12 (List.mem_of_getElem? (i := 23) rfl)) rfl rfl rfl (by decide) rfl (Nat.le_of_ble_eq_true rfl) rfl dX5_digest_29 ?_
            rw [pm_same_hm hc2, hc2.1 42 (by decide), hc2.1 43 (by decide), hc2.2 9 (by omega)]
            refine vv_i2l C dX5_digest_32 ?_
            refine vv_cV_v C (a := 35) (kk_X5_mix l g _ _) yk_X5_mix (tm_31 (List.mem_of_getElem? (i := 21) rfl)) rfl rfl rfl (by decide) rfl (Nat.le_of_ble_eq_true rfl) rfl dX5_digest_33 (fun S33 h33 => ?_)
            obtain ⟨k33, e33⟩ := pm_mix hc2 hH2 h33
            refine vv_iincN (L' := [_, _, _]) (j := 2) C dX5_digest_36 rfl (by decide) rfl ?_
            refine vv_goto (tgt := 19) C dX5_digest_39 (by decide) ?_
            refine vv_sub (L' := [_, _, _]) [1, 2, 0] rfl ?_
            exact ih2 (w + 1) S33 ⟨by omega, by omega, hlt, k33, e33⟩
      refine vv_iload_n C dX5_digest_9 rfl 1 rfl ?_
      refine vv_aload_n C dX5_digest_10 rfl 0 rfl ?_
      refine vv_getI C (a := 35) (k := 0) (o := 0) inlX5 rfl rfl rfl (by decide) rfl (tm_10 (List.mem_of_getElem? (i := 18) rfl)) dX5_digest_11 ?_
      refine vv_icmp_ge (tgt := 78) C dX5_digest_14 (by decide) (fun h14 => ?_) (fun h14 => ?_)
      · have hge := pu_geT (n := n) (by rw [hc.2 0 (by omega)]; exact hn) (by omega) (by omega) h14
        obtain rfl : n = i := by omega
        refine vv_aload_n C dX5_digest_78 rfl 0 rfl ?_
        refine vv_aload_n C dX5_digest_79 rfl 0 rfl ?_
        refine vv_getI C (a := 35) (k := 14) (o := 0) inlX5 rfl rfl rfl (by decide) rfl (tm_15 (List.mem_of_getElem? (i := 16) rfl)) dX5_digest_80 ?_
        rw [hc.2 14 (by omega)]
        refine vv_i2l C dX5_digest_83 ?_
        refine vv_cV_v C (a := 35) (kk_X5_mix l g _ _) yk_X5_mix (tm_31 (List.mem_of_getElem? (i := 21) rfl)) rfl rfl rfl (by decide) rfl (Nat.le_of_ble_eq_true rfl) rfl dX5_digest_84 (fun S84 h84 => ?_)
        obtain ⟨k84, e84⟩ := pm_mix hc hH h84
        refine vv_aload_n C dX5_digest_87 rfl 0 rfl ?_
        refine vv_aload_n C dX5_digest_88 rfl 0 rfl ?_
        refine vv_aload_n C dX5_digest_89 rfl 0 rfl ?_
        refine vv_cV_F C (a := 35) (kk_X5_everybody l g _) yk_X5_everybody (tm_16 (List.mem_of_getElem? (i := 23) rfl)) rfl rfl rfl (by decide) rfl (Nat.le_of_ble_eq_true rfl) rfl dX5_digest_90 ?_
        rw [show S84.1 35 0 = nI n from by rw [k84.2 0 (by omega)]; exact hn]
        refine vv_cV_F C (a := 35) (kk_X5_goesBy l g _ _ n (by rw [k84.2 0 (by omega)]; exact hn) hn8) yk_X5_goesBy (tm_17 (List.mem_of_getElem? (i := 3) rfl)) rfl rfl rfl (by decide) rfl (Nat.le_of_ble_eq_true rfl) rfl dX5_digest_93 ?_
        rw [pm_same_hm k84, k84.2 16 (by omega), k84.2 12 (by omega), k84.2 9 (by omega), k84.2 14 (by omega)]
        refine vv_i2l C dX5_digest_96 ?_
        refine vv_cV_v C (a := 35) (kk_X5_mix l g _ _) yk_X5_mix (tm_31 (List.mem_of_getElem? (i := 21) rfl)) rfl rfl rfl (by decide) rfl (Nat.le_of_ble_eq_true rfl) rfl dX5_digest_97 (fun S97 h97 => ?_)
        obtain ⟨k97, e97⟩ := pm_mix k84 e84 h97
        refine vv_aload_n C dX5_digest_100 rfl 0 rfl ?_
        refine vv_aload_n C dX5_digest_101 rfl 0 rfl ?_
        refine vv_iconst (v := (0)) C dX5_digest_102 (by decide) ?_
        refine vv_cV_i C (a := 35) (kk_X5_planNow l g _ _ n (by rw [k97.2 0 (by omega)]; exact hn) hn8 (by rw [k97.2 15 (by omega)]; exact hb15) (by rw [k97.2 16 (by omega)]; exact hb16) hh (by rw [k97.2 12 (by omega)]; exact hhr) hh9) yk_X5_planNow (tm_22 (List.mem_of_getElem? (i := 10) rfl)) rfl rfl rfl (by decide) rfl (Nat.le_of_ble_eq_true rfl) rfl dX5_digest_103 (fun r103 S103 h103 => ?_)
        obtain ⟨e103, c103, l103⟩ := h103
        rw [if_pos rfl, pm_same_hm k97, k97.2 16 (by omega), k97.2 11 (by omega), k97.2 14 (by omega), k97.2 15 (by omega), k97.1 42 (by decide)] at e103
        subst e103
        have k103 := pm_same_tr k97 c103
        refine vv_i2l C dX5_digest_106 ?_
        refine vv_cV_v C (a := 35) (kk_X5_mix l g _ _) yk_X5_mix (tm_31 (List.mem_of_getElem? (i := 21) rfl)) rfl rfl rfl (by decide) rfl (Nat.le_of_ble_eq_true rfl) rfl dX5_digest_107 (fun S107 h107 => ?_)
        obtain ⟨k107, e107⟩ := pm_mix k103 ((congrFun (congrFun l103 35) 46).trans e97) h107
        refine vv_aload_n C dX5_digest_110 rfl 0 rfl ?_
        refine vv_aload_n C dX5_digest_111 rfl 0 rfl ?_
        refine vv_iconst (v := (1)) C dX5_digest_112 (by decide) ?_
        refine vv_cV_i C (a := 35) (kk_X5_planNow l g _ _ n (by rw [k107.2 0 (by omega)]; exact hn) hn8 (by rw [k107.2 15 (by omega)]; exact hb15) (by rw [k107.2 16 (by omega)]; exact hb16) hh (by rw [k107.2 12 (by omega)]; exact hhr) hh9) yk_X5_planNow (tm_22 (List.mem_of_getElem? (i := 10) rfl)) rfl rfl rfl (by decide) rfl (Nat.le_of_ble_eq_true rfl) rfl dX5_digest_113 (fun r113 S113 h113 => ?_)
        obtain ⟨e113, c113, l113⟩ := h113
        rw [if_neg (show ¬ (1 : Int32) = 0 by decide), pm_same_hm k107, k107.2 16 (by omega), k107.2 11 (by omega), k107.2 14 (by omega), k107.2 15 (by omega), k107.1 42 (by decide)] at e113
        subst e113
        have k113 := pm_same_tr k107 c113
        refine vv_i2l C dX5_digest_116 ?_
        refine vv_cV_v C (a := 35) (kk_X5_mix l g _ _) yk_X5_mix (tm_31 (List.mem_of_getElem? (i := 21) rfl)) rfl rfl rfl (by decide) rfl (Nat.le_of_ble_eq_true rfl) rfl dX5_digest_117 (fun S117 h117 => ?_)
        obtain ⟨k117, e117⟩ := pm_mix k113 ((congrFun (congrFun l113 35) 46).trans e107) h117
        refine vv_aload_n C dX5_digest_120 rfl 0 rfl ?_
        refine vv_aload_n C dX5_digest_121 rfl 0 rfl ?_
        refine vv_bipush (v := (9)) C dX5_digest_122 (by decide) ?_
        refine vv_cV_i C (a := 35) (kk_X5_moreNow l g _ _ n (by rw [k117.2 0 (by omega)]; exact hn) hn8 (by rw [k117.2 15 (by omega)]; exact hb15) (by rw [k117.2 16 (by omega)]; exact hb16) hh (by rw [k117.2 12 (by omega)]; exact hhr) hh9) yk_X5_moreNow (tm_23 (List.mem_of_getElem? (i := 20) rfl)) rfl rfl rfl (by decide) rfl (Nat.le_of_ble_eq_true rfl) rfl dX5_digest_124 (fun r124 S124 h124 => ?_)
        obtain ⟨e124, c124, l124⟩ := h124
        rw [pm_TAc k117, pm_TAc k117, k117.2 9 (by omega)] at e124
        subst e124
        have k124 := pm_same_tr k117 c124
        refine vv_i2l C dX5_digest_127 ?_
        refine vv_cV_v C (a := 35) (kk_X5_mix l g _ _) yk_X5_mix (tm_31 (List.mem_of_getElem? (i := 21) rfl)) rfl rfl rfl (by decide) rfl (Nat.le_of_ble_eq_true rfl) rfl dX5_digest_128 (fun S128 h128 => ?_)
        obtain ⟨k128, e128⟩ := pm_mix k124 ((congrFun (congrFun l124 35) 46).trans e117) h128
        refine vv_aload_n C dX5_digest_131 rfl 0 rfl ?_
        refine vv_aload_n C dX5_digest_132 rfl 0 rfl ?_
        refine vv_cV_F C (a := 35) (kk_X5_leaksNow l g _ n (by rw [k128.2 0 (by omega)]; exact hn) hn8 mr (by rw [k128.2 17 (by omega)]; exact hm) hm8) yk_X5_leaksNow (tm_27 (List.mem_of_getElem? (i := 13) rfl)) rfl rfl rfl (by decide) rfl (Nat.le_of_ble_eq_true rfl) rfl dX5_digest_133 ?_
        rw [pm_same_hm k128, k128.1 44 (by decide), k128.1 45 (by decide)]
        refine vv_i2l C dX5_digest_136 ?_
        refine vv_cV_v C (a := 35) (kk_X5_mix l g _ _) yk_X5_mix (tm_31 (List.mem_of_getElem? (i := 21) rfl)) rfl rfl rfl (by decide) rfl (Nat.le_of_ble_eq_true rfl) rfl dX5_digest_137 (fun S137 h137 => ?_)
        obtain ⟨k137, e137⟩ := pm_mix k128 e128 h137
        refine vv_aload_n C dX5_digest_140 rfl 0 rfl ?_
        refine vv_aload_n C dX5_digest_141 rfl 0 rfl ?_
        refine vv_cV_F C (a := 35) (kk_X5_lookNow l g _ n (by rw [k137.2 0 (by omega)]; exact hn) hn8 mr (by rw [k137.2 17 (by omega)]; exact hm) hm8) yk_X5_lookNow (tm_28 (List.mem_of_getElem? (i := 19) rfl)) rfl rfl rfl (by decide) rfl (Nat.le_of_ble_eq_true rfl) rfl dX5_digest_142 ?_
        rw [pm_same_hm k137, k137.1 44 (by decide), k137.1 45 (by decide), k137.1 37 (by decide)]
        refine vv_i2l C dX5_digest_145 ?_
        refine vv_cV_v C (a := 35) (kk_X5_mix l g _ _) yk_X5_mix (tm_31 (List.mem_of_getElem? (i := 21) rfl)) rfl rfl rfl (by decide) rfl (Nat.le_of_ble_eq_true rfl) rfl dX5_digest_146 (fun S146 h146 => ?_)
        obtain ⟨k146, e146⟩ := pm_mix k137 e137 h146
        refine vv_iconst (v := (nI 0)) C dX5_digest_149 (by decide) ?_
        refine vv_istore_n (i := 1) (L' := [_, _]) C dX5_digest_150 rfl (by decide) rfl ?_
        refine vv_sub (L' := [_, _]) [1, 0] rfl ?_
        exact lp151 (z + 1) 0 S146 ⟨by omega, by omega, k146, e146⟩
      · have hlt := pu_geF (n := n) (by rw [hc.2 0 (by omega)]; exact hn) (by omega) (by omega) h14
        refine vv_iconst (v := (nI 0)) C dX5_digest_17 (by decide) ?_
        refine vv_istore_n (i := 2) (L' := [_, _, _]) C dX5_digest_18 rfl (by decide) rfl ?_
        refine vv_sub (L' := [_, _, _]) [1, 2, 0] rfl ?_
        exact lp19 10 0 S1 ⟨by omega, by omega, hlt, hc, hH⟩
  refine vv_aload_n C dX5_digest_0 rfl 0 rfl ?_
  refine vv_ldc2 C (tm_31 (List.mem_of_getElem? (i := 19) rfl)) dX5_digest_1 ?_
  refine vv_putL C (a := 35) (k := 46) inlX5 tyX5 tyX5_ok nmX5 rfl rfl rfl (by decide) rfl rfl rfl (tm_31 (List.mem_of_getElem? (i := 20) rfl)) dX5_digest_4 ?_
  refine vv_iconst (v := (nI 0)) C dX5_digest_7 (by decide) ?_
  refine vv_istore_n (i := 1) (L' := [_, _]) C dX5_digest_8 rfl (by decide) rfl ?_
  refine vv_sub (L' := [_, _]) [1, 0] rfl ?_
  exact lp9 (n + 1) 0 _ ⟨by omega, by omega, pm_same_0 S _, pm_uL46 S _⟩
