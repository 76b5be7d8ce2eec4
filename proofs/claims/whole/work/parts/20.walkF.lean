theorem vv_mix {p : Program} {l : Launch} {e : Env} {R : Room} {s : State} {m : MethodId} {args : Array Value} {below : List Frame} {meth : Method} {c : Code} {Q : State → Prop} {g : vx_G} {nL pc : Nat} {L : List (Nat × Value)} {st : List Value} {S : vx_St} {h : Int64} {v : Int32} (k : vx_V p l e R s m args below meth c Q g nL pc L (.long (dg_m h v) :: st) S) : vx_V p l e R s m args below meth c Q g nL pc L (.long (31 * h + v.toInt64) :: st) S := k
theorem yk_X4_digest : vx_yV yX4_digest cX4_digest 5 (some .long) 0 := ⟨(tm_30 (List.mem_of_getElem? (i := 23) rfl)), (tm_1 (List.mem_of_getElem? (i := 2) rfl)), by decide +kernel, (tm_30 (List.mem_of_getElem? (i := 21) rfl)), (tm_30 (List.mem_of_getElem? (i := 22) rfl))⟩
set_option maxHeartbeats 4000000 in
set_option maxRecDepth 100000 in
theorem kk_X4_digest (l : Launch) (g : vx_G) (S : vx_St) (z : Nat) (hz : S.1 1 0 = nI z) (hz12 : z ≤ 12) (n : Nat) (hn : S.1 3 0 = nI n) (hn8 : n ≤ 8) (hb6 : vx_b01 (S.1 11 6) = S.1 11 6) (hb7 : vx_b01 (S.1 11 7) = S.1 11 7) (hh : Nat) (hhr : S.1 11 2 = nI hh) (hh9 : hh ≤ 9) (mr : Nat) (hm : S.1 17 0 = nI mr) (hm8 : mr ≤ 8) : vx_M l g yX4_digest cX4_digest 5 (some .long) (vx_R 6 142) [.ref (g.2.2.1 0)] S (vx_pl (fun r S' => r = (dg_l (fun w => aw_cnt (S.1 3 0) (S.1 11 0) (S.1 11 1) (S.1 11 2) (S.1 11 8) (S.1 11 3) (S.1 11 7) (S.1 11 6) (S.1 17 0) (S.1 1 0) (nI w)) (dg_l (S.1 2) (dg_m (dg_m (dg_m (dg_m (dg_m (dg_m (dg_m (dg_H (fun i w => aw_about (S.1 3 0) (pu_hs S) (S.1 12) (S.1 13) (S.1 11 5) (nI i) (nI w)) (fun i => aw_want (S.1 3 0) (pu_hs S) (S.1 11 2) (S.1 11 5) (S.1 11 4) (nI i)) (fun i => pu_pts (S.1 11 0 - S.1 11 1) (S.1 11 8) (S.1 12) pu_z pu_z n i) (fun i => pu_leak (S.1 18) (S.1 19) (nI i) mr 9) 601 n) (S.1 11 4)) (pu_G (pu_hs S) (S.1 10) (S.1 11 6) (S.1 11 2) (S.1 11 5) (S.1 11 4) n (pu_all (nI n)))) (pu_TA (pu_hs S) (S.1 10) (S.1 11 6) n hh (S.1 11 1) (S.1 11 4) (S.1 11 7) (S.1 11 8) (pu_best (fun t => pu_TA (pu_hs S) (S.1 10) (S.1 11 6) n hh (S.1 11 1) (S.1 11 4) (S.1 11 7) (S.1 11 8) t) (2 ^ n - 1)).1)) (pu_best (fun t => pu_TA (pu_hs S) (S.1 10) (S.1 11 6) n hh (S.1 11 1) (S.1 11 4) (S.1 11 7) (S.1 11 8) t) (2 ^ n - 1)).1) (pu_TA (pu_hs S) (S.1 10) (S.1 11 6) n hh (S.1 11 1 + 9) (S.1 11 4) (S.1 11 7) (S.1 11 8) (S.1 11 5) - pu_TA (pu_hs S) (S.1 10) (S.1 11 6) n hh (S.1 11 1) (S.1 11 4) (S.1 11 7) (S.1 11 8) (S.1 11 5))) (pu_leaks (S.1 18) (S.1 19) mr n)) (aw_look (pu_leaks (S.1 18) (S.1 19) mr n) (S.1 10) n)) z) 10) ∧ pu_chg S S' [14, 15, 16, 20, 21, 22, 23])) := by
  refine vx_M.intro (by decide) (Nat.le_of_ble_eq_true rfl) ?_
  intro p e s m args below meth c C
  have lp153 : ∀ (fu : Nat) (w : Nat) (hb : Int64) (S1 : vx_St), (10 - w < fu ∧ w ≤ 10 ∧ pu_chg S S1 [14, 15, 16, 20, 21, 22, 23] ∧ dg_l (fun w => aw_cnt (S.1 3 0) (S.1 11 0) (S.1 11 1) (S.1 11 2) (S.1 11 8) (S.1 11 3) (S.1 11 7) (S.1 11 6) (S.1 17 0) (S.1 1 0) (nI w)) hb 10 = (dg_l (fun w => aw_cnt (S.1 3 0) (S.1 11 0) (S.1 11 1) (S.1 11 2) (S.1 11 8) (S.1 11 3) (S.1 11 7) (S.1 11 6) (S.1 17 0) (S.1 1 0) (nI w)) (dg_l (S.1 2) (dg_m (dg_m (dg_m (dg_m (dg_m (dg_m (dg_m (dg_H (fun i w => aw_about (S.1 3 0) (pu_hs S) (S.1 12) (S.1 13) (S.1 11 5) (nI i) (nI w)) (fun i => aw_want (S.1 3 0) (pu_hs S) (S.1 11 2) (S.1 11 5) (S.1 11 4) (nI i)) (fun i => pu_pts (S.1 11 0 - S.1 11 1) (S.1 11 8) (S.1 12) pu_z pu_z n i) (fun i => pu_leak (S.1 18) (S.1 19) (nI i) mr 9) 601 n) (S.1 11 4)) (pu_G (pu_hs S) (S.1 10) (S.1 11 6) (S.1 11 2) (S.1 11 5) (S.1 11 4) n (pu_all (nI n)))) (pu_TA (pu_hs S) (S.1 10) (S.1 11 6) n hh (S.1 11 1) (S.1 11 4) (S.1 11 7) (S.1 11 8) (pu_best (fun t => pu_TA (pu_hs S) (S.1 10) (S.1 11 6) n hh (S.1 11 1) (S.1 11 4) (S.1 11 7) (S.1 11 8) t) (2 ^ n - 1)).1)) (pu_best (fun t => pu_TA (pu_hs S) (S.1 10) (S.1 11 6) n hh (S.1 11 1) (S.1 11 4) (S.1 11 7) (S.1 11 8) t) (2 ^ n - 1)).1) (pu_TA (pu_hs S) (S.1 10) (S.1 11 6) n hh (S.1 11 1 + 9) (S.1 11 4) (S.1 11 7) (S.1 11 8) (S.1 11 5) - pu_TA (pu_hs S) (S.1 10) (S.1 11 6) n hh (S.1 11 1) (S.1 11 4) (S.1 11 7) (S.1 11 8) (S.1 11 5))) (pu_leaks (S.1 18) (S.1 19) mr n)) (aw_look (pu_leaks (S.1 18) (S.1 19) mr n) (S.1 10) n)) z) 10)) → vx_V p l e (vx_R 6 142) s m args below meth c (MQ below (vx_Q g (vx_pl (fun r S' => r = (dg_l (fun w => aw_cnt (S.1 3 0) (S.1 11 0) (S.1 11 1) (S.1 11 2) (S.1 11 8) (S.1 11 3) (S.1 11 7) (S.1 11 6) (S.1 17 0) (S.1 1 0) (nI w)) (dg_l (S.1 2) (dg_m (dg_m (dg_m (dg_m (dg_m (dg_m (dg_m (dg_H (fun i w => aw_about (S.1 3 0) (pu_hs S) (S.1 12) (S.1 13) (S.1 11 5) (nI i) (nI w)) (fun i => aw_want (S.1 3 0) (pu_hs S) (S.1 11 2) (S.1 11 5) (S.1 11 4) (nI i)) (fun i => pu_pts (S.1 11 0 - S.1 11 1) (S.1 11 8) (S.1 12) pu_z pu_z n i) (fun i => pu_leak (S.1 18) (S.1 19) (nI i) mr 9) 601 n) (S.1 11 4)) (pu_G (pu_hs S) (S.1 10) (S.1 11 6) (S.1 11 2) (S.1 11 5) (S.1 11 4) n (pu_all (nI n)))) (pu_TA (pu_hs S) (S.1 10) (S.1 11 6) n hh (S.1 11 1) (S.1 11 4) (S.1 11 7) (S.1 11 8) (pu_best (fun t => pu_TA (pu_hs S) (S.1 10) (S.1 11 6) n hh (S.1 11 1) (S.1 11 4) (S.1 11 7) (S.1 11 8) t) (2 ^ n - 1)).1)) (pu_best (fun t => pu_TA (pu_hs S) (S.1 10) (S.1 11 6) n hh (S.1 11 1) (S.1 11 4) (S.1 11 7) (S.1 11 8) t) (2 ^ n - 1)).1) (pu_TA (pu_hs S) (S.1 10) (S.1 11 6) n hh (S.1 11 1 + 9) (S.1 11 4) (S.1 11 7) (S.1 11 8) (S.1 11 5) - pu_TA (pu_hs S) (S.1 10) (S.1 11 6) n hh (S.1 11 1) (S.1 11 4) (S.1 11 7) (S.1 11 8) (S.1 11 5))) (pu_leaks (S.1 18) (S.1 19) mr n)) (aw_look (pu_leaks (S.1 18) (S.1 19) mr n) (S.1 10) n)) z) 10) ∧ pu_chg S S' [14, 15, 16, 20, 21, 22, 23]))) args s 0 0 (vx_A g)) g 5 153 [(0, .ref (g.2.2.1 0)), (1, .long (dg_l (fun w => aw_cnt (S.1 3 0) (S.1 11 0) (S.1 11 1) (S.1 11 2) (S.1 11 8) (S.1 11 3) (S.1 11 7) (S.1 11 6) (S.1 17 0) (S.1 1 0) (nI w)) hb w)), (4, .int (nI w))] [] (S1) := by
    intro fu
    induction fu with
    | zero =>
      intro w hb S1 hfu
      exact absurd hfu.1 (by omega)
    | succ fu ih =>
      intro w hb S1 hfu
      obtain ⟨hf1, hf2, hc, hD⟩ := hfu
      refine vv_iload C dX4_digest_153 2 rfl ?_
      refine vv_bipush (v := (nI 9)) C dX4_digest_155 (by decide) ?_
      refine vv_icmp_gt (tgt := 180) C dX4_digest_157 (by decide) (fun h157 => ?_) (fun h157 => ?_)
      · have hgt := pu_gtT rfl (by omega) (by omega) h157
        obtain rfl : 10 = w := by omega
        refine vv_lload_n C dX4_digest_180 rfl 1 rfl ?_
        refine vv_llret C dX4_digest_181 ?_
        exact ⟨hD, hc⟩
      · have hle := pu_gtF rfl (by omega) (by omega) h157
        refine vv_ldc2 C (tm_31 (List.mem_of_getElem? (i := 1) rfl)) dX4_digest_160 ?_
        refine vv_lload_n C dX4_digest_163 rfl 1 rfl ?_
        refine vv_lmul C dX4_digest_164 ?_
        refine vv_aload_n C dX4_digest_165 rfl 0 rfl ?_
        refine vv_iload C dX4_digest_166 2 rfl ?_
        refine vv_cV_F C (a := 0) (kk_X4_count l g _ _) yk_X4_count (tm_31 (List.mem_of_getElem? (i := 14) rfl)) rfl rfl rfl (by decide) rfl (Nat.le_of_ble_eq_true rfl) rfl dX4_digest_168 ?_
        rw [hc.2 3 (by decide), hc.2 11 (by decide), hc.2 17 (by decide), hc.2 1 (by decide)]
        refine vv_i2l C dX4_digest_171 ?_
        refine vv_ladd C dX4_digest_172 ?_
        refine vv_mix ?_
        refine vv_lstore_n (i := 1) (L' := [_, _, _]) C dX4_digest_173 rfl (by decide) rfl ?_
        refine vv_iincN (L' := [_, _, _]) (j := 2) C dX4_digest_174 rfl (by decide) rfl ?_
        refine vv_goto (tgt := 153) C dX4_digest_177 (by decide) ?_
        refine vv_sub (L' := [_, _, _]) [2, 1, 0] rfl ?_
        exact ih (w + 1) hb S1 ⟨by omega, by omega, hc, hD⟩
  have lp114 : ∀ (fu : Nat) (i : Nat) (hb : Int64) (S1 : vx_St), (z - i < fu ∧ i ≤ z ∧ pu_chg S S1 [14, 15, 16, 20, 21, 22, 23] ∧ dg_l (fun w => aw_cnt (S.1 3 0) (S.1 11 0) (S.1 11 1) (S.1 11 2) (S.1 11 8) (S.1 11 3) (S.1 11 7) (S.1 11 6) (S.1 17 0) (S.1 1 0) (nI w)) (dg_l (S.1 2) hb z) 10 = (dg_l (fun w => aw_cnt (S.1 3 0) (S.1 11 0) (S.1 11 1) (S.1 11 2) (S.1 11 8) (S.1 11 3) (S.1 11 7) (S.1 11 6) (S.1 17 0) (S.1 1 0) (nI w)) (dg_l (S.1 2) (dg_m (dg_m (dg_m (dg_m (dg_m (dg_m (dg_m (dg_H (fun i w => aw_about (S.1 3 0) (pu_hs S) (S.1 12) (S.1 13) (S.1 11 5) (nI i) (nI w)) (fun i => aw_want (S.1 3 0) (pu_hs S) (S.1 11 2) (S.1 11 5) (S.1 11 4) (nI i)) (fun i => pu_pts (S.1 11 0 - S.1 11 1) (S.1 11 8) (S.1 12) pu_z pu_z n i) (fun i => pu_leak (S.1 18) (S.1 19) (nI i) mr 9) 601 n) (S.1 11 4)) (pu_G (pu_hs S) (S.1 10) (S.1 11 6) (S.1 11 2) (S.1 11 5) (S.1 11 4) n (pu_all (nI n)))) (pu_TA (pu_hs S) (S.1 10) (S.1 11 6) n hh (S.1 11 1) (S.1 11 4) (S.1 11 7) (S.1 11 8) (pu_best (fun t => pu_TA (pu_hs S) (S.1 10) (S.1 11 6) n hh (S.1 11 1) (S.1 11 4) (S.1 11 7) (S.1 11 8) t) (2 ^ n - 1)).1)) (pu_best (fun t => pu_TA (pu_hs S) (S.1 10) (S.1 11 6) n hh (S.1 11 1) (S.1 11 4) (S.1 11 7) (S.1 11 8) t) (2 ^ n - 1)).1) (pu_TA (pu_hs S) (S.1 10) (S.1 11 6) n hh (S.1 11 1 + 9) (S.1 11 4) (S.1 11 7) (S.1 11 8) (S.1 11 5) - pu_TA (pu_hs S) (S.1 10) (S.1 11 6) n hh (S.1 11 1) (S.1 11 4) (S.1 11 7) (S.1 11 8) (S.1 11 5))) (pu_leaks (S.1 18) (S.1 19) mr n)) (aw_look (pu_leaks (S.1 18) (S.1 19) mr n) (S.1 10) n)) z) 10)) → vx_V p l e (vx_R 6 142) s m args below meth c (MQ below (vx_Q g (vx_pl (fun r S' => r = (dg_l (fun w => aw_cnt (S.1 3 0) (S.1 11 0) (S.1 11 1) (S.1 11 2) (S.1 11 8) (S.1 11 3) (S.1 11 7) (S.1 11 6) (S.1 17 0) (S.1 1 0) (nI w)) (dg_l (S.1 2) (dg_m (dg_m (dg_m (dg_m (dg_m (dg_m (dg_m (dg_H (fun i w => aw_about (S.1 3 0) (pu_hs S) (S.1 12) (S.1 13) (S.1 11 5) (nI i) (nI w)) (fun i => aw_want (S.1 3 0) (pu_hs S) (S.1 11 2) (S.1 11 5) (S.1 11 4) (nI i)) (fun i => pu_pts (S.1 11 0 - S.1 11 1) (S.1 11 8) (S.1 12) pu_z pu_z n i) (fun i => pu_leak (S.1 18) (S.1 19) (nI i) mr 9) 601 n) (S.1 11 4)) (pu_G (pu_hs S) (S.1 10) (S.1 11 6) (S.1 11 2) (S.1 11 5) (S.1 11 4) n (pu_all (nI n)))) (pu_TA (pu_hs S) (S.1 10) (S.1 11 6) n hh (S.1 11 1) (S.1 11 4) (S.1 11 7) (S.1 11 8) (pu_best (fun t => pu_TA (pu_hs S) (S.1 10) (S.1 11 6) n hh (S.1 11 1) (S.1 11 4) (S.1 11 7) (S.1 11 8) t) (2 ^ n - 1)).1)) (pu_best (fun t => pu_TA (pu_hs S) (S.1 10) (S.1 11 6) n hh (S.1 11 1) (S.1 11 4) (S.1 11 7) (S.1 11 8) t) (2 ^ n - 1)).1) (pu_TA (pu_hs S) (S.1 10) (S.1 11 6) n hh (S.1 11 1 + 9) (S.1 11 4) (S.1 11 7) (S.1 11 8) (S.1 11 5) - pu_TA (pu_hs S) (S.1 10) (S.1 11 6) n hh (S.1 11 1) (S.1 11 4) (S.1 11 7) (S.1 11 8) (S.1 11 5))) (pu_leaks (S.1 18) (S.1 19) mr n)) (aw_look (pu_leaks (S.1 18) (S.1 19) mr n) (S.1 10) n)) z) 10) ∧ pu_chg S S' [14, 15, 16, 20, 21, 22, 23]))) args s 0 0 (vx_A g)) g 5 114 [(0, .ref (g.2.2.1 0)), (1, .long (dg_l (S.1 2) hb i)), (4, .int (nI i))] [] (S1) := by
    intro fu
    induction fu with
    | zero =>
      intro i hb S1 hfu
      exact absurd hfu.1 (by omega)
    | succ fu ih =>
      intro i hb S1 hfu
      obtain ⟨hf1, hf2, hc, hD⟩ := hfu
      refine vv_iload C dX4_digest_114 2 rfl ?_
      refine vv_aload_n C dX4_digest_116 rfl 0 rfl ?_
      refine vv_gR C (a := 0) (k := 0) (b := 1) inlX4 rfl rfl rfl rfl (by decide) rfl (tm_1 (List.mem_of_getElem? (i := 16) rfl)) dX4_digest_117 ?_
      refine vv_getIN C (a := 1) (k := 0) (o := 0) inlX2 rfl rfl rfl (by decide) rfl (List.mem_of_getElem? (i := 1) rfl) dX4_digest_120 ?_
      refine vv_icmp_ge (tgt := 150) C dX4_digest_123 (by decide) (fun h123 => ?_) (fun h123 => ?_)
      · have hge := pu_geT (n := z) (by rw [hc.2 1 (by decide)]; exact hz) (by omega) (by omega) h123
        obtain rfl : z = i := by omega
        refine vv_iconst (v := (nI 0)) C dX4_digest_150 (by decide) ?_
        refine vv_istore (L' := [_, _, _]) C dX4_digest_151 (by decide) rfl ?_
        refine vv_sub (L' := [_, _, _]) [1, 2, 0] rfl ?_
        have q := lp153 11 0 (dg_l (S.1 2) hb z) S1 ⟨by omega, by omega, hc, hD⟩
        rw [dg_l_0 (fun w => aw_cnt (S.1 3 0) (S.1 11 0) (S.1 11 1) (S.1 11 2) (S.1 11 8) (S.1 11 3) (S.1 11 7) (S.1 11 6) (S.1 17 0) (S.1 1 0) (nI w))] at q
        exact q
      · have hlt := pu_geF (n := z) (by rw [hc.2 1 (by decide)]; exact hz) (by omega) (by omega) h123
        refine vv_ldc2 C (tm_31 (List.mem_of_getElem? (i := 1) rfl)) dX4_digest_126 ?_
        refine vv_lload_n C dX4_digest_129 rfl 1 rfl ?_
        refine vv_lmul C dX4_digest_130 ?_
        refine vv_aload_n C dX4_digest_131 rfl 0 rfl ?_
        refine vv_gR C (a := 0) (k := 0) (b := 1) inlX4 rfl rfl rfl rfl (by decide) rfl (tm_1 (List.mem_of_getElem? (i := 16) rfl)) dX4_digest_132 ?_
        refine vv_gRN C (a := 1) (k := 1) (b := 2) inlX2 rfl rfl rfl rfl (by decide) rfl (List.mem_of_getElem? (i := 3) rfl) dX4_digest_135 ?_
        refine vv_iload C dX4_digest_138 2 rfl ?_
        refine vv_ialdN C (a := 2) rfl (by omega) (by decide) dX4_digest_140 ?_
        rw [hc.2 2 (by decide)]
        refine vv_i2l C dX4_digest_141 ?_
        refine vv_ladd C dX4_digest_142 ?_
        refine vv_mix ?_
        refine vv_lstore_n (i := 1) (L' := [_, _, _]) C dX4_digest_143 rfl (by decide) rfl ?_
        refine vv_iincN (L' := [_, _, _]) (j := 2) C dX4_digest_144 rfl (by decide) rfl ?_
        refine vv_goto (tgt := 114) C dX4_digest_147 (by decide) ?_
        refine vv_sub (L' := [_, _, _]) [2, 1, 0] rfl ?_
        exact ih (i + 1) hb S1 ⟨by omega, by omega, hc, hD⟩
  refine vv_aload_n C dX4_digest_0 rfl 0 rfl ?_
  refine vv_ldc2 C (tm_31 (List.mem_of_getElem? (i := 0) rfl)) dX4_digest_1 ?_
  refine vv_cV_l C (a := 0) (kk_X4_digestOfHouses l g _ _ n hn hn8 mr hm hm8) yk_X4_digestOfHouses (tm_31 (List.mem_of_getElem? (i := 2) rfl)) rfl rfl rfl (by decide) rfl (Nat.le_of_ble_eq_true rfl) rfl dX4_digest_4 (fun r4 S4 h4 => ?_)
  obtain ⟨e4, c4⟩ := h4
  have k4 : pu_chg S S4 [14, 15, 16, 20, 21, 22, 23] := pu_chg_tr (pu_chg_rf S _) c4 (by simp)
  refine vv_lstore_n (i := 1) (L' := [_, _]) C dX4_digest_7 rfl (by decide) rfl ?_
  refine vv_ldc2 C (tm_31 (List.mem_of_getElem? (i := 1) rfl)) dX4_digest_8 ?_
  refine vv_lload_n C dX4_digest_11 rfl 0 rfl ?_
  refine vv_lmul C dX4_digest_12 ?_
  refine vv_aload_n C dX4_digest_13 rfl 1 rfl ?_
  refine vv_cV_F C (a := 0) (kk_X4_worked l g _) yk_X4_worked (tm_31 (List.mem_of_getElem? (i := 10) rfl)) rfl rfl rfl (by decide) rfl (Nat.le_of_ble_eq_true rfl) rfl dX4_digest_14 ?_
  rw [k4.2 11 (by decide)]
  refine vv_i2l C dX4_digest_17 ?_
  refine vv_ladd C dX4_digest_18 ?_
  refine vv_mix ?_
  refine vv_lstore_n (i := 1) (L' := [_, _]) C dX4_digest_19 rfl (by decide) rfl ?_
  refine vv_ldc2 C (tm_31 (List.mem_of_getElem? (i := 1) rfl)) dX4_digest_20 ?_
  refine vv_lload_n C dX4_digest_23 rfl 0 rfl ?_
  refine vv_lmul C dX4_digest_24 ?_
  refine vv_aload_n C dX4_digest_25 rfl 1 rfl ?_
  refine vv_aload_n C dX4_digest_26 rfl 1 rfl ?_
  refine vv_gR C (a := 0) (k := 1) (b := 3) inlX4 rfl rfl rfl rfl (by decide) rfl (tm_1 (List.mem_of_getElem? (i := 20) rfl)) dX4_digest_27 ?_
  refine vv_cVN_F C (a := 3) (kk_X1_all l g _) yk_X1_all (List.mem_of_getElem? (i := 58) rfl) rfl rfl rfl (by decide) rfl (Nat.le_of_ble_eq_true rfl) rfl dX4_digest_30 ?_
  rw [k4.2 3 (by decide)]
  refine vv_cV_i C (a := 0) (kk_X4_goes l g _ _ n (by rw [k4.2 3 (by decide)]; exact hn) hn8) yk_X4_goes (tm_31 (List.mem_of_getElem? (i := 11) rfl)) rfl rfl rfl (by decide) rfl (Nat.le_of_ble_eq_true rfl) rfl dX4_digest_33 (fun r33 S33 h33 => ?_)
  obtain ⟨e33, c33⟩ := h33
  have k33 : pu_chg S S33 [14, 15, 16, 20, 21, 22, 23] := pu_chg_tr k4 c33 (by simp)
  rw [k4.2 3 (by decide), hn, if_pos (pu_allbits n hn8), pu_hs_c (fun c h1 h2 => k4.2 c (by simp only [List.mem_cons, List.not_mem_nil, or_false, not_or]; omega)), k4.2 10 (by decide), k4.2 11 (by decide)] at e33
  refine vv_i2l C dX4_digest_36 ?_
  refine vv_ladd C dX4_digest_37 ?_
  refine vv_mix ?_
  refine vv_lstore_n (i := 1) (L' := [_, _]) C dX4_digest_38 rfl (by decide) rfl ?_
  refine vv_aload_n C dX4_digest_39 rfl 1 rfl ?_
  refine vv_cV_i C (a := 0) (kk_X4_bestBrakes l g _ n (by rw [k33.2 3 (by decide)]; exact hn) hn8 (by rw [k33.2 11 (by decide)]; exact hb6) (by rw [k33.2 11 (by decide)]; exact hb7) hh (by rw [k33.2 11 (by decide)]; exact hhr) hh9) yk_X4_bestBrakes (tm_21 (List.mem_of_getElem? (i := 8) rfl)) rfl rfl rfl (by decide) rfl (Nat.le_of_ble_eq_true rfl) rfl dX4_digest_40 (fun r40 S40 h40 => ?_)
  obtain ⟨e40, c40⟩ := h40
  have k40 : pu_chg S S40 [14, 15, 16, 20, 21, 22, 23] := pu_chg_tr k33 c40 (by simp)
  rw [pu_hs_c (fun c h1 h2 => k33.2 c (by simp only [List.mem_cons, List.not_mem_nil, or_false, not_or]; omega)), k33.2 10 (by decide), k33.2 11 (by decide)] at e40
  refine vv_istore_n (i := 3) (L' := [_, _, _]) C dX4_digest_43 rfl (by decide) rfl ?_
  refine vv_ldc2 C (tm_31 (List.mem_of_getElem? (i := 1) rfl)) dX4_digest_44 ?_
  refine vv_lload_n C dX4_digest_47 rfl 1 rfl ?_
  refine vv_lmul C dX4_digest_48 ?_
  refine vv_aload_n C dX4_digest_49 rfl 2 rfl ?_
  refine vv_aload_n C dX4_digest_50 rfl 2 rfl ?_
  refine vv_gR C (a := 0) (k := 2) (b := 11) inlX4 rfl rfl rfl rfl (by decide) rfl (tm_2 (List.mem_of_getElem? (i := 0) rfl)) dX4_digest_51 ?_
  refine vv_getIN C (a := 11) (k := 1) (o := 0) inlX0 rfl rfl rfl (by decide) rfl (List.mem_of_getElem? (i := 18) rfl) dX4_digest_54 ?_
  refine vv_iload_n C dX4_digest_57 rfl 0 rfl ?_
  refine vv_cV_i C (a := 0) (kk_X4_takenAhead l g _ _ _ n (by rw [k40.2 3 (by decide)]; exact hn) hn8 (by rw [k40.2 11 (by decide)]; exact hb6) (by rw [k40.2 11 (by decide)]; exact hb7) hh (by rw [k40.2 11 (by decide)]; exact hhr) hh9) yk_X4_takenAhead (tm_21 (List.mem_of_getElem? (i := 12) rfl)) rfl rfl rfl (by decide) rfl (Nat.le_of_ble_eq_true rfl) rfl dX4_digest_58 (fun r58 S58 h58 => ?_)
  obtain ⟨e58, c58⟩ := h58
  have k58 : pu_chg S S58 [14, 15, 16, 20, 21, 22, 23] := pu_chg_tr k40 c58 (by simp)
  rw [pu_hs_c (fun c h1 h2 => k40.2 c (by simp only [List.mem_cons, List.not_mem_nil, or_false, not_or]; omega)), k40.2 10 (by decide), k40.2 11 (by decide)] at e58
  refine vv_i2l C dX4_digest_61 ?_
  refine vv_ladd C dX4_digest_62 ?_
  refine vv_mix ?_
  refine vv_lstore_n (i := 1) (L' := [_, _, _]) C dX4_digest_63 rfl (by decide) rfl ?_
  refine vv_ldc2 C (tm_31 (List.mem_of_getElem? (i := 1) rfl)) dX4_digest_64 ?_
  refine vv_lload_n C dX4_digest_67 rfl 0 rfl ?_
  refine vv_lmul C dX4_digest_68 ?_
  refine vv_iload_n C dX4_digest_69 rfl 1 rfl ?_
  refine vv_i2l C dX4_digest_70 ?_
  refine vv_ladd C dX4_digest_71 ?_
  refine vv_mix ?_
  refine vv_lstore_n (i := 1) (L' := [_, _, _]) C dX4_digest_72 rfl (by decide) rfl ?_
  refine vv_ldc2 C (tm_31 (List.mem_of_getElem? (i := 1) rfl)) dX4_digest_73 ?_
  refine vv_lload_n C dX4_digest_76 rfl 0 rfl ?_
  refine vv_lmul C dX4_digest_77 ?_
  refine vv_aload_n C dX4_digest_78 rfl 2 rfl ?_
  refine vv_bipush (v := (9)) C dX4_digest_79 (by decide) ?_
  refine vv_cV_i C (a := 0) (kk_X4_more l g _ _ n (by rw [k58.2 3 (by decide)]; exact hn) hn8 (by rw [k58.2 11 (by decide)]; exact hb6) (by rw [k58.2 11 (by decide)]; exact hb7) hh (by rw [k58.2 11 (by decide)]; exact hhr) hh9) yk_X4_more (tm_31 (List.mem_of_getElem? (i := 12) rfl)) rfl rfl rfl (by decide) rfl (Nat.le_of_ble_eq_true rfl) rfl dX4_digest_81 (fun r81 S81 h81 => ?_)
  obtain ⟨e81, c81⟩ := h81
  have k81 : pu_chg S S81 [14, 15, 16, 20, 21, 22, 23] := pu_chg_tr k58 c81 (by simp)
  rw [if_pos (show (0 : Int32) ≤ 9 ∧ (9 : Int32) ≤ 99 by decide), pu_hs_c (fun c h1 h2 => k58.2 c (by simp only [List.mem_cons, List.not_mem_nil, or_false, not_or]; omega)), k58.2 10 (by decide), k58.2 11 (by decide)] at e81
  refine vv_i2l C dX4_digest_84 ?_
  refine vv_ladd C dX4_digest_85 ?_
  refine vv_mix ?_
  refine vv_lstore_n (i := 1) (L' := [_, _, _]) C dX4_digest_86 rfl (by decide) rfl ?_
  refine vv_ldc2 C (tm_31 (List.mem_of_getElem? (i := 1) rfl)) dX4_digest_87 ?_
  refine vv_lload_n C dX4_digest_90 rfl 0 rfl ?_
  refine vv_lmul C dX4_digest_91 ?_
  refine vv_aload_n C dX4_digest_92 rfl 2 rfl ?_
  refine vv_cV_F C (a := 0) (kk_X4_leaks l g _ n (by rw [k81.2 3 (by decide)]; exact hn) hn8 mr (by rw [k81.2 17 (by decide)]; exact hm) hm8) yk_X4_leaks (tm_28 (List.mem_of_getElem? (i := 14) rfl)) rfl rfl rfl (by decide) rfl (Nat.le_of_ble_eq_true rfl) rfl dX4_digest_93 ?_
  rw [k81.2 18 (by decide), k81.2 19 (by decide)]
  refine vv_i2l C dX4_digest_96 ?_
  refine vv_ladd C dX4_digest_97 ?_
  refine vv_mix ?_
  refine vv_lstore_n (i := 1) (L' := [_, _, _]) C dX4_digest_98 rfl (by decide) rfl ?_
  refine vv_ldc2 C (tm_31 (List.mem_of_getElem? (i := 1) rfl)) dX4_digest_99 ?_
  refine vv_lload_n C dX4_digest_102 rfl 0 rfl ?_
  refine vv_lmul C dX4_digest_103 ?_
  refine vv_aload_n C dX4_digest_104 rfl 2 rfl ?_
  refine vv_cV_F C (a := 0) (kk_X4_look l g _ n (by rw [k81.2 3 (by decide)]; exact hn) hn8 mr (by rw [k81.2 17 (by decide)]; exact hm) hm8) yk_X4_look (tm_31 (List.mem_of_getElem? (i := 13) rfl)) rfl rfl rfl (by decide) rfl (Nat.le_of_ble_eq_true rfl) rfl dX4_digest_105 ?_
  rw [k81.2 18 (by decide), k81.2 19 (by decide), k81.2 10 (by decide)]
  refine vv_i2l C dX4_digest_108 ?_
  refine vv_ladd C dX4_digest_109 ?_
  refine vv_mix ?_
  refine vv_lstore_n (i := 1) (L' := [_, _, _]) C dX4_digest_110 rfl (by decide) rfl ?_
  refine vv_iconst (v := (nI 0)) C dX4_digest_111 (by decide) ?_
  refine vv_istore (L' := [_, _, _, _]) C dX4_digest_112 (by decide) rfl ?_
  refine vv_sub (L' := [_, _, _]) [3, 1, 0] rfl ?_
  have hD : dg_l (fun w => aw_cnt (S.1 3 0) (S.1 11 0) (S.1 11 1) (S.1 11 2) (S.1 11 8) (S.1 11 3) (S.1 11 7) (S.1 11 6) (S.1 17 0) (S.1 1 0) (nI w)) (dg_l (S.1 2) (dg_m (dg_m (dg_m (dg_m (dg_m (dg_m (dg_m r4 (S.1 11 4)) r33) r58) r40) r81) (pu_leaks (S.1 18) (S.1 19) mr n)) (aw_look (pu_leaks (S.1 18) (S.1 19) mr n) (S.1 10) n)) z) 10 = (dg_l (fun w => aw_cnt (S.1 3 0) (S.1 11 0) (S.1 11 1) (S.1 11 2) (S.1 11 8) (S.1 11 3) (S.1 11 7) (S.1 11 6) (S.1 17 0) (S.1 1 0) (nI w)) (dg_l (S.1 2) (dg_m (dg_m (dg_m (dg_m (dg_m (dg_m (dg_m (dg_H (fun i w => aw_about (S.1 3 0) (pu_hs S) (S.1 12) (S.1 13) (S.1 11 5) (nI i) (nI w)) (fun i => aw_want (S.1 3 0) (pu_hs S) (S.1 11 2) (S.1 11 5) (S.1 11 4) (nI i)) (fun i => pu_pts (S.1 11 0 - S.1 11 1) (S.1 11 8) (S.1 12) pu_z pu_z n i) (fun i => pu_leak (S.1 18) (S.1 19) (nI i) mr 9) 601 n) (S.1 11 4)) (pu_G (pu_hs S) (S.1 10) (S.1 11 6) (S.1 11 2) (S.1 11 5) (S.1 11 4) n (pu_all (nI n)))) (pu_TA (pu_hs S) (S.1 10) (S.1 11 6) n hh (S.1 11 1) (S.1 11 4) (S.1 11 7) (S.1 11 8) (pu_best (fun t => pu_TA (pu_hs S) (S.1 10) (S.1 11 6) n hh (S.1 11 1) (S.1 11 4) (S.1 11 7) (S.1 11 8) t) (2 ^ n - 1)).1)) (pu_best (fun t => pu_TA (pu_hs S) (S.1 10) (S.1 11 6) n hh (S.1 11 1) (S.1 11 4) (S.1 11 7) (S.1 11 8) t) (2 ^ n - 1)).1) (pu_TA (pu_hs S) (S.1 10) (S.1 11 6) n hh (S.1 11 1 + 9) (S.1 11 4) (S.1 11 7) (S.1 11 8) (S.1 11 5) - pu_TA (pu_hs S) (S.1 10) (S.1 11 6) n hh (S.1 11 1) (S.1 11 4) (S.1 11 7) (S.1 11 8) (S.1 11 5))) (pu_leaks (S.1 18) (S.1 19) mr n)) (aw_look (pu_leaks (S.1 18) (S.1 19) mr n) (S.1 10) n)) z) 10) := by rw [e4, e33, e58, e40, e81]
  have q := lp114 (z + 1) 0 _ S81 ⟨by omega, by omega, k81, hD⟩
  rw [dg_l_0 (S.1 2)] at q
  exact q
