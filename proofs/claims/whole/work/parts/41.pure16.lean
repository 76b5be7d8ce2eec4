/-! ===== the questions that use scratch rows ===== -/
theorem iv_ref {S S1 : vx_St} {cs : List Nat} (h : pu_chg S S1 cs) (hc : ∀ c ∈ cs, c < 35) : (∀ c, 35 ≤ c → S1.1 c = S.1 c) ∧ pu_hm S1 = pu_hm S :=
  ⟨fun c h5 => h.2 c (fun q => by have := hc c q; omega), pu_hm_c (fun c h1 h2 => h.2 c (fun q => by have := hc c q; omega))⟩
theorem iv_f {S : vx_St} {n z m kn km : Nat} (i : iv S n z m kn km) : ∃ hh, S.1 11 2 = nI hh ∧ hh ≤ 9 ∧ S.1 35 12 = nI hh ∧ vx_b01 (S.1 11 6) = S.1 11 6 ∧ vx_b01 (S.1 11 7) = S.1 11 7 ∧ vx_b01 (S.1 35 15) = S.1 35 15 ∧ vx_b01 (S.1 35 16) = S.1 35 16 := by
  obtain ⟨e0, e20, e17, eh, e10, e11, e12, e13, e14, e9, e16, e15, e46, e8⟩ := iv_e i
  obtain ⟨a, b, hh, t, f1, f2, f3, f4, f5, f6, f7, f8, _⟩ := i.2.2.1.2.2.2
  exact ⟨hh, f5, f6, by rw [e12]; exact f5, f7, f8, by rw [e15]; exact f8, by rw [e16]; exact f7⟩
theorem vx_pf_pi (F : Int32) (S : vx_St) : vx_pf F S = vx_pi (fun r S' => r = F ∧ S' = S) := by
  funext v S'
  refine propext ⟨fun h => ⟨F, h.1, rfl, h.2⟩, fun h => ?_⟩
  obtain ⟨r, h1, h2, h3⟩ := h
  exact ⟨by rw [h1, h2], h3⟩
theorem vx_M_pf {l : Launch} {g : vx_G} {y : MethodName} {cc : ByteArray} {maxL : Nat} {ret : Option FieldType} {rm : Room} {av : List Value} {S : vx_St} {F : Int32} (h : vx_M l g y cc maxL ret rm av S (vx_pf F S)) : vx_M l g y cc maxL ret rm av S (vx_pi (fun r S' => r = F ∧ S' = S)) := by
  rw [← vx_pf_pi]
  exact h
theorem st_goes {S S1 : vx_St} {n z m kn km : Nat} (i : iv S n z m kn km) (t : Int32) {r1 : Int32} (p1 : r1 = (if aw_bits t (S.1 3 0) = true then pu_G (pu_hs S) (S.1 10) (S.1 11 6) (S.1 11 2) (S.1 11 5) (S.1 11 4) n t else -102) ∧ pu_chg S S1 [14]) : r1 = (if aw_bits t (S1.1 35 0) = true then pm_G (pu_hm S1) (S1.1 35 16) (S1.1 35 12) (S1.1 35 9) (S1.1 35 14) n t else -102) ∧ ivx S1 := by
  obtain ⟨hr, hm⟩ := iv_ref p1.2 (by decide)
  have sg := s_G i t
  obtain ⟨e0, e20, e17, eh, e10, e11, e12, e13, e14, e9, e16, e15, e46, e8⟩ := iv_e i
  refine ⟨?_, iv_keep2 p1.2 (by decide) (pm_same_rf S1) ⟨n, z, m, kn, km, i⟩⟩
  rw [hr 35 (by decide), hm, sg, e0]
  exact p1.1
theorem st_part {S S1 : vx_St} {n z m kn km : Nat} (i : iv S n z m kn km) (h : Int32) {r1 : Int32} (p1 : r1 = (if pu_hq h (S.1 3 0) = true then pu_pts (S.1 11 0 - S.1 11 1) (S.1 11 8) (S.1 12) (S.1 15) (S.1 16) n h.toNatClampNeg else -101) ∧ pu_chg S S1 [15, 16]) : r1 = (if pu_hq h (S1.1 35 0) = true then pm_part (S1.1 35 10 - S1.1 35 11) (S1.1 42) n h.toNatClampNeg else -101) ∧ ivx S1 := by
  obtain ⟨hr, hm⟩ := iv_ref p1.2 (by decide)
  refine ⟨?_, iv_keep2 p1.2 (by decide) (pm_same_rf S1) ⟨n, z, m, kn, km, i⟩⟩
  rw [hr 35 (by decide), hr 42 (by decide), p1.1, (iv_e i).1]
  by_cases q : pu_hq h (S.1 3 0) = true
  · obtain ⟨k, hk, e⟩ := pu_hq_k i.2.1.2.1 (by have := i.2.1.1; omega) q
    have hkn : h.toNatClampNeg < n := by rw [e, nI_clamp (by have := i.2.1.1; omega)]; exact hk
    rw [if_pos q, if_pos q, s_part i _ _ hkn]
  · rw [if_neg q, if_neg q]
theorem st_plan {S S1 S2 : vx_St} {n z m kn km : Nat} (i : iv S n z m kn km) (hh : Nat) (w : Int32) {r1 r2 : Int32} (p1 : r1 = (if 0 ≤ w ∧ w ≤ 1 then (if w = 0 then (fun t => pu_TA (pu_hs S) (S.1 10) (S.1 11 6) n hh (S.1 11 1) (S.1 11 4) (S.1 11 7) (S.1 11 8) t) (pu_best (fun t => pu_TA (pu_hs S) (S.1 10) (S.1 11 6) n hh (S.1 11 1) (S.1 11 4) (S.1 11 7) (S.1 11 8) t) (2 ^ n - 1)).1 else (pu_best (fun t => pu_TA (pu_hs S) (S.1 10) (S.1 11 6) n hh (S.1 11 1) (S.1 11 4) (S.1 11 7) (S.1 11 8) t) (2 ^ n - 1)).1) else -102) ∧ pu_chg S S1 [20, 21, 22, 23]) (p2 : r2 = (if 0 ≤ w ∧ w ≤ 1 then (if w = 0 then (pm_best (fun t => pm_TA (pu_hm S1) (S1.1 35 16) n hh (S1.1 35 11 + 0) (S1.1 35 14) (S1.1 35 15) (pm_sm (S1.1 42) n) t) (2 ^ n - 1)).2 else (pm_best (fun t => pm_TA (pu_hm S1) (S1.1 35 16) n hh (S1.1 35 11 + 0) (S1.1 35 14) (S1.1 35 15) (pm_sm (S1.1 42) n) t) (2 ^ n - 1)).1) else -102) ∧ pm_same S1 S2 ∧ S2.2 = S1.2) : r1 = r2 ∧ ivx S2 := by
  obtain ⟨hr, hm⟩ := iv_ref p1.2 (by decide)
  refine ⟨?_, iv_keep2 p1.2 (by decide) p2.2.1 ⟨n, z, m, kn, km, i⟩⟩
  have q1 := p1.1
  have q2 := p2.1
  rw [hr 35 (by decide), hr 42 (by decide), hm] at q2
  rw [q1, q2]
  exact s_plan i hh w
theorem st_more {S S1 S2 : vx_St} {n z m kn km : Nat} (i : iv S n z m kn km) (hh : Nat) (f : Int32) {r1 r2 : Int32} (p1 : r1 = (if 0 ≤ f ∧ f ≤ 99 then pu_TA (pu_hs S) (S.1 10) (S.1 11 6) n hh (S.1 11 1 + f) (S.1 11 4) (S.1 11 7) (S.1 11 8) (S.1 11 5) - pu_TA (pu_hs S) (S.1 10) (S.1 11 6) n hh (S.1 11 1) (S.1 11 4) (S.1 11 7) (S.1 11 8) (S.1 11 5) else -102) ∧ pu_chg S S1 [20, 21, 22, 23]) (p2 : r2 = (if 0 ≤ f ∧ f ≤ 99 then pm_TA (pu_hm S1) (S1.1 35 16) n hh (S1.1 35 11 + f) (S1.1 35 14) (S1.1 35 15) (pm_sm (S1.1 42) n) (S1.1 35 9) - pm_TA (pu_hm S1) (S1.1 35 16) n hh (S1.1 35 11 + 0) (S1.1 35 14) (S1.1 35 15) (pm_sm (S1.1 42) n) (S1.1 35 9) else -102) ∧ pm_same S1 S2 ∧ S2.2 = S1.2) : r1 = r2 ∧ ivx S2 := by
  obtain ⟨hr, hm⟩ := iv_ref p1.2 (by decide)
  refine ⟨?_, iv_keep2 p1.2 (by decide) p2.2.1 ⟨n, z, m, kn, km, i⟩⟩
  have q1 := p1.1
  have q2 := p2.1
  rw [hr 35 (by decide), hr 42 (by decide), hm] at q2
  rw [q1, q2]
  exact s_more i hh f
theorem st_rest {S S1 S2 : vx_St} {n z m kn km : Nat} (i : iv S n z m kn km) (hh : Nat) (sd w : Int32) {r1 r2 : Int32} (p1 : r1 = (if aw_rsB sd w = true then aw_rs (pu_rs (pu_hs S) (S.1 10) (S.1 11 5) n (9 - hh) sd (S.1 11 1) (nI hh) (S.1 11 4) (S.1 11 7) (S.1 11 8) (-1)) (S.1 11 8) w else -102) ∧ pu_chg S S1 [20, 21, 22, 23]) (p2 : r2 = (if aw_rsB sd w = true then am_rs (pm_rs (pu_hm S1) (S1.1 35 9) n (9 - hh) sd.toInt64 (S1.1 35 11) (nI hh) (S1.1 35 14) (S1.1 35 15) (pm_sm (S1.1 42) n) (-1)) (pm_sm (S1.1 42) n) w else -102) ∧ pm_same S1 S2) : r1 = r2 ∧ ivx S2 := by
  obtain ⟨hr, hm⟩ := iv_ref p1.2 (by decide)
  refine ⟨?_, iv_keep2 p1.2 (by decide) p2.2 ⟨n, z, m, kn, km, i⟩⟩
  have q1 := p1.1
  have q2 := p2.1
  rw [hr 35 (by decide), hr 42 (by decide), hm] at q2
  rw [q1, q2]
  exact s_rest i hh sd w
theorem st_digest {S S1 S2 : vx_St} {n z m kn km : Nat} (i : iv S n z m kn km) (hh : Nat) {r1 r2 : Int64} (p1 : r1 = (dg_l (fun w => aw_cnt (S.1 3 0) (S.1 11 0) (S.1 11 1) (S.1 11 2) (S.1 11 8) (S.1 11 3) (S.1 11 7) (S.1 11 6) (S.1 17 0) (S.1 1 0) (nI w)) (dg_l (S.1 2) (dg_m (dg_m (dg_m (dg_m (dg_m (dg_m (dg_m (dg_H (fun i w => aw_about (S.1 3 0) (pu_hs S) (S.1 12) (S.1 13) (S.1 11 5) (nI i) (nI w)) (fun i => aw_want (S.1 3 0) (pu_hs S) (S.1 11 2) (S.1 11 5) (S.1 11 4) (nI i)) (fun i => pu_pts (S.1 11 0 - S.1 11 1) (S.1 11 8) (S.1 12) pu_z pu_z n i) (fun i => pu_leak (S.1 18) (S.1 19) (nI i) m 9) 601 n) (S.1 11 4)) (pu_G (pu_hs S) (S.1 10) (S.1 11 6) (S.1 11 2) (S.1 11 5) (S.1 11 4) n (pu_all (nI n)))) (pu_TA (pu_hs S) (S.1 10) (S.1 11 6) n hh (S.1 11 1) (S.1 11 4) (S.1 11 7) (S.1 11 8) (pu_best (fun t => pu_TA (pu_hs S) (S.1 10) (S.1 11 6) n hh (S.1 11 1) (S.1 11 4) (S.1 11 7) (S.1 11 8) t) (2 ^ n - 1)).1)) (pu_best (fun t => pu_TA (pu_hs S) (S.1 10) (S.1 11 6) n hh (S.1 11 1) (S.1 11 4) (S.1 11 7) (S.1 11 8) t) (2 ^ n - 1)).1) (pu_TA (pu_hs S) (S.1 10) (S.1 11 6) n hh (S.1 11 1 + 9) (S.1 11 4) (S.1 11 7) (S.1 11 8) (S.1 11 5) - pu_TA (pu_hs S) (S.1 10) (S.1 11 6) n hh (S.1 11 1) (S.1 11 4) (S.1 11 7) (S.1 11 8) (S.1 11 5))) (pu_leaks (S.1 18) (S.1 19) m n)) (aw_look (pu_leaks (S.1 18) (S.1 19) m n) (S.1 10) n)) z) 10) ∧ pu_chg S S1 [14, 15, 16, 20, 21, 22, 23]) (p2 : r2 = (dg_l (fun w => aw_cnt (S1.1 35 0) (S1.1 35 10) (S1.1 35 11) (S1.1 35 12) (pm_sm (S1.1 42) n) (S1.1 35 13) (S1.1 35 15) (S1.1 35 16) (S1.1 35 17) (S1.1 35 20) (nI w)) (dg_l (S1.1 46) (dg_m (dg_m (dg_m (dg_m (dg_m (dg_m (dg_m (dg_H (fun i w => pm_hn (pu_hm S1) (S1.1 42) (S1.1 43) (S1.1 35 9) i (nI w)) (pm_W (pu_hm S1) (S1.1 35 12) (S1.1 35 9) (S1.1 35 14)) (fun i => pm_part (S1.1 35 10 - S1.1 35 11) (S1.1 42) n i) (fun i => pm_leak (pu_hm S1) n (S1.1 44) (S1.1 45) m (nI i) 9) 601 n) (S1.1 35 14)) (pm_G (pu_hm S1) (S1.1 35 16) (S1.1 35 12) (S1.1 35 9) (S1.1 35 14) n (pu_all (nI n)))) (pm_best (fun t => pm_TA (pu_hm S1) (S1.1 35 16) n hh (S1.1 35 11 + 0) (S1.1 35 14) (S1.1 35 15) (pm_sm (S1.1 42) n) t) (2 ^ n - 1)).2) (pm_best (fun t => pm_TA (pu_hm S1) (S1.1 35 16) n hh (S1.1 35 11 + 0) (S1.1 35 14) (S1.1 35 15) (pm_sm (S1.1 42) n) t) (2 ^ n - 1)).1) (pm_TA (pu_hm S1) (S1.1 35 16) n hh (S1.1 35 11 + 9) (S1.1 35 14) (S1.1 35 15) (pm_sm (S1.1 42) n) (S1.1 35 9) - pm_TA (pu_hm S1) (S1.1 35 16) n hh (S1.1 35 11 + 0) (S1.1 35 14) (S1.1 35 15) (pm_sm (S1.1 42) n) (S1.1 35 9))) (pm_leaks (fun i => pm_leak (pu_hm S1) n (S1.1 44) (S1.1 45) m (nI i) 9) n)) (am_look (pm_leaks (fun i => pm_leak (pu_hm S1) n (S1.1 44) (S1.1 45) m (nI i) 9) n) (S1.1 37) n)) z) 10) ∧ pm_same S1 S2) : r1 = r2 ∧ ivx S2 := by
  obtain ⟨hr, hm⟩ := iv_ref p1.2 (by decide)
  refine ⟨?_, iv_keep2 p1.2 (by decide) p2.2 ⟨n, z, m, kn, km, i⟩⟩
  have q1 := p1.1
  have q2 := p2.1
  rw [hr 35 (by decide), hr 37 (by decide), hr 42 (by decide), hr 43 (by decide), hr 44 (by decide), hr 45 (by decide), hr 46 (by decide), hm] at q2
  obtain ⟨b1, b2⟩ := s_best i hh
  have b3 := s_TA i hh (x := 9) (by decide) (S.1 35 9)
  rw [show nI 9 = 9 from rfl] at b3
  have b4 := s_TA0 i hh (S.1 35 9)
  have b5 := s_G i (pu_all (nI n))
  have b6 := s_leaks i
  have b7 := s_look i
  have hn := i.2.1.1
  have b8 : dg_H (fun k w => pm_hn (pu_hm S) (S.1 42) (S.1 43) (S.1 35 9) k (nI w)) (pm_W (pu_hm S) (S.1 35 12) (S.1 35 9) (S.1 35 14)) (fun k => pm_part (S.1 35 10 - S.1 35 11) (S.1 42) n k) (fun k => pm_leak (pu_hm S) n (S.1 44) (S.1 45) m (nI k) 9) 601 n = dg_H (fun k w => aw_about (S.1 3 0) (pu_hs S) (S.1 12) (S.1 13) (S.1 11 5) (nI k) (nI w)) (fun k => aw_want (S.1 3 0) (pu_hs S) (S.1 11 2) (S.1 11 5) (S.1 11 4) (nI k)) (fun k => pu_pts (S.1 11 0 - S.1 11 1) (S.1 11 8) (S.1 12) pu_z pu_z n k) (fun k => pu_leak (S.1 18) (S.1 19) (nI k) m 9) 601 n := by
    refine dg_H_c 601 n (fun j hj => ?_)
    have hq : pu_hq (nI j) (S.1 35 0) = true := by rw [i.2.1.2.2.1]; exact pq_hqT n hn j hj
    have hq3 : pu_hq (nI j) (S.1 3 0) = true := by rw [i.2.1.2.1]; exact pq_hqT n hn j hj
    refine ⟨fun w hw => ?_, ?_, ?_, ?_⟩
    · show pm_hn (pu_hm S) (S.1 42) (S.1 43) (S.1 35 9) j (nI w) = aw_about (S.1 3 0) (pu_hs S) (S.1 12) (S.1 13) (S.1 11 5) (nI j) (nI w)
      rw [s_about i, pq_hnab i.2.1.2.2.1 hn _ _ _ _ hj hw]
    · show pm_W (pu_hm S) (S.1 35 12) (S.1 35 9) (S.1 35 14) j = aw_want (S.1 3 0) (pu_hs S) (S.1 11 2) (S.1 11 5) (S.1 11 4) (nI j)
      rw [s_wants i, if_pos hq, nI_clamp (by omega)]
    · show pm_part (S.1 35 10 - S.1 35 11) (S.1 42) n j = pu_pts (S.1 11 0 - S.1 11 1) (S.1 11 8) (S.1 12) pu_z pu_z n j
      rw [s_part i pu_z pu_z hj]
    · show pm_leak (pu_hm S) n (S.1 44) (S.1 45) m (nI j) 9 = pu_leak (S.1 18) (S.1 19) (nI j) m 9
      have := s_leak i (nI j)
      rw [if_pos hq, if_pos hq3] at this
      exact this.symm
  have b9 : ∀ w : Nat, aw_cnt (S.1 35 0) (S.1 35 10) (S.1 35 11) (S.1 35 12) (pm_sm (S.1 42) n) (S.1 35 13) (S.1 35 15) (S.1 35 16) (S.1 35 17) (S.1 35 20) (nI w) = aw_cnt (S.1 3 0) (S.1 11 0) (S.1 11 1) (S.1 11 2) (S.1 11 8) (S.1 11 3) (S.1 11 7) (S.1 11 6) (S.1 17 0) (S.1 1 0) (nI w) := fun w => (s_count i (nI w)).symm
  obtain ⟨e0, e20, e17, eh, e10, e11, e12, e13, e14, e9, e16, e15, e46, e8⟩ := iv_e i
  rw [b8, b5, b1, b2, b3, b4, e14, e9, e46, ← b6] at q2
  rw [← b6] at b7
  rw [← b7] at q2
  simp only [b9] at q2
  rw [q1, q2]
