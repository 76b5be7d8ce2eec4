/-! ===== image and restore ===== -/
theorem st_image {S S1 S2 : vx_St} {n z m kn km : Nat} (i : iv S n z m kn km) {r1 r2 : Int32}
    (p1 : r1 = S.1 11 1 ∧ pu_chg S S1 [0, 26, 27, 28, 32, 33, 34] ∧ S1.1 0 = upd (upd (S.1 0) 5 1) 6 (S.1 3 0) ∧ (∀ k, k < 9 → S1.1 26 k = S.1 11 k) ∧ (∀ k, k < 8 → S1.1 27 k = S.1 12 k) ∧ (∀ k, k < 8 → S1.1 28 k = S.1 13 k) ∧ S1.1 32 0 = S.1 17 0 ∧ (∀ k, k < 8 → S1.1 33 k = S.1 18 k) ∧ (∀ k, k < 8 → S1.1 34 k = S.1 19 k))
    (p2 : r2 = S1.1 35 11 ∧ pu_chg S1 S2 [35, 48, 49, 50, 51] ∧ S2.1 35 = upd (upd (upd (upd (upd (upd (upd (upd (upd (upd (upd (S1.1 35) 31 1) 32 (S1.1 35 0)) 33 (S1.1 35 10)) 34 (S1.1 35 11)) 35 (S1.1 35 12)) 36 (S1.1 35 13)) 37 (S1.1 35 14)) 38 (S1.1 35 9)) 39 (S1.1 35 15)) 40 (S1.1 35 16)) 41 (S1.1 35 17) ∧ S2.1 48 = pu_fill (S1.1 42) (S1.1 48) 8 ∧ S2.1 49 = pu_fill (S1.1 43) (S1.1 49) 8 ∧ S2.1 50 = pu_fill (S1.1 44) (S1.1 50) 8 ∧ S2.1 51 = pu_fill (S1.1 45) (S1.1 51) 8) : r1 = r2 ∧ ivx S2 := by
  obtain ⟨e0, e20, e17, eh, e10, e11, e12, e13, e14, e9, e16, e15, e46, e8⟩ := iv_e i
  obtain ⟨a1, c1, a2, a3, a4, a5, a6, a7, a8⟩ := p1
  obtain ⟨b1, c2, b2, b3, b4, b5, b6⟩ := p2
  have m35 : S1.1 35 = S.1 35 := c1.2 35 (by decide)
  rw [m35] at b1 b2
  rw [c1.2 42 (by decide)] at b3
  rw [c1.2 43 (by decide)] at b4
  rw [c1.2 44 (by decide)] at b5
  rw [c1.2 45 (by decide)] at b6
  obtain ⟨i1, i2, i3, i4, i5, i6⟩ := i
  have h := iv_eq2 [31, 32, 33, 34, 35, 36, 37, 38, 39, 40, 41] c1 c2 (by decide) (fun k hk => by
    simp only [List.mem_cons, List.not_mem_nil, or_false, not_or] at hk
    rw [b2, m35]
    simp [upd, hk])
  have s0 : S2.1 0 = upd (upd (S.1 0) 5 1) 6 (S.1 3 0) := (c2.2 0 (by decide)).trans a2
  have s26 : ∀ k, k < 9 → S2.1 26 k = S.1 11 k := fun k hk => by rw [c2.2 26 (by decide)]; exact a3 k hk
  have s27 : ∀ k, k < 8 → S2.1 27 k = S.1 12 k := fun k hk => by rw [c2.2 27 (by decide)]; exact a4 k hk
  have s28 : ∀ k, k < 8 → S2.1 28 k = S.1 13 k := fun k hk => by rw [c2.2 28 (by decide)]; exact a5 k hk
  have s33 : ∀ k, k < 8 → S2.1 33 k = S.1 18 k := fun k hk => by rw [c2.2 33 (by decide)]; exact a7 k hk
  have s34 : ∀ k, k < 8 → S2.1 34 k = S.1 19 k := fun k hk => by rw [c2.2 34 (by decide)]; exact a8 k hk
  have s48 : ∀ k, k < 8 → S2.1 48 k = S.1 42 k := fun k hk => by rw [b3]; exact pu_fill_in hk
  have s49 : ∀ k, k < 8 → S2.1 49 k = S.1 43 k := fun k hk => by rw [b4]; exact pu_fill_in hk
  have s50 : ∀ k, k < 8 → S2.1 50 k = S.1 44 k := fun k hk => by rw [b5]; exact pu_fill_in hk
  have s51 : ∀ k, k < 8 → S2.1 51 k = S.1 45 k := fun k hk => by rw [b6]; exact pu_fill_in hk
  have hb : vx_b01 (S.1 11 6) = S.1 11 6 ∧ vx_b01 (S.1 11 7) = S.1 11 7 := by
    obtain ⟨a, b, q, t, f1, f2, f3, f4, f5, f6, f7, f8, _⟩ := i3.2.2.2
    exact ⟨f7, f8⟩
  refine ⟨by rw [a1, b1, e11], n, z, m, n, m, iv_page_c h (by decide) (by decide) (by decide) (by decide) i1, iv_hou_c h (by decide) (by decide) (fun c _ _ => by simp only [List.mem_append, List.mem_cons, List.not_mem_nil, or_false, not_or]; omega) (fun c _ _ => by simp only [List.mem_append, List.mem_cons, List.not_mem_nil, or_false, not_or]; omega) i2, iv_day_c h (by decide) (by decide) (by decide) (by decide) (by decide) (fun k _ _ => by simp only [List.mem_cons, List.not_mem_nil, or_false, not_or]; omega) i3, iv_rd_c h (by decide) (by decide) (by decide) (by decide) (by decide) (by decide) (fun c _ _ => by simp only [List.mem_append, List.mem_cons, List.not_mem_nil, or_false, not_or]; omega) i4, ⟨?_, ?_, ?_, ?_, ?_⟩, fun _ => ⟨⟨Nat.le_refl n, ?_, ?_⟩, ⟨?_, ?_, ?_, ?_⟩, ?_, ?_, ?_⟩⟩
  · rw [s0, b2]; rfl
  · rw [s26 6 (by decide)]; exact hb.1
  · rw [s26 7 (by decide)]; exact hb.2
  · rw [b2]; show vx_b01 (S.1 35 15) = S.1 35 15; rw [e15]; exact hb.2
  · rw [b2]; show vx_b01 (S.1 35 16) = S.1 35 16; rw [e16]; exact hb.1
  · rw [s0]; exact i2.2.1
  · rw [b2]; exact i2.2.2.1
  · intro k hk
    rw [s26 k (by omega), b2]
    have := i3.1 k hk
    rcases (show k = 0 ∨ k = 1 ∨ k = 2 ∨ k = 3 ∨ k = 4 ∨ k = 5 ∨ k = 6 ∨ k = 7 by omega) with rfl | rfl | rfl | rfl | rfl | rfl | rfl | rfl <;> exact this
  · intro j hj
    rw [s27 j hj, s48 j hj]; exact i3.2.1 j hj
  · intro j hj
    rw [s28 j hj, s49 j hj]; exact i3.2.2.1 j hj
  · exact iv_D_c s26 s27 i3.2.2.2
  · rw [c2.2 32 (by decide), a6]; exact i4.1
  · rw [b2]; exact i4.2.1
  · exact iv_R_c (iv_hs_c h (fun c _ _ => by simp only [List.mem_append, List.mem_cons, List.not_mem_nil, or_false, not_or]; omega)) (h.1 10 (by decide) (by decide)) s33 s34 s50 s51 i4.2.2
theorem st_restore {S S1 S2 : vx_St} {n z m kn km : Nat} (i : iv S n z m kn km) {r1 r2 : Int32}
    (p1 : r1 = (if S.1 0 5 = 0 then -103 else S.1 26 1) ∧ (S.1 0 5 = 0 → S1 = S) ∧ (¬ S.1 0 5 = 0 → pu_chg S S1 [3, 11, 12, 13, 17, 18, 19] ∧ S1.1 3 = upd (S.1 3) 0 (S.1 0 6) ∧ (∀ k, k < 9 → S1.1 11 k = S.1 26 k) ∧ (∀ k, k < 8 → S1.1 12 k = S.1 27 k) ∧ (∀ k, k < 8 → S1.1 13 k = S.1 28 k) ∧ S1.1 17 0 = S.1 32 0 ∧ (∀ k, k < 8 → S1.1 18 k = S.1 33 k) ∧ (∀ k, k < 8 → S1.1 19 k = S.1 34 k)))
    (p2 : (S1.1 35 31 = 0 → r2 = -103 ∧ S2 = S1) ∧ (¬ S1.1 35 31 = 0 → r2 = S1.1 35 34 ∧ pu_chg S1 S2 [35, 42, 43, 44, 45] ∧ S2.1 35 = upd (upd (upd (upd (upd (upd (upd (upd (upd (upd (S1.1 35) 0 (S1.1 35 32)) 10 (S1.1 35 33)) 11 (S1.1 35 34)) 12 (S1.1 35 35)) 13 (S1.1 35 36)) 14 (S1.1 35 37)) 9 (S1.1 35 38)) 15 (S1.1 35 39)) 16 (S1.1 35 40)) 17 (S1.1 35 41) ∧ S2.1 42 = pu_fill (S1.1 48) (S1.1 42) 8 ∧ S2.1 43 = pu_fill (S1.1 49) (S1.1 43) 8 ∧ S2.1 44 = pu_fill (S1.1 50) (S1.1 44) 8 ∧ S2.1 45 = pu_fill (S1.1 51) (S1.1 45) 8)) : r1 = r2 ∧ ivx S2 := by
  obtain ⟨a1, a2, a3⟩ := p1
  by_cases q : S.1 0 5 = 0
  · obtain rfl := a2 q
    rw [if_pos q] at a1
    obtain ⟨b1, rfl⟩ := p2.1 (by rw [← i.2.2.2.2.1.1]; exact q)
    exact ⟨by rw [a1, b1], n, z, m, kn, km, i⟩
  · rw [if_neg q] at a1
    obtain ⟨c1, x1, x2, x3, x4, x5, x6, x7⟩ := a3 q
    have m35 : S1.1 35 = S.1 35 := c1.2 35 (by decide)
    rw [m35] at p2
    obtain ⟨b1, c2, b2, b3, b4, b5, b6⟩ := p2.2 (by rw [← i.2.2.2.2.1.1]; exact q)
    rw [c1.2 48 (by decide)] at b3
    rw [c1.2 49 (by decide)] at b4
    rw [c1.2 50 (by decide)] at b5
    rw [c1.2 51 (by decide)] at b6
    obtain ⟨i1, i2, i3, i4, i5, i6⟩ := i
    obtain ⟨⟨g1, g2, g3⟩, ⟨g4, g5, g6, g7⟩, g8, g9, g10⟩ := i6 q
    have h := iv_eq2 [0, 9, 10, 11, 12, 13, 14, 15, 16, 17] c1 c2 (by decide) (fun k hk => by
      simp only [List.mem_cons, List.not_mem_nil, or_false, not_or] at hk
      rw [b2, m35]
      simp [upd, hk])
    have s3 : S2.1 3 = upd (S.1 3) 0 (S.1 0 6) := (c2.2 3 (by decide)).trans x1
    have s11 : ∀ k, k < 9 → S2.1 11 k = S.1 26 k := fun k hk => by rw [c2.2 11 (by decide)]; exact x2 k hk
    have s12 : ∀ k, k < 8 → S2.1 12 k = S.1 27 k := fun k hk => by rw [c2.2 12 (by decide)]; exact x3 k hk
    have s13 : ∀ k, k < 8 → S2.1 13 k = S.1 28 k := fun k hk => by rw [c2.2 13 (by decide)]; exact x4 k hk
    have s18 : ∀ k, k < 8 → S2.1 18 k = S.1 33 k := fun k hk => by rw [c2.2 18 (by decide)]; exact x6 k hk
    have s19 : ∀ k, k < 8 → S2.1 19 k = S.1 34 k := fun k hk => by rw [c2.2 19 (by decide)]; exact x7 k hk
    have s42 : ∀ k, k < 8 → S2.1 42 k = S.1 48 k := fun k hk => by rw [b3]; exact pu_fill_in hk
    have s43 : ∀ k, k < 8 → S2.1 43 k = S.1 49 k := fun k hk => by rw [b4]; exact pu_fill_in hk
    have s44 : ∀ k, k < 8 → S2.1 44 k = S.1 50 k := fun k hk => by rw [b5]; exact pu_fill_in hk
    have s45 : ∀ k, k < 8 → S2.1 45 k = S.1 51 k := fun k hk => by rw [b6]; exact pu_fill_in hk
    have hhs : pu_hs S2 = pu_hs S := iv_hs_c h (fun c _ _ => by simp only [List.mem_append, List.mem_cons, List.not_mem_nil, or_false, not_or]; omega)
    have hhm : pu_hm S2 = pu_hm S := iv_hm_c h (fun c _ _ => by simp only [List.mem_append, List.mem_cons, List.not_mem_nil, or_false, not_or]; omega)
    have hwy : S2.1 10 = S.1 10 := h.1 10 (by decide) (by decide)
    have i6' := iv_im_c h (by decide) (fun c _ _ => by simp only [List.mem_append, List.mem_cons, List.not_mem_nil, or_false, not_or]; omega) (fun c _ _ => by simp only [List.mem_append, List.mem_cons, List.not_mem_nil, or_false, not_or]; omega) (fun c _ _ => by simp only [List.mem_append, List.mem_cons, List.not_mem_nil, or_false, not_or]; omega) (fun k _ _ => by simp only [List.mem_cons, List.not_mem_nil, or_false, not_or]; omega) (fun c _ _ => by simp only [List.mem_append, List.mem_cons, List.not_mem_nil, or_false, not_or]; omega) i6
    refine ⟨by rw [a1, b1]; exact g4 1 (by decide), kn, z, km, kn, km, iv_page_c h (by decide) (by decide) (by decide) (by decide) i1, ⟨?_, ?_, ?_, ?_, ?_, ?_, ?_⟩, ⟨?_, ?_, ?_, ?_⟩, ⟨?_, ?_, ?_⟩, iv_ib_c h (by decide) (by decide) (by decide) (by decide) (by decide) i5, fun w => ⟨⟨Nat.le_refl kn, (i6' w).1.2⟩, (i6' w).2⟩⟩
    · have := i2.1; omega
    · rw [s3]; exact g2
    · rw [b2]; exact g3
    · rw [hhm, hhs]; exact i2.2.2.2.1
    · rw [hhs, hwy]; exact fun j hj => i2.2.2.2.2.1 j (by omega)
    · rw [hhs]; exact i2.2.2.2.2.2.1
    · rw [hhs]; exact fun j hj => i2.2.2.2.2.2.2 j (by omega)
    · intro k hk
      rw [s11 k (by omega), b2]
      have := g4 k hk
      rcases (show k = 0 ∨ k = 1 ∨ k = 2 ∨ k = 3 ∨ k = 4 ∨ k = 5 ∨ k = 6 ∨ k = 7 by omega) with rfl | rfl | rfl | rfl | rfl | rfl | rfl | rfl <;> exact this
    · intro j hj
      rw [s12 j hj, s42 j hj]; exact g5 j hj
    · intro j hj
      rw [s13 j hj, s43 j hj]; exact g6 j hj
    · exact iv_D_c s11 s12 g7
    · rw [c2.2 17 (by decide), x5]; exact g8
    · rw [b2]; exact g9
    · exact iv_R_c hhs hwy s18 s19 s44 s45 g10
/-! ===== a new house ===== -/
theorem pu_sum_c {f g : Nat → Int32} (t : Int32) : ∀ n, (∀ j, j < n → f j = g j) → pu_sum f t n = pu_sum g t n
  | 0, _ => rfl
  | n + 1, h => by simp only [pu_sum]; rw [pu_sum_c t n (fun j hj => h j (by omega)), h n (by omega)]
theorem pu_or_c {f g : Nat → Int32} (t : Int32) : ∀ n, (∀ j, j < n → f j = g j) → pu_or f t n = pu_or g t n
  | 0, _ => rfl
  | n + 1, h => by simp only [pu_or]; rw [pu_or_c t n (fun j hj => h j (by omega)), h n (by omega)]
theorem iv_R_out {hs hs2 : Nat → Nat → Int32} {wy wy2 th ex se fe : Nat → Int32} {k m : Nat} (h4 : ∀ j, j < k → hs2 4 j = hs 4 j) (h5 : ∀ j, j < k → hs2 5 j = hs 5 j) (hw : ∀ j, j < k → wy2 j = wy j) (h : iv_R hs wy k m th ex se fe) : iv_R hs2 wy2 k m th ex se fe := by
  refine ⟨h.1, fun r hr => ?_⟩
  obtain ⟨t, e1, e2, e3, e4⟩ := h.2 r hr
  refine ⟨t, e1, e2, ?_, ?_⟩
  · rw [pu_or_c (nI t) k hw]; exact e3
  · rw [pu_or_c (nI t) k hw, pu_sum_c (nI t) k h4, pu_sum_c _ k h5]; exact e4
theorem pq_ex_no {f : Nat → Int32} {t : Int32} {i : Nat} : ∀ n, (∀ j, j < n → bt (f j) i = false) → pq_ex f t i n = false
  | 0, _ => rfl
  | n + 1, h => by rw [pq_ex, pq_ex_no n (fun j hj => h j (by omega)), h n (by omega)]; simp
theorem iv_R_succ {hs : Nat → Nat → Int32} {par wy th ex se fe : Nat → Int32} {n m : Nat} (hn : n < 8) (hv : pq_wy par wy n) (h : iv_R hs wy n m th ex se fe) : iv_R hs wy (n + 1) m th ex se fe := by
  refine ⟨h.1, fun r hr => ?_⟩
  obtain ⟨t, e1, e2, e3, e4⟩ := h.2 r hr
  have k1 : ¬ pu_in (nI t) (nI n) = true := by
    rw [pq_in _ (by omega)]
    intro q
    have := pq_bits (by omega) e1 n (by omega) q
    omega
  have k2 : ¬ pu_in (pu_or wy (nI t) n) (nI n) = true := by
    rw [pq_in _ (by omega), pq_or _ _ _ n (by omega), pq_ex_no n (fun j hj => pq_low hv (by omega) j hj n (by omega) hj)]
    exact Bool.false_ne_true
  have o1 : pu_or wy (nI t) (n + 1) = pu_or wy (nI t) n := by rw [pu_or, if_neg k1]
  refine ⟨t, by rw [Nat.pow_succ]; omega, e2, ?_, ?_⟩
  · rw [o1]; exact e3
  · rw [o1, pu_sum, if_neg k1, pu_sum, if_neg k2]; exact e4
theorem pq_d48 : ∀ v, v < 127 → 48 ≤ v → nI v - 48 = nI (v - 48) := by decide +kernel
theorem pq_hqT : ∀ n, n ≤ 8 → ∀ k, k < n → pu_hq (nI k) (nI n) = true := by decide +kernel
theorem pq_hqm (x : Int32) : pu_hq (-1) x = false := by
  simp only [pu_hq, show decide ((0 : Int32) ≤ -1) = false from by decide, Bool.false_and]
theorem iv_hs2 {S S2 : vx_St} {n : Nat} {v : Nat → Int32} (h : ∀ w, w < 6 → S2.1 (4 + w) = upd (S.1 (4 + w)) n (v w)) : ∀ w, w < 6 → pu_hs S2 w = upd (pu_hs S w) n (v w) := by
  intro w hw
  simp only [pu_hs, if_pos hw]
  exact h w hw
theorem am_aw {S : vx_St} {n z m kn km : Nat} (i : iv S n z m kn km) : am_hou (S.1 46) z (S.1 35 0) (S.1 35 12) n = aw_hou (S.1 2) z (S.1 3 0) (S.1 11 2) n ∧ am_hB (S.1 46) z (S.1 35 0) (S.1 35 12) n = aw_hB (S.1 2) z (S.1 3 0) (S.1 11 2) n := by
  have hf := (s_fst i).1
  obtain ⟨e0, e20, e17, eh, e10, e11, e12, e13, e14, e9, e16, e15, e46, e8⟩ := iv_e i
  rw [am_hou, aw_hou, am_hB, aw_hB, ← hf, e12]
  exact ⟨rfl, rfl⟩
theorem st_house {S S1 S2 : vx_St} {n z m kn km : Nat} (i : iv S n z m kn km) {r1 r2 : Int32}
    (p1 : r1 = aw_hou (S.1 2) z (S.1 3 0) (S.1 11 2) n ∧ (aw_hB (S.1 2) z (S.1 3 0) (S.1 11 2) n = false → S1 = S) ∧ (aw_hB (S.1 2) z (S.1 3 0) (S.1 11 2) n = true → pu_chg S S1 [1, 3, 4, 5, 6, 7, 8, 9, 10, 11, 12, 13] ∧ S1.1 1 = upd (S.1 1) 0 0 ∧ S1.1 3 = upd (S.1 3) 0 (nI (n + 1)) ∧ S1.1 4 = upd (S.1 4) n (pu_kind (S.1 2 0)) ∧ S1.1 5 = upd (S.1 5) n (pu_par (S.1 2 1)) ∧ S1.1 6 = upd (S.1 6) n (S.1 2 2 - 48) ∧ S1.1 7 = upd (S.1 7) n (S.1 2 3 - 48) ∧ S1.1 8 = upd (S.1 8) n (S.1 2 4 - 48) ∧ S1.1 9 = upd (S.1 9) n (S.1 2 5 - 48) ∧ S1.1 10 = upd (S.1 10) n (pu_newway (S.1 10) (pu_par (S.1 2 1)) n) ∧ S1.1 11 = upd (S.1 11) 5 (S.1 11 5 &&& (pu_bit (nI n) ^^^ -1)) ∧ S1.1 12 = upd (S.1 12) n 0 ∧ S1.1 13 = upd (S.1 13) n 0))
    (p2 : r2 = am_hou (S1.1 46) z (S1.1 35 0) (S1.1 35 12) n ∧ (am_hB (S1.1 46) z (S1.1 35 0) (S1.1 35 12) n = false → S2 = S1) ∧ (am_hB (S1.1 46) z (S1.1 35 0) (S1.1 35 12) n = true → pu_chg S1 S2 [35, 36, 37, 38, 39, 40, 41, 42, 43] ∧ S2.1 35 = upd (upd (upd (S1.1 35) 9 (S1.1 35 9 &&& (pu_bit (nI n) ^^^ -1))) 0 (nI (n + 1))) 20 0 ∧ S2.1 36 = upd (S1.1 36) n (pm_kind (S1.1 46 0)) ∧ S2.1 37 = upd (S1.1 37) n (pu_par (S1.1 46 1)) ∧ S2.1 38 = upd (S1.1 38) n (S1.1 46 2 - 48) ∧ S2.1 39 = upd (S1.1 39) n (S1.1 46 3 - 48) ∧ S2.1 40 = upd (S1.1 40) n (S1.1 46 4 - 48) ∧ S2.1 41 = upd (S1.1 41) n (S1.1 46 5 - 48) ∧ S2.1 42 = upd (S1.1 42) n 0 ∧ S2.1 43 = upd (S1.1 43) n 0)) : r1 = r2 ∧ ivx S2 := by
  have hfit := (s_fst i).2
  obtain ⟨w1, w2⟩ := am_aw i
  obtain ⟨e0, e20, e17, eh, e10, e11, e12, e13, e14, e9, e16, e15, e46, e8⟩ := iv_e i
  obtain ⟨a1, a2, a3⟩ := p1
  by_cases q : aw_hB (S.1 2) z (S.1 3 0) (S.1 11 2) n = true
  · obtain ⟨c1, x1, x3, x4, x5, x6, x7, x8, x9, x10, x11, x12, x13⟩ := a3 q
    have m35 : S1.1 35 = S.1 35 := c1.2 35 (by decide)
    have m46 : S1.1 46 = S.1 46 := c1.2 46 (by decide)
    rw [m35, m46, w1, w2] at p2
    obtain ⟨b1, _, b2⟩ := p2
    obtain ⟨c2, y35, y36, y37, y38, y39, y40, y41, y42, y43⟩ := b2 q
    rw [c1.2 36 (by decide)] at y36
    rw [c1.2 37 (by decide)] at y37
    rw [c1.2 38 (by decide)] at y38
    rw [c1.2 39 (by decide)] at y39
    rw [c1.2 40 (by decide)] at y40
    rw [c1.2 41 (by decide)] at y41
    rw [c1.2 42 (by decide)] at y42
    rw [c1.2 43 (by decide)] at y43
    rw [e46] at y36 y37 y38 y39 y40 y41
    obtain ⟨i1, i2, i3, i4, i5, i6⟩ := i
    simp only [aw_hB, Bool.and_eq_true, decide_eq_true_eq] at q
    obtain ⟨⟨qz, qf⟩, qh, qn⟩ := q
    have hf := hfit qf
    have hcd := i1.2.2.2.2
    rw [i2.2.1] at hf
    subst qz
    have h := iv_eq2 [0, 9, 20] c1 c2 (by decide) (fun k hk => by
      simp only [List.mem_cons, List.not_mem_nil, or_false, not_or] at hk
      rw [y35, m35]
      simp [upd, hk])
    have z4 : S2.1 4 = _ := (c2.2 4 (by decide)).trans x4
    have z5 : S2.1 5 = _ := (c2.2 5 (by decide)).trans x5
    have z6 : S2.1 6 = _ := (c2.2 6 (by decide)).trans x6
    have z7 : S2.1 7 = _ := (c2.2 7 (by decide)).trans x7
    have z8 : S2.1 8 = _ := (c2.2 8 (by decide)).trans x8
    have z9 : S2.1 9 = _ := (c2.2 9 (by decide)).trans x9
    have z10 : S2.1 10 = _ := (c2.2 10 (by decide)).trans x10
    have z11 : S2.1 11 = _ := (c2.2 11 (by decide)).trans x11
    have z12 : S2.1 12 = _ := (c2.2 12 (by decide)).trans x12
    have z13 : S2.1 13 = _ := (c2.2 13 (by decide)).trans x13
    have hk0 : pm_kind (S.1 2 0) = pu_kind (S.1 2 0) := by
      obtain ⟨v, hv, e⟩ := hcd 0
      rw [e]; exact (pq_kd v (by omega)).symm
    have hh1 : pu_hs S2 1 = upd (pu_hs S 1) n (pu_par (S.1 2 1)) := z5
    have hh3 : pu_hs S2 3 = upd (pu_hs S 3) n (S.1 2 3 - 48) := z7
    have hh4 : pu_hs S2 4 = upd (pu_hs S 4) n (S.1 2 4 - 48) := z8
    have hh5 : pu_hs S2 5 = upd (pu_hs S 5) n (S.1 2 5 - 48) := z9
    obtain ⟨v1, hv1, ev1⟩ := hcd 1
    obtain ⟨v2, hv2, ev2⟩ := hcd 2
    obtain ⟨v3, hv3, ev3⟩ := hcd 3
    obtain ⟨v4, hv4, ev4⟩ := hcd 4
    obtain ⟨v5, hv5, ev5⟩ := hcd 5
    have f1 := hf 1 (by decide)
    have f2 := hf 2 (by decide)
    have f3 := hf 3 (by decide)
    have f4 := hf 4 (by decide)
    have f5 := hf 5 (by decide)
    simp only [pu_fits, ev1] at f1
    simp only [pu_fits, ev2] at f2
    simp only [pu_fits, ev3, ev2] at f3
    simp only [pu_fits, ev4] at f4
    simp only [pu_fits, ev5] at f5
    have k1 := pq_g1 v1 (by omega) n (by omega) f1
    have k2 := pq_g2 v2 (by omega) f2
    have k3 := pq_g3 v3 (by omega) v2 (by omega) k2.1 f3
    have k4 := pq_g4 v4 (by omega) f4
    have k5 := pq_g5 v5 (by omega) f5
    rw [ev3, pq_d48 v3 (by omega) (by omega)] at hh3
    rw [ev4, pq_d48 v4 (by omega) (by omega)] at hh4
    rw [ev5, pq_d48 v5 (by omega) (by omega)] at hh5
    have wold : ∀ j, j < n → S2.1 10 j = S.1 10 j := fun j hj => by rw [z10]; exact pk_un (by omega)
    have hold : ∀ w, ∀ j, j < n → (w = 1 ∨ w = 3 ∨ w = 4 ∨ w = 5) → pu_hs S2 w j = pu_hs S w j := fun w j hj hw => by
      rcases hw with rfl | rfl | rfl | rfl
      · rw [hh1]; exact pk_un (by omega)
      · rw [hh3]; exact pk_un (by omega)
      · rw [hh4]; exact pk_un (by omega)
      · rw [hh5]; exact pk_un (by omega)
    have hwyn : pq_wy (pu_hs S2 1) (S2.1 10) n := fun j hj => by
      rw [hold 1 j hj (by omega), wold j hj]
      rcases i2.2.2.2.2.1 j hj with g | ⟨p, g1, g2, g3⟩
      · exact Or.inl g
      · exact Or.inr ⟨p, g1, g2, by rw [wold p (by omega)]; exact g3⟩
    refine ⟨by rw [a1, b1], n + 1, 0, m, kn, km, ⟨by omega, ?_, ?_, ?_, ?_⟩, ⟨by omega, ?_, ?_, ?_, ?_, ?_, ?_⟩, ⟨?_, ?_, ?_, ?_⟩, ⟨?_, ?_, ?_⟩, iv_ib_c h (by decide) (by decide) (by decide) (by decide) (by decide) i5, ?_⟩
    · rw [c2.2 1 (by decide), x1]; rfl
    · rw [y35]; rfl
    · rw [h.1 2 (by decide) (by decide), h.1 46 (by decide) (by decide)]; exact i1.2.2.2.1
    · rw [h.1 2 (by decide) (by decide)]; exact i1.2.2.2.2
    · rw [c2.2 3 (by decide), x3]; rfl
    · rw [y35]; rfl
    · funext w
      rcases (show w = 0 ∨ w = 1 ∨ w = 2 ∨ w = 3 ∨ w = 4 ∨ w = 5 ∨ 6 ≤ w by omega) with rfl | rfl | rfl | rfl | rfl | rfl | hw
      · show S2.1 36 = S2.1 4
        rw [y36, z4, hk0, show S.1 36 = S.1 4 from congrFun eh 0]
      · show S2.1 37 = S2.1 5
        rw [y37, z5, show S.1 37 = S.1 5 from congrFun eh 1]
      · show S2.1 38 = S2.1 6
        rw [y38, z6, show S.1 38 = S.1 6 from congrFun eh 2]
      · show S2.1 39 = S2.1 7
        rw [y39, z7, show S.1 39 = S.1 7 from congrFun eh 3]
      · show S2.1 40 = S2.1 8
        rw [y40, z8, show S.1 40 = S.1 8 from congrFun eh 4]
      · show S2.1 41 = S2.1 9
        rw [y41, z9, show S.1 41 = S.1 9 from congrFun eh 5]
      · simp only [pu_hm, pu_hs, if_neg (show ¬ w < 6 by omega)]
    · intro j hj
      rcases Nat.lt_or_ge j n with u | u
      · exact hwyn j u
      · obtain rfl : j = n := by omega
        rw [hh1, z10, pk_us, pk_us, ev1, pu_newway]
        rcases k1 with rfl | ⟨g1, g2⟩
        · left
          rw [show pu_par (nI 45) = -1 from by decide, pq_hqm, if_neg Bool.false_ne_true, pm_or0]
          exact ⟨rfl, rfl⟩
        · right
          have hp : pu_par (nI v1) = nI (v1 - 48) := by
            rw [pu_par, if_neg (show ¬ nI v1 = 45 from fun w => absurd ((nI_eq (by omega) (by decide)).mp (show nI v1 = nI 45 from w)) (by omega)), pq_d48 v1 (by omega) g1]
          refine ⟨v1 - 48, by omega, hp, ?_⟩
          rw [hp, pq_hqT j (by omega) (v1 - 48) (by omega), if_pos rfl, nI_clamp (by omega), pk_un (show v1 - 48 ≠ j by omega)]
    · intro j
      by_cases u : j = n
      · subst u
        exact ⟨v3 - 48, by omega, by rw [hh3, pk_us]⟩
      · rw [hh3, pk_un u]
        exact i2.2.2.2.2.2.1 j
    · intro j hj
      rcases Nat.lt_or_ge j n with u | u
      · rw [hold 4 j u (by omega), hold 5 j u (by omega)]
        exact i2.2.2.2.2.2.2 j u
      · obtain rfl : j = n := by omega
        exact ⟨⟨v4 - 48, by omega, by omega, by rw [hh4, pk_us]⟩, v5 - 48, by omega, by rw [hh5, pk_us]⟩
    · intro k hk
      rw [z11, y35]
      have := i3.1 k hk
      rcases (show k = 0 ∨ k = 1 ∨ k = 2 ∨ k = 3 ∨ k = 4 ∨ k = 5 ∨ k = 6 ∨ k = 7 by omega) with rfl | rfl | rfl | rfl | rfl | rfl | rfl | rfl
      · exact this
      · exact this
      · exact this
      · exact this
      · exact this
      · show S.1 11 5 &&& _ = S.1 35 9 &&& _
        rw [e9]
      · exact this
      · exact this
    · intro j hj
      rw [z12, y42]
      simp only [upd]
      rw [i3.2.1 j hj]
    · intro j hj
      rw [z13, y43]
      simp only [upd]
      rw [i3.2.2.1 j hj]
    · obtain ⟨a, b, hh, t, t1, t2, t3, t4, t5, t6, t7, t8, t9, u1, u2, u3, u4⟩ := i3.2.2.2
      rw [z11, z12]
      have hs1 : fb_sm t (n + 1) = fb_sm t n := by rw [fb_sm_succ, u1 n (Nat.le_refl n)]; rfl
      refine ⟨a, b, hh, t, t1, t2, t3, t4, t5, t6, t7, t8, fun j hj => ?_, fun j hj => u1 j (by omega), by rw [hs1]; exact u2, u3, by rw [hs1]; exact u4⟩
      by_cases u : j = n
      · subst u
        rw [pk_us, u1 j (Nat.le_refl j)]; rfl
      · rw [pk_un u]; exact t9 j hj
    · rw [h.1 17 (by decide) (by decide)]; exact i4.1
    · rw [h.2 17 (by decide)]; exact i4.2.1
    · rw [h.1 18 (by decide) (by decide), h.1 19 (by decide) (by decide), h.1 44 (by decide) (by decide), h.1 45 (by decide) (by decide)]
      exact iv_R_succ qn hwyn (iv_R_out (fun j hj => hold 4 j hj (by omega)) (fun j hj => hold 5 j hj (by omega)) wold i4.2.2)
    · intro w
      rw [h.1 0 (by decide) (by decide)] at w
      obtain ⟨⟨g1, g2, g3⟩, ⟨g4, g5, g6, g7⟩, g8, g9, g10⟩ := i6 w
      rw [h.1 0 (by decide) (by decide), h.1 26 (by decide) (by decide), h.1 27 (by decide) (by decide), h.1 28 (by decide) (by decide), h.1 32 (by decide) (by decide), h.1 33 (by decide) (by decide), h.1 34 (by decide) (by decide), h.1 48 (by decide) (by decide), h.1 49 (by decide) (by decide), h.1 50 (by decide) (by decide), h.1 51 (by decide) (by decide), h.2 32 (by decide), h.2 41 (by decide)]
      exact ⟨⟨by omega, g2, g3⟩, ⟨fun k hk => by rw [h.2 (iv_q k) (by have := iv_q_in hk; simp only [List.mem_cons, List.not_mem_nil, or_false, not_or]; omega)]; exact g4 k hk, g5, g6, g7⟩, g8, g9, iv_R_out (fun j hj => hold 4 j (by omega) (by omega)) (fun j hj => hold 5 j (by omega) (by omega)) (fun j hj => wold j (by omega)) g10⟩
  · have q2 := ts_nt q
    obtain rfl := a2 q2
    rw [w1, w2] at p2
    obtain ⟨b1, b2, _⟩ := p2
    obtain rfl := b2 q2
    exact ⟨by rw [a1, b1], n, z, m, kn, km, i⟩
