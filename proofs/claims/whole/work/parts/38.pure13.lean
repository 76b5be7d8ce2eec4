/-! ===== the answers are the same ===== -/
theorem iv_e {S : vx_St} {n z m kn km : Nat} (i : iv S n z m kn km) : S.1 35 0 = S.1 3 0 ∧ S.1 35 20 = S.1 1 0 ∧ S.1 35 17 = S.1 17 0 ∧ pu_hm S = pu_hs S ∧ S.1 35 10 = S.1 11 0 ∧ S.1 35 11 = S.1 11 1 ∧ S.1 35 12 = S.1 11 2 ∧ S.1 35 13 = S.1 11 3 ∧ S.1 35 14 = S.1 11 4 ∧ S.1 35 9 = S.1 11 5 ∧ S.1 35 16 = S.1 11 6 ∧ S.1 35 15 = S.1 11 7 ∧ S.1 46 = S.1 2 ∧ pm_sm (S.1 42) n = S.1 11 8 := by
  obtain ⟨i1, i2, i3, i4, i5, i6⟩ := i
  refine ⟨by rw [i2.2.1, i2.2.2.1], by rw [i1.2.1, i1.2.2.1], by rw [i4.1, i4.2.1], i2.2.2.2.1, (i3.1 0 (by omega)).symm, (i3.1 1 (by omega)).symm, (i3.1 2 (by omega)).symm, (i3.1 3 (by omega)).symm, (i3.1 4 (by omega)).symm, (i3.1 5 (by omega)).symm, (i3.1 6 (by omega)).symm, (i3.1 7 (by omega)).symm, i1.2.2.2.1.symm, ?_⟩
  obtain ⟨a, b, q, t, e1, e2, e3, e4, e5, e6, e7, e8, e9, f1, f2, f3, f4⟩ := i3.2.2.2
  rw [f4]
  exact pq_smN n (fun j hj => by rw [← i3.2.1 j (by have := i2.1; omega)]; exact e9 j (by have := i2.1; omega))
section SQ
variable {S : vx_St} {n z m kn km : Nat}
theorem s_fst (i : iv S n z m kn km) : pu_fst (pu_fits (S.1 2) (S.1 3 0)) z = pu_fst (fun k => pm_may (S.1 46) (S.1 35 0) k (S.1 46 k)) z ∧ (pu_fst (pu_fits (S.1 2) (S.1 3 0)) z = z → ∀ j, j < z → pu_fits (S.1 2) (S.1 3 0) j = true) := by
  obtain ⟨e0, e20, e17, eh, e10, e11, e12, e13, e14, e9, e16, e15, e46, e8⟩ := iv_e i
  obtain ⟨i1, i2, i3, i4, i5, i6⟩ := i
  rw [e46, e0, i2.2.1]
  exact pq_fst_c z (fun j hj hb => pq_fits i1.2.2.2.2 i2.1 j hb)
theorem s_about (i : iv S n z m kn km) (h w : Int32) : aw_about (S.1 3 0) (pu_hs S) (S.1 12) (S.1 13) (S.1 11 5) h w = aw_about (S.1 35 0) (pu_hm S) (S.1 42) (S.1 43) (S.1 35 9) h w := by
  obtain ⟨e0, e20, e17, eh, e10, e11, e12, e13, e14, e9, e16, e15, e46, e8⟩ := iv_e i
  obtain ⟨i1, i2, i3, i4, i5, i6⟩ := i
  rw [e0, eh, e9, aw_about, aw_about]
  by_cases q : pu_hq h (S.1 3 0) = false
  · rw [if_pos q, if_pos q]
  · obtain ⟨k, hk, e⟩ := pu_hq_k i2.2.1 (by have := i2.1; omega) (ts_nf q)
    have hk8 : h.toNatClampNeg < 8 := by rw [e, nI_clamp (by have := i2.1; omega)]; have := i2.1; omega
    rw [if_neg q, if_neg q, i3.2.1 _ hk8, i3.2.2.1 _ hk8]
theorem s_as (i : iv S n z m kn km) (h k : Int32) : aw_as (S.1 3 0) (S.1 4) h k = aw_as (S.1 35 0) (S.1 36) h k := by
  obtain ⟨e0, e20, e17, eh, _⟩ := iv_e i
  rw [e0, show S.1 36 = S.1 4 from congrFun eh 0]
theorem s_wants (i : iv S n z m kn km) (h : Int32) : aw_want (S.1 3 0) (pu_hs S) (S.1 11 2) (S.1 11 5) (S.1 11 4) h = if pu_hq h (S.1 35 0) = true then pm_W (pu_hm S) (S.1 35 12) (S.1 35 9) (S.1 35 14) h.toNatClampNeg else -101 := by
  obtain ⟨e0, e20, e17, eh, e10, e11, e12, e13, e14, e9, e16, e15, e46, e8⟩ := iv_e i
  rw [e0, eh, e12, e9, e14, pq_W i.2.1.2.2.2.2.2.1, aw_want]
theorem s_rn (i : iv S n z m kn km) : vx_b01 (S.1 11 6) = S.1 11 6 := by
  obtain ⟨a, b, q, t, e1, e2, e3, e4, e5, e6, e7, e8, _⟩ := i.2.2.1.2.2.2
  exact e7
theorem s_G (i : iv S n z m kn km) (t : Int32) : pm_G (pu_hm S) (S.1 35 16) (S.1 35 12) (S.1 35 9) (S.1 35 14) n t = pu_G (pu_hs S) (S.1 10) (S.1 11 6) (S.1 11 2) (S.1 11 5) (S.1 11 4) n t := by
  obtain ⟨e0, e20, e17, eh, e10, e11, e12, e13, e14, e9, e16, e15, e46, e8⟩ := iv_e i
  rw [eh, e12, e9, e14, e16]
  exact pq_G i.2.1.1 i.2.1.2.2.2.2.1 i.2.1.2.2.2.2.2.1 (s_rn i) _ _ _ t
theorem s_part (i : iv S n z m kn km) (po ro : Nat → Int32) {k : Nat} (hk : k < n) : pu_pts (S.1 11 0 - S.1 11 1) (S.1 11 8) (S.1 12) po ro n k = pm_part (S.1 35 10 - S.1 35 11) (S.1 42) n k := by
  obtain ⟨e0, e20, e17, eh, e10, e11, e12, e13, e14, e9, e16, e15, e46, e8⟩ := iv_e i
  obtain ⟨i1, i2, i3, i4, i5, i6⟩ := i
  obtain ⟨a, b, q, t, f1, f2, f3, f4, f5, f6, f7, f8, f9, g1, g2, g3, g4⟩ := i3.2.2.2
  have hn := i2.1
  rw [e10, e11, f1, f3, g4, pk_sub f4]
  have ht : ∀ j, t j ≤ 1000 := fun j => by
    rcases Nat.lt_or_ge j n with w | w
    · have := fb_sm_part t w; omega
    · rw [g1 j w]; omega
  exact pq_part hn (fun j hj => f9 j (by omega)) (fun j hj => by rw [← i3.2.1 j (by omega)]; exact f9 j (by omega)) ht rfl (by omega) (by omega) po ro hk
theorem s_TA (i : iv S n z m kn km) (ho : Nat) {x : Nat} (hx : x ≤ 99) (br : Int32) : pm_TA (pu_hm S) (S.1 35 16) n ho (S.1 35 11 + nI x) (S.1 35 14) (S.1 35 15) (pm_sm (S.1 42) n) br = pu_TA (pu_hs S) (S.1 10) (S.1 11 6) n ho (S.1 11 1 + nI x) (S.1 11 4) (S.1 11 7) (S.1 11 8) br := by
  obtain ⟨e0, e20, e17, eh, e10, e11, e12, e13, e14, e9, e16, e15, e46, e8⟩ := iv_e i
  have hr := s_rn i
  obtain ⟨i1, i2, i3, i4, i5, i6⟩ := i
  obtain ⟨a, b, q, t, f1, f2, f3, f4, f5, f6, f7, f8, f9, g1, g2, g3, g4⟩ := i3.2.2.2
  rw [eh, e16, e11, e14, e15, e8, f3, nI_add]
  exact pq_TA i2.1 i2.2.2.2.2.1 i2.2.2.2.2.2.1 i2.2.2.2.2.2.2 hr ho (by omega) _ _ _ br
theorem s_TA0 (i : iv S n z m kn km) (ho : Nat) (br : Int32) : pm_TA (pu_hm S) (S.1 35 16) n ho (S.1 35 11 + 0) (S.1 35 14) (S.1 35 15) (pm_sm (S.1 42) n) br = pu_TA (pu_hs S) (S.1 10) (S.1 11 6) n ho (S.1 11 1) (S.1 11 4) (S.1 11 7) (S.1 11 8) br := by
  have h := s_TA i ho (x := 0) (by omega) br
  rw [show nI 0 = 0 from rfl, pm_add0 (S.1 11 1)] at h
  exact h
theorem s_best (i : iv S n z m kn km) (ho : Nat) : pm_best (fun t => pm_TA (pu_hm S) (S.1 35 16) n ho (S.1 35 11 + 0) (S.1 35 14) (S.1 35 15) (pm_sm (S.1 42) n) t) (2 ^ n - 1) = pu_best (fun t => pu_TA (pu_hs S) (S.1 10) (S.1 11 6) n ho (S.1 11 1) (S.1 11 4) (S.1 11 7) (S.1 11 8) t) (2 ^ n - 1) ∧ (pu_best (fun t => pu_TA (pu_hs S) (S.1 10) (S.1 11 6) n ho (S.1 11 1) (S.1 11 4) (S.1 11 7) (S.1 11 8) t) (2 ^ n - 1)).2 = pu_TA (pu_hs S) (S.1 10) (S.1 11 6) n ho (S.1 11 1) (S.1 11 4) (S.1 11 7) (S.1 11 8) (pu_best (fun t => pu_TA (pu_hs S) (S.1 10) (S.1 11 6) n ho (S.1 11 1) (S.1 11 4) (S.1 11 7) (S.1 11 8) t) (2 ^ n - 1)).1 := by
  have h2 := pu_2n n i.2.1.1
  have h := pq_best (T := fun t => pu_TA (pu_hs S) (S.1 10) (S.1 11 6) n ho (S.1 11 1) (S.1 11 4) (S.1 11 7) (S.1 11 8) t) (T2 := fun t => pm_TA (pu_hm S) (S.1 35 16) n ho (S.1 35 11 + 0) (S.1 35 14) (S.1 35 15) (pm_sm (S.1 42) n) t) (fun t => (s_TA0 i ho t).symm) (2 ^ n - 1) (by omega)
  exact ⟨h.1, h.2.1⟩
theorem s_plan (i : iv S n z m kn km) (ho : Nat) (w : Int32) : (if 0 ≤ w ∧ w ≤ 1 then (if w = 0 then (fun t => pu_TA (pu_hs S) (S.1 10) (S.1 11 6) n ho (S.1 11 1) (S.1 11 4) (S.1 11 7) (S.1 11 8) t) (pu_best (fun t => pu_TA (pu_hs S) (S.1 10) (S.1 11 6) n ho (S.1 11 1) (S.1 11 4) (S.1 11 7) (S.1 11 8) t) (2 ^ n - 1)).1 else (pu_best (fun t => pu_TA (pu_hs S) (S.1 10) (S.1 11 6) n ho (S.1 11 1) (S.1 11 4) (S.1 11 7) (S.1 11 8) t) (2 ^ n - 1)).1) else (-102 : Int32)) = (if 0 ≤ w ∧ w ≤ 1 then (if w = 0 then (pm_best (fun t => pm_TA (pu_hm S) (S.1 35 16) n ho (S.1 35 11 + 0) (S.1 35 14) (S.1 35 15) (pm_sm (S.1 42) n) t) (2 ^ n - 1)).2 else (pm_best (fun t => pm_TA (pu_hm S) (S.1 35 16) n ho (S.1 35 11 + 0) (S.1 35 14) (S.1 35 15) (pm_sm (S.1 42) n) t) (2 ^ n - 1)).1) else -102) := by
  obtain ⟨h1, h2⟩ := s_best i ho
  rw [h1, h2]
theorem s_more (i : iv S n z m kn km) (ho : Nat) (f : Int32) : (if 0 ≤ f ∧ f ≤ 99 then pu_TA (pu_hs S) (S.1 10) (S.1 11 6) n ho (S.1 11 1 + f) (S.1 11 4) (S.1 11 7) (S.1 11 8) (S.1 11 5) - pu_TA (pu_hs S) (S.1 10) (S.1 11 6) n ho (S.1 11 1) (S.1 11 4) (S.1 11 7) (S.1 11 8) (S.1 11 5) else (-102 : Int32)) = (if 0 ≤ f ∧ f ≤ 99 then pm_TA (pu_hm S) (S.1 35 16) n ho (S.1 35 11 + f) (S.1 35 14) (S.1 35 15) (pm_sm (S.1 42) n) (S.1 35 9) - pm_TA (pu_hm S) (S.1 35 16) n ho (S.1 35 11 + 0) (S.1 35 14) (S.1 35 15) (pm_sm (S.1 42) n) (S.1 35 9) else -102) := by
  by_cases h : 0 ≤ f ∧ f ≤ 99
  · rw [if_pos h, if_pos h]
    obtain ⟨x, hx, rfl⟩ := nI_of2 (M := 99) (n := 99) (by decide) (fun q => absurd h.1 (pu_lt q)) h.2
    have e9 : S.1 35 9 = S.1 11 5 := (iv_e i).2.2.2.2.2.2.2.2.2.1
    rw [s_TA i ho hx, s_TA0 i ho, e9]
  · rw [if_neg h, if_neg h]
theorem s_missing (i : iv S n z m kn km) {o : Nat} (ho : o < 2 ^ n) (hop : pu_openIn (S.1 6) (S.1 7) (S.1 11 2) n = nI o) (f w : Int32) : (if aw_msB f w = true then aw_ms (pu_ms (pu_msok (S.1 8) n (nI o) f) (nI o) o) w else (-102 : Int32)) = (if aw_msB f w = true then am_ms (pu_ms (pu_msok (S.1 40) n (pm_openIn (S.1 38) (S.1 39) (S.1 35 12) n) f) (nI (2 ^ n - 1)) (2 ^ n - 1)) w else -102) := by
  obtain ⟨e0, e20, e17, eh, e10, e11, e12, e13, e14, e9, e16, e15, e46, e8⟩ := iv_e i
  by_cases h : aw_msB f w = true
  · rw [if_pos h, if_pos h, show S.1 40 = S.1 8 from congrFun eh 4, show S.1 38 = S.1 6 from congrFun eh 2, show S.1 39 = S.1 7 from congrFun eh 3, e12, pq_openIn (to := S.1 7) i.2.1.2.2.2.2.2.1, hop]
    exact (pq_ms i.2.1.1 ho h).symm
  · rw [if_neg h, if_neg h]
theorem s_rest (i : iv S n z m kn km) (ho : Nat) (sd w : Int32) : (if aw_rsB sd w = true then aw_rs (pu_rs (pu_hs S) (S.1 10) (S.1 11 5) n (9 - ho) sd (S.1 11 1) (nI ho) (S.1 11 4) (S.1 11 7) (S.1 11 8) (-1)) (S.1 11 8) w else (-102 : Int32)) = (if aw_rsB sd w = true then am_rs (pm_rs (pu_hm S) (S.1 35 9) n (9 - ho) sd.toInt64 (S.1 35 11) (nI ho) (S.1 35 14) (S.1 35 15) (pm_sm (S.1 42) n) (-1)) (pm_sm (S.1 42) n) w else -102) := by
  obtain ⟨e0, e20, e17, eh, e10, e11, e12, e13, e14, e9, e16, e15, e46, e8⟩ := iv_e i
  by_cases h : aw_rsB sd w = true
  · rw [if_pos h, if_pos h, eh, e9, e11, e14, e15, e8]
    have hs : ¬ sd < 0 := by
      simp only [aw_rsB, Bool.and_eq_true, decide_eq_true_eq] at h
      exact fun q => absurd h.1 (pu_lt q)
    obtain ⟨q, hq, rfl⟩ := nI_of hs
    obtain ⟨j, hj, h1, h2⟩ := pq_rs i.2.1.1 i.2.1.2.2.2.2.1 i.2.1.2.2.2.2.2.1 (S.1 11 5) (9 - ho) q hq (S.1 11 1) (nI ho) (S.1 11 4) (S.1 11 7) (S.1 11 8) (-1) (fun _ => rfl)
    rw [nI_l hq, h1, am_rs, aw_rs, h2]
    simp only [show nI 0 = 0 from rfl, show nI 1 = 1 from rfl, show nI 2 = 2 from rfl]
    rw [← nI_l hj]
    simp
  · rw [if_neg h, if_neg h]
theorem s_leak (i : iv S n z m kn km) (h : Int32) : (if pu_hq h (S.1 3 0) = true then pu_leak (S.1 18) (S.1 19) h m 9 else (-101 : Int32)) = (if pu_hq h (S.1 35 0) = true then pm_leak (pu_hm S) n (S.1 44) (S.1 45) m h 9 else -101) := by
  obtain ⟨e0, e20, e17, eh, _⟩ := iv_e i
  rw [e0, eh, pq_leak i.2.1.1 i.2.1.2.2.2.2.1 i.2.2.2.1.2.2]
theorem s_leaks (i : iv S n z m kn km) : pu_leaks (S.1 18) (S.1 19) m n = pm_leaks (fun j => pm_leak (pu_hm S) n (S.1 44) (S.1 45) m (nI j) 9) n := by
  obtain ⟨e0, e20, e17, eh, _⟩ := iv_e i
  rw [eh, pq_leakss i.2.1.1 i.2.1.2.2.2.2.1 i.2.2.2.1.2.2]
theorem s_look (i : iv S n z m kn km) : aw_look (pu_leaks (S.1 18) (S.1 19) m n) (S.1 10) n = am_look (pm_leaks (fun j => pm_leak (pu_hm S) n (S.1 44) (S.1 45) m (nI j) 9) n) (S.1 37) n := by
  have hl := s_leaks i
  have hb := pq_leaks (L := fun j => pm_leak (pu_hm S) n (S.1 44) (S.1 45) m (nI j) 9) n i.2.1.1
  rw [← hl] at hb ⊢
  obtain ⟨e0, e20, e17, eh, _⟩ := iv_e i
  rw [aw_look, am_look, show S.1 37 = pu_hs S 1 from congrFun eh 1, pq_look i.2.1.1 i.2.1.2.2.2.2.1 (fun q h1 h2 => by have := hb q h1 h2; have := i.2.1.1; omega) _ (Nat.le_refl _)]
theorem s_count (i : iv S n z m kn km) (w : Int32) : aw_cnt (S.1 3 0) (S.1 11 0) (S.1 11 1) (S.1 11 2) (S.1 11 8) (S.1 11 3) (S.1 11 7) (S.1 11 6) (S.1 17 0) (S.1 1 0) w = aw_cnt (S.1 35 0) (S.1 35 10) (S.1 35 11) (S.1 35 12) (pm_sm (S.1 42) n) (S.1 35 13) (S.1 35 15) (S.1 35 16) (S.1 35 17) (S.1 35 20) w := by
  obtain ⟨e0, e20, e17, eh, e10, e11, e12, e13, e14, e9, e16, e15, e46, e8⟩ := iv_e i
  rw [e0, e10, e11, e12, e8, e13, e15, e16, e17, e20]
end SQ
theorem dg_H_c {ab ab2 : Nat → Nat → Int32} {wn wn2 pt pt2 lk lk2 : Nat → Int32} (h : Int64) : ∀ n, (∀ j, j < n → (∀ w, w < 9 → ab j w = ab2 j w) ∧ wn j = wn2 j ∧ pt j = pt2 j ∧ lk j = lk2 j) → dg_H ab wn pt lk h n = dg_H ab2 wn2 pt2 lk2 h n
  | 0, _ => rfl
  | n + 1, e => by
    obtain ⟨e1, e2, e3, e4⟩ := e n (by omega)
    rw [dg_H, dg_H, dg_H_c h n (fun j hj => e j (by omega)), e2, e3, e4, dg_l_c _ 9 e1]
theorem pq_hnab {x : Int32} {n : Nat} (hx : x = nI n) (hn : n ≤ 8) (hs : Nat → Nat → Int32) (tk ow : Nat → Int32) (br : Int32) {k w : Nat} (hk : k < n) (hw : w < 9) : aw_about x hs tk ow br (nI k) (nI w) = pm_hn hs tk ow br k (nI w) := by
  have hq : ¬ pu_hq (nI k) x = false := by
    rw [hx]
    have : ∀ n, n ≤ 8 → ∀ k, k < n → ¬ pu_hq (nI k) (nI n) = false := by decide +kernel
    exact this n hn k hk
  rw [aw_about, if_neg hq, nI_clamp (by omega), pm_hn]
  rcases (show w = 0 ∨ w = 1 ∨ w = 2 ∨ w = 3 ∨ w = 4 ∨ w = 5 ∨ w = 6 ∨ w = 7 ∨ w = 8 by omega) with rfl | rfl | rfl | rfl | rfl | rfl | rfl | rfl | rfl <;> rfl
