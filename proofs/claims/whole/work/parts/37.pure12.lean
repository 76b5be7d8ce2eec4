/-! ===== what holds between two calls of the law ===== -/
def iv_p (k : Nat) : Nat := [10, 11, 12, 13, 14, 9, 16, 15].getD k 0
def iv_q (k : Nat) : Nat := [33, 34, 35, 36, 37, 38, 40, 39].getD k 0
def iv_D (d tk : Nat → Int32) (n : Nat) : Prop := ∃ (a b h : Nat) (t : Nat → Nat), d 0 = nI a ∧ (1 ≤ a ∧ a ≤ 99) ∧ d 1 = nI b ∧ b ≤ a ∧ d 2 = nI h ∧ h ≤ 9 ∧ vx_b01 (d 6) = d 6 ∧ vx_b01 (d 7) = d 7 ∧ (∀ j, j < 8 → tk j = nI (t j)) ∧ (∀ j, n ≤ j → t j = 0) ∧ fb_sm t n + b ≤ a ∧ (h = 0 → ∀ j, t j = 0) ∧ d 8 = nI (fb_sm t n)
def iv_page (S : vx_St) (z : Nat) : Prop := z ≤ 12 ∧ S.1 1 0 = nI z ∧ S.1 35 20 = nI z ∧ S.1 2 = S.1 46 ∧ ∀ k, ∃ v, v ≤ 126 ∧ S.1 2 k = nI v
def iv_hou (S : vx_St) (n : Nat) : Prop := n ≤ 8 ∧ S.1 3 0 = nI n ∧ S.1 35 0 = nI n ∧ pu_hm S = pu_hs S ∧ pq_wy (pu_hs S 1) (S.1 10) n ∧ (∀ j, ∃ a, a ≤ 9 ∧ pu_hs S 3 j = nI a) ∧ pq_hv (pu_hs S) n
def iv_day (S : vx_St) (n : Nat) : Prop := (∀ k, k < 8 → S.1 11 k = S.1 35 (iv_p k)) ∧ (∀ j, j < 8 → S.1 12 j = S.1 42 j) ∧ (∀ j, j < 8 → S.1 13 j = S.1 43 j) ∧ iv_D (S.1 11) (S.1 12) n
def iv_rd (S : vx_St) (n m : Nat) : Prop := S.1 17 0 = nI m ∧ S.1 35 17 = nI m ∧ iv_R (pu_hs S) (S.1 10) n m (S.1 18) (S.1 19) (S.1 44) (S.1 45)
def iv_ib (S : vx_St) : Prop := S.1 0 5 = S.1 35 31 ∧ vx_b01 (S.1 26 6) = S.1 26 6 ∧ vx_b01 (S.1 26 7) = S.1 26 7 ∧ vx_b01 (S.1 35 39) = S.1 35 39 ∧ vx_b01 (S.1 35 40) = S.1 35 40
def iv_im (S : vx_St) (n kn km : Nat) : Prop := ¬ S.1 0 5 = 0 → (kn ≤ n ∧ S.1 0 6 = nI kn ∧ S.1 35 32 = nI kn) ∧ ((∀ k, k < 8 → S.1 26 k = S.1 35 (iv_q k)) ∧ (∀ j, j < 8 → S.1 27 j = S.1 48 j) ∧ (∀ j, j < 8 → S.1 28 j = S.1 49 j) ∧ iv_D (S.1 26) (S.1 27) kn) ∧ (S.1 32 0 = nI km ∧ S.1 35 41 = nI km ∧ iv_R (pu_hs S) (S.1 10) kn km (S.1 33) (S.1 34) (S.1 50) (S.1 51))
def iv (S : vx_St) (n z m kn km : Nat) : Prop := iv_page S z ∧ iv_hou S n ∧ iv_day S n ∧ iv_rd S n m ∧ iv_ib S ∧ iv_im S n kn km
def ivx (S : vx_St) : Prop := ∃ n z m kn km, iv S n z m kn km
/-- two stores differ at the rows cs, and in the reference's own row at the places ss, at most -/
def iv_eq (S S2 : vx_St) (cs ss : List Nat) : Prop := (∀ c, c ≠ 35 → c ∉ cs → S2.1 c = S.1 c) ∧ ∀ k, k ∉ ss → S2.1 35 k = S.1 35 k
theorem iv_D_c {d tk d2 tk2 : Nat → Int32} {n : Nat} (h1 : ∀ k, k < 9 → d2 k = d k) (h2 : ∀ j, j < 8 → tk2 j = tk j) (h : iv_D d tk n) : iv_D d2 tk2 n := by
  obtain ⟨a, b, q, t, e1, e2, e3, e4, e5, e6, e7, e8, e9, f1, f2, f3, f4⟩ := h
  exact ⟨a, b, q, t, by rw [h1 0 (by omega)]; exact e1, e2, by rw [h1 1 (by omega)]; exact e3, e4, by rw [h1 2 (by omega)]; exact e5, e6, by rw [h1 6 (by omega)]; exact e7, by rw [h1 7 (by omega)]; exact e8, fun j hj => by rw [h2 j hj]; exact e9 j hj, f1, f2, f3, by rw [h1 8 (by omega)]; exact f4⟩
theorem iv_R_c {hs hs2 : Nat → Nat → Int32} {wy wy2 th ex se fe th2 ex2 se2 fe2 : Nat → Int32} {n m : Nat} (h0 : hs2 = hs) (h1 : wy2 = wy) (h2 : ∀ j, j < 8 → th2 j = th j) (h3 : ∀ j, j < 8 → ex2 j = ex j) (h4 : ∀ j, j < 8 → se2 j = se j) (h5 : ∀ j, j < 8 → fe2 j = fe j) (h : iv_R hs wy n m th ex se fe) : iv_R hs2 wy2 n m th2 ex2 se2 fe2 := by
  subst h0
  subst h1
  refine ⟨h.1, fun r hr => ?_⟩
  have h8 := h.1
  obtain ⟨t, e1, e2, e3, e4⟩ := h.2 r hr
  exact ⟨t, e1, by rw [h4 r (by omega)]; exact e2, by rw [h2 r (by omega)]; exact e3, by rw [h3 r (by omega), h5 r (by omega)]; exact e4⟩
theorem iv_hs_c {S S2 : vx_St} {cs ss : List Nat} (h : iv_eq S S2 cs ss) (hc : ∀ c, 4 ≤ c → c < 11 → c ∉ cs) : pu_hs S2 = pu_hs S := pu_hs_c (fun c h1 h2 => h.1 c (by omega) (hc c h1 (by omega)))
theorem iv_hm_c {S S2 : vx_St} {cs ss : List Nat} (h : iv_eq S S2 cs ss) (hc : ∀ c, 36 ≤ c → c < 42 → c ∉ cs) : pu_hm S2 = pu_hm S := pu_hm_c (fun c h1 h2 => h.1 c (by omega) (hc c h1 (by omega)))
theorem iv_page_c {S S2 : vx_St} {cs ss : List Nat} {z : Nat} (h : iv_eq S S2 cs ss) (h1 : 1 ∉ cs) (h2 : 2 ∉ cs) (h3 : 46 ∉ cs) (h4 : 20 ∉ ss) (i : iv_page S z) : iv_page S2 z := by
  unfold iv_page at *
  rw [h.1 1 (by decide) h1, h.1 2 (by decide) h2, h.1 46 (by decide) h3, h.2 20 h4]
  exact i
theorem iv_hou_c {S S2 : vx_St} {cs ss : List Nat} {n : Nat} (h : iv_eq S S2 cs ss) (h1 : 3 ∉ cs) (h2 : 0 ∉ ss) (h3 : ∀ c, 4 ≤ c → c < 11 → c ∉ cs) (h4 : ∀ c, 36 ≤ c → c < 42 → c ∉ cs) (i : iv_hou S n) : iv_hou S2 n := by
  unfold iv_hou at *
  rw [h.1 3 (by decide) h1, h.2 0 h2, iv_hs_c h h3, iv_hm_c h h4, h.1 10 (by decide) (h3 10 (by omega) (by omega))]
  exact i
theorem iv_p_in {k : Nat} (h : k < 8) : 9 ≤ iv_p k ∧ iv_p k ≤ 16 := by
  have : ∀ k, k < 8 → 9 ≤ iv_p k ∧ iv_p k ≤ 16 := by decide +kernel
  exact this k h
theorem iv_q_in {k : Nat} (h : k < 8) : 33 ≤ iv_q k ∧ iv_q k ≤ 40 := by
  have : ∀ k, k < 8 → 33 ≤ iv_q k ∧ iv_q k ≤ 40 := by decide +kernel
  exact this k h
theorem iv_day_c {S S2 : vx_St} {cs ss : List Nat} {n : Nat} (h : iv_eq S S2 cs ss) (h1 : 11 ∉ cs) (h2 : 12 ∉ cs) (h3 : 13 ∉ cs) (h4 : 42 ∉ cs) (h5 : 43 ∉ cs) (h6 : ∀ k, 9 ≤ k → k ≤ 16 → k ∉ ss) (i : iv_day S n) : iv_day S2 n := by
  unfold iv_day at *
  rw [h.1 11 (by decide) h1, h.1 12 (by decide) h2, h.1 13 (by decide) h3, h.1 42 (by decide) h4, h.1 43 (by decide) h5]
  exact ⟨fun k hk => by rw [h.2 _ (h6 _ (iv_p_in hk).1 (iv_p_in hk).2)]; exact i.1 k hk, i.2⟩
theorem iv_rd_c {S S2 : vx_St} {cs ss : List Nat} {n m : Nat} (h : iv_eq S S2 cs ss) (h1 : 17 ∉ cs) (h2 : 18 ∉ cs) (h3 : 19 ∉ cs) (h4 : 44 ∉ cs) (h5 : 45 ∉ cs) (h6 : 17 ∉ ss) (h7 : ∀ c, 4 ≤ c → c < 11 → c ∉ cs) (i : iv_rd S n m) : iv_rd S2 n m := by
  unfold iv_rd at *
  rw [h.1 17 (by decide) h1, h.1 18 (by decide) h2, h.1 19 (by decide) h3, h.1 44 (by decide) h4, h.1 45 (by decide) h5, h.2 17 h6, iv_hs_c h h7, h.1 10 (by decide) (h7 10 (by omega) (by omega))]
  exact i
theorem iv_ib_c {S S2 : vx_St} {cs ss : List Nat} (h : iv_eq S S2 cs ss) (h1 : 0 ∉ cs) (h2 : 26 ∉ cs) (h3 : 31 ∉ ss) (h4 : 39 ∉ ss) (h5 : 40 ∉ ss) (i : iv_ib S) : iv_ib S2 := by
  unfold iv_ib at *
  rw [h.1 0 (by decide) h1, h.1 26 (by decide) h2, h.2 31 h3, h.2 39 h4, h.2 40 h5]
  exact i
theorem iv_im_c {S S2 : vx_St} {cs ss : List Nat} {n kn km : Nat} (h : iv_eq S S2 cs ss) (h1 : 0 ∉ cs) (h2 : ∀ c, 26 ≤ c → c ≤ 28 → c ∉ cs) (h3 : ∀ c, 32 ≤ c → c ≤ 34 → c ∉ cs) (h4 : ∀ c, 48 ≤ c → c ≤ 51 → c ∉ cs) (h5 : ∀ k, 31 ≤ k → k ≤ 41 → k ∉ ss) (h7 : ∀ c, 4 ≤ c → c < 11 → c ∉ cs) (i : iv_im S n kn km) : iv_im S2 n kn km := by
  unfold iv_im at *
  rw [h.1 0 (by decide) h1, h.1 26 (by decide) (h2 26 (by omega) (by omega)), h.1 27 (by decide) (h2 27 (by omega) (by omega)), h.1 28 (by decide) (h2 28 (by omega) (by omega)), h.1 32 (by decide) (h3 32 (by omega) (by omega)), h.1 33 (by decide) (h3 33 (by omega) (by omega)), h.1 34 (by decide) (h3 34 (by omega) (by omega)), h.1 48 (by decide) (h4 48 (by omega) (by omega)), h.1 49 (by decide) (h4 49 (by omega) (by omega)), h.1 50 (by decide) (h4 50 (by omega) (by omega)), h.1 51 (by decide) (h4 51 (by omega) (by omega)), h.2 32 (h5 32 (by omega) (by omega)), h.2 41 (h5 41 (by omega) (by omega)), iv_hs_c h h7, h.1 10 (by decide) (h7 10 (by omega) (by omega))]
  intro q
  obtain ⟨g1, ⟨g2, g3⟩, g4⟩ := i q
  exact ⟨g1, ⟨fun k hk => by rw [h.2 _ (h5 _ (by have := (iv_q_in hk).1; omega) (by have := (iv_q_in hk).2; omega))]; exact g2 k hk, g3⟩, g4⟩
/-- what only scratch rows changed keeps all -/
theorem iv_keep {S S2 : vx_St} (h : iv_eq S S2 [14, 15, 16, 20, 21, 22, 23, 47] [23, 24, 25, 26, 27, 28, 29]) (i : ivx S) : ivx S2 := by
  obtain ⟨n, z, m, kn, km, i1, i2, i3, i4, i5, i6⟩ := i
  have nm : ∀ c, (c < 14 ∨ c = 17 ∨ c = 18 ∨ c = 19 ∨ (23 < c ∧ c < 47) ∨ 47 < c) → c ∉ [14, 15, 16, 20, 21, 22, 23, 47] := fun c hc => by simp only [List.mem_cons, List.not_mem_nil, or_false, not_or]; omega
  have nk : ∀ k, (k < 23 ∨ 29 < k) → k ∉ [23, 24, 25, 26, 27, 28, 29] := fun c hc => by simp only [List.mem_cons, List.not_mem_nil, or_false, not_or]; omega
  exact ⟨n, z, m, kn, km, iv_page_c h (by decide) (by decide) (by decide) (by decide) i1, iv_hou_c h (by decide) (by decide) (fun c _ _ => nm c (by omega)) (fun c _ _ => nm c (by omega)) i2, iv_day_c h (by decide) (by decide) (by decide) (by decide) (by decide) (fun k _ _ => nk k (by omega)) i3, iv_rd_c h (by decide) (by decide) (by decide) (by decide) (by decide) (by decide) (fun c _ _ => nm c (by omega)) i4, iv_ib_c h (by decide) (by decide) (by decide) (by decide) (by decide) i5, iv_im_c h (by decide) (fun c _ _ => nm c (by omega)) (fun c _ _ => nm c (by omega)) (fun c _ _ => nm c (by omega)) (fun k _ _ => nk k (by omega)) (fun c _ _ => nm c (by omega)) i6⟩
/-- a class's call that changes scratch rows, and a reference's that keeps what it must -/
theorem iv_keep2 {S S1 S2 : vx_St} {cs : List Nat} (h1 : pu_chg S S1 cs) (hc : ∀ c ∈ cs, c ∈ [14, 15, 16, 20, 21, 22, 23]) (h2 : pm_same S1 S2) (i : ivx S) : ivx S2 := by
  refine iv_keep ⟨fun c hc5 hcn => ?_, fun k hk => ?_⟩ i
  · rw [h2.1 c (by simp only [List.mem_cons, List.not_mem_nil, or_false, not_or] at hcn ⊢; omega)]
    exact h1.2 c (fun q => by have := hc c q; simp only [List.mem_cons, List.not_mem_nil, or_false, not_or] at hcn this; omega)
  · rw [h2.2 k (by simp only [List.mem_cons, List.not_mem_nil, or_false, not_or] at hk; omega)]
    rw [h1.2 35 (fun q => by have := hc 35 q; revert this; decide)]
