/-! ===== of numbers that no house has: no brake, nothing owed ===== -/
def iv_un (br : Int32) (ow : Nat → Int32) (n : Nat) : Prop := ∀ k, n ≤ k → k < 8 → bt br k = false ∧ ow k = 0
def iv_unx (S : vx_St) : Prop := iv_un (S.1 11 5) (S.1 13) (S.1 3 0).toNatClampNeg ∧ (¬ S.1 0 5 = 0 → iv_un (S.1 26 5) (S.1 28) (S.1 0 6).toNatClampNeg)
/-- what holds between two calls -/
def ivz (S : vx_St) : Prop := ivx S ∧ iv_unx S
theorem un_and {a : Prop} {S : vx_St} (h : a ∧ ivx S) (k : iv_unx S) : a ∧ ivz S := ⟨h.1, h.2, k⟩
theorem un_c {S S2 : vx_St} (h0 : S2.1 0 = S.1 0) (h3 : S2.1 3 = S.1 3) (h11 : S2.1 11 5 = S.1 11 5) (h13 : S2.1 13 = S.1 13) (h26 : S2.1 26 = S.1 26) (h28 : S2.1 28 = S.1 28) (u : iv_unx S) : iv_unx S2 := by
  unfold iv_unx at *
  rw [h0, h3, h11, h13, h26, h28]
  exact u
theorem un_chg {S S2 : vx_St} {cs : List Nat} (h : pu_chg S S2 cs) (hc : ∀ c ∈ [0, 3, 11, 13, 26, 28], c ∉ cs) (u : iv_unx S) : iv_unx S2 :=
  un_c (h.2 0 (hc 0 (by decide))) (h.2 3 (hc 3 (by decide))) (congrFun (h.2 11 (hc 11 (by decide))) 5) (h.2 13 (hc 13 (by decide))) (h.2 26 (hc 26 (by decide))) (h.2 28 (hc 28 (by decide))) u
theorem un_same {S S2 : vx_St} (h : pm_same S S2) (u : iv_unx S) : iv_unx S2 :=
  un_c (h.1 0 (by decide)) (h.1 3 (by decide)) (congrFun (h.1 11 (by decide)) 5) (h.1 13 (by decide)) (h.1 26 (by decide)) (h.1 28 (by decide)) u
theorem un_uo {S : vx_St} {c : Nat} (k : Nat) (x : Int32) (hc : c ∉ [0, 3, 11, 13, 26, 28]) (u : iv_unx S) : iv_unx (vx_u S c k x) := by
  simp only [List.mem_cons, List.not_mem_nil, or_false, not_or] at hc
  exact un_c (vx_u_ne _ _ _ (by omega)) (vx_u_ne _ _ _ (by omega)) (congrFun (vx_u_ne _ _ _ (by omega)) 5) (vx_u_ne _ _ _ (by omega)) (vx_u_ne _ _ _ (by omega)) (vx_u_ne _ _ _ (by omega)) u
theorem un_u11 {S : vx_St} {k : Nat} (x : Int32) (hk : 5 ≠ k) (u : iv_unx S) : iv_unx (vx_u S 11 k x) :=
  un_c (vx_u_ne _ _ _ (by decide)) (vx_u_ne _ _ _ (by decide)) (by rw [vx_u_row]; exact pk_un hk) (vx_u_ne _ _ _ (by decide)) (vx_u_ne _ _ _ (by decide)) (vx_u_ne _ _ _ (by decide)) u
theorem un_eq {S T : vx_St} (h : S = T) (u : iv_unx T) : iv_unx S := by
  rw [h]
  exact u
theorem un_if {S S2 T : vx_St} {P : Prop} [Decidable P] (h : S2 = if P then T else S) (hT : P → iv_unx T) (u : iv_unx S) : iv_unx S2 := by
  by_cases q : P
  · rw [h, if_pos q]
    exact hT q
  · rw [h, if_neg q]
    exact u
theorem pq_btb : ∀ k, k < 8 → ∀ i, i < 32 → bt (pu_bit (nI k)) i = decide (i = k) := by decide +kernel
theorem un_off {br : Int32} {k : Nat} (hk : k < 8) (h : bt br k = false) : br &&& (pu_bit (nI k) ^^^ -1) = br := by
  refine b_ext (fun i hi => ?_)
  rw [b_and, b_xor, pq_btb k hk i hi, b_m1 i hi]
  by_cases e : i = k
  · subst e
    rw [h]
    rfl
  · rw [decide_eq_false e]
    cases bt br i <;> rfl
theorem un_n {S : vx_St} {n : Nat} (hn : n ≤ 8) (h3 : S.1 3 0 = nI n) : (S.1 3 0).toNatClampNeg = n := by
  rw [h3, nI_clamp (by omega)]
theorem un_brk {S : vx_St} (u : iv_unx S) {h : Int32} (b : Int32) {n : Nat} (hn : n ≤ 8) (h3 : S.1 3 0 = nI n) (q : pu_hq h (S.1 3 0) = true) : iv_unx (vx_u S 11 5 (aw_brk (S.1 11 5) h b)) := by
  obtain ⟨k, hk, rfl⟩ := pu_hq_k h3 (by omega) q
  have e := un_n hn h3
  unfold iv_unx at *
  rw [vx_u_row, vx_u_ne _ _ _ (show (13 : Nat) ≠ 11 by decide), vx_u_ne _ _ _ (show (3 : Nat) ≠ 11 by decide), vx_u_ne _ _ _ (show (0 : Nat) ≠ 11 by decide), vx_u_ne _ _ _ (show (26 : Nat) ≠ 11 by decide), vx_u_ne _ _ _ (show (28 : Nat) ≠ 11 by decide), pk_us]
  refine ⟨fun j h1 h2 => ⟨?_, (u.1 j h1 h2).2⟩, u.2⟩
  have hj := (u.1 j h1 h2).1
  rw [e] at h1
  unfold aw_brk
  split
  · rw [b_and, hj]
    rfl
  · rw [b_or, hj, pq_btb k (by omega) j (by omega), decide_eq_false (by omega)]
    rfl
theorem un_hour {S S1 : vx_St} {P : Prop} [Decidable P] {hs : Nat → Nat → Int32} {wy : Nat → Int32} {n : Nat} (c : pu_chg S S1 [11, 12, 14]) (h : S1.1 11 = if P then pu_nx hs wy (S.1 11) n else S.1 11) (u : iv_unx S) : iv_unx S1 := by
  refine un_c (c.2 0 (by decide)) (c.2 3 (by decide)) ?_ (c.2 13 (by decide)) (c.2 26 (by decide)) (c.2 28 (by decide)) u
  rw [h]
  split
  · exact pu_nx_5 _ _ _ _
  · rfl
theorem un_night {S S1 : vx_St} {n : Nat} {f : Nat → Int32} (hn : n ≤ 8) (h3 : S.1 3 0 = nI n) (c : pu_chg S S1 [11, 12, 13, 15, 16]) (h : S1.1 11 = pu_ngt (S.1 11)) (h2 : S1.1 13 = pu_fill f (S.1 13) n) (u : iv_unx S) : iv_unx S1 := by
  have e := un_n hn h3
  have h5 : S1.1 11 5 = S.1 11 5 := by
    rw [h]
    rfl
  unfold iv_unx at *
  rw [h5, h2, c.2 3 (by decide), c.2 0 (by decide), c.2 26 (by decide), c.2 28 (by decide)]
  refine ⟨fun k k1 k2 => ⟨(u.1 k k1 k2).1, ?_⟩, u.2⟩
  rw [pu_fill, if_neg (by omega)]
  exact (u.1 k k1 k2).2
theorem un_image {S S1 : vx_St} (c : pu_chg S S1 [0, 26, 27, 28, 32, 33, 34]) (h0 : S1.1 0 = upd (upd (S.1 0) 5 1) 6 (S.1 3 0)) (h26 : ∀ k, k < 9 → S1.1 26 k = S.1 11 k) (h28 : ∀ k, k < 8 → S1.1 28 k = S.1 13 k) (u : iv_unx S) : iv_unx S1 := by
  unfold iv_unx at *
  rw [c.2 11 (by decide), c.2 13 (by decide), c.2 3 (by decide), h0, pk_us, h26 5 (by decide)]
  refine ⟨u.1, fun _ k k1 k2 => ?_⟩
  rw [h28 k k2]
  exact u.1 k k1 k2
theorem un_restore {S S1 : vx_St} (h : ¬ S.1 0 5 = 0) (c : pu_chg S S1 [3, 11, 12, 13, 17, 18, 19]) (h3 : S1.1 3 = upd (S.1 3) 0 (S.1 0 6)) (h11 : ∀ k, k < 9 → S1.1 11 k = S.1 26 k) (h13 : ∀ k, k < 8 → S1.1 13 k = S.1 28 k) (u : iv_unx S) : iv_unx S1 := by
  unfold iv_unx at *
  rw [c.2 0 (by decide), c.2 26 (by decide), c.2 28 (by decide), h3, pk_us, h11 5 (by decide)]
  refine ⟨fun k k1 k2 => ?_, u.2⟩
  rw [h13 k k2]
  exact u.2 h k k1 k2
theorem un_house {S S1 S2 : vx_St} {n z m kn km : Nat} (i : iv S n z m kn km) (u : iv_unx S) {r1 r2 : Int32}
    (p1 : r1 = aw_hou (S.1 2) z (S.1 3 0) (S.1 11 2) n ∧ (aw_hB (S.1 2) z (S.1 3 0) (S.1 11 2) n = false → S1 = S) ∧ (aw_hB (S.1 2) z (S.1 3 0) (S.1 11 2) n = true → pu_chg S S1 [1, 3, 4, 5, 6, 7, 8, 9, 10] ∧ S1.1 1 = upd (S.1 1) 0 0 ∧ S1.1 3 = upd (S.1 3) 0 (nI (n + 1)) ∧ S1.1 4 = upd (S.1 4) n (pu_kind (S.1 2 0)) ∧ S1.1 5 = upd (S.1 5) n (pu_par (S.1 2 1)) ∧ S1.1 6 = upd (S.1 6) n (S.1 2 2 - 48) ∧ S1.1 7 = upd (S.1 7) n (S.1 2 3 - 48) ∧ S1.1 8 = upd (S.1 8) n (S.1 2 4 - 48) ∧ S1.1 9 = upd (S.1 9) n (S.1 2 5 - 48) ∧ S1.1 10 = upd (S.1 10) n (pu_newway (S.1 10) (pu_par (S.1 2 1)) n)))
    (p2 : r2 = am_hou (S1.1 46) z (S1.1 35 0) (S1.1 35 12) n ∧ (am_hB (S1.1 46) z (S1.1 35 0) (S1.1 35 12) n = false → S2 = S1) ∧ (am_hB (S1.1 46) z (S1.1 35 0) (S1.1 35 12) n = true → pu_chg S1 S2 [35, 36, 37, 38, 39, 40, 41, 42, 43] ∧ S2.1 35 = upd (upd (upd (S1.1 35) 9 (S1.1 35 9 &&& (pu_bit (nI n) ^^^ -1))) 0 (nI (n + 1))) 20 0 ∧ S2.1 36 = upd (S1.1 36) n (pm_kind (S1.1 46 0)) ∧ S2.1 37 = upd (S1.1 37) n (pu_par (S1.1 46 1)) ∧ S2.1 38 = upd (S1.1 38) n (S1.1 46 2 - 48) ∧ S2.1 39 = upd (S1.1 39) n (S1.1 46 3 - 48) ∧ S2.1 40 = upd (S1.1 40) n (S1.1 46 4 - 48) ∧ S2.1 41 = upd (S1.1 41) n (S1.1 46 5 - 48) ∧ S2.1 42 = upd (S1.1 42) n 0 ∧ S2.1 43 = upd (S1.1 43) n 0)) : r1 = r2 ∧ ivz S2 := by
  have e := un_n i.2.1.1 i.2.1.2.1
  have q8 : aw_hB (S.1 2) z (S.1 3 0) (S.1 11 2) n = true → n < 8 := fun q => by
    simp only [aw_hB, Bool.and_eq_true, decide_eq_true_eq] at q
    exact q.2.2
  refine un_and (st_house i ⟨p1.1, p1.2.1, fun q => ?_⟩ p2) ?_
  · have hn := q8 q
    obtain ⟨c1, x1, x3, x4, x5, x6, x7, x8, x9, x10⟩ := p1.2.2 q
    have un := u.1 n (by rw [e]; exact Nat.le_refl n) hn
    obtain ⟨a, b, hh, t, t1, t2, t3, t4, t5, t6, t7, t8, t9, u1, _⟩ := i.2.2.1.2.2.2
    have tk : S.1 12 n = 0 := by
      rw [t9 n hn, u1 n (Nat.le_refl n)]
      rfl
    refine ⟨⟨c1.1, fun c hc => c1.2 c (fun w => hc ?_)⟩, x1, x3, x4, x5, x6, x7, x8, x9, x10, ?_, ?_, ?_⟩
    · simp only [List.mem_cons, List.not_mem_nil, or_false] at w ⊢
      omega
    · rw [c1.2 11 (by decide)]
      exact (fa_upd_same (un_off hn un.1).symm).symm
    · rw [c1.2 12 (by decide)]
      exact (fa_upd_same tk).symm
    · rw [c1.2 13 (by decide)]
      exact (fa_upd_same un.2).symm
  · have u1 : iv_unx S1 := by
      by_cases q : aw_hB (S.1 2) z (S.1 3 0) (S.1 11 2) n = true
      · have hn := q8 q
        obtain ⟨c1, x1, x3, _⟩ := p1.2.2 q
        unfold iv_unx at *
        rw [c1.2 0 (by decide), c1.2 11 (by decide), c1.2 13 (by decide), c1.2 26 (by decide), c1.2 28 (by decide), x3, pk_us, nI_clamp (by omega)]
        exact ⟨fun k k1 k2 => u.1 k (by omega) k2, u.2⟩
      · exact un_eq (p1.2.1 (ts_nt q)) u
    by_cases q : am_hB (S1.1 46) z (S1.1 35 0) (S1.1 35 12) n = true
    · exact un_chg (p2.2.2 q).1 (by decide) u1
    · exact un_eq (p2.2.1 (ts_nt q)) u1
