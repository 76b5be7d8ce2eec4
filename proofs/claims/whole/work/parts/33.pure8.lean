/-! ===== sets by their bits ===== -/
theorem pq_in (t : Int32) {k : Nat} (hk : k < 32) : pu_in t (nI k) = bt t k := by
  have hb : bt ((t >>> (nI k &&& 31)) &&& 1) 0 = bt t k := by
    rw [b_and, b_sshr k hk t (by decide)]
    simp [hk, show bt 1 0 = true by decide]
  rcases pm_and1 (t >>> (nI k &&& 31)) with h | h
  · simp only [pu_in, h]
    rw [← hb, h]
    decide
  · simp only [pu_in, h]
    rw [← hb, h]
    decide
theorem pq_bit : ∀ k, k < 32 → ∀ i, i < 32 → bt (pu_bit (nI k)) i = decide (i = k) := by decide +kernel
theorem pq_all : ∀ n, n ≤ 8 → ∀ i, i < 32 → bt (pu_all (nI n)) i = decide (i < n) := by decide +kernel
theorem pq_not (x : Int32) {i : Nat} (hi : i < 32) : bt (x ^^^ -1) i = !bt x i := by
  rw [b_xor, b_m1 i hi]
  cases bt x i <;> rfl
theorem pq_work (wd : Nat → Int32) (t : Int32) : ∀ n, n ≤ 32 → ∀ i, i < 32 → bt (pu_work wd t n) i = (decide (i < n) && (bt t i && decide (0 < wd i)))
  | 0, _, i, _ => by simp [pu_work, b_0]
  | n + 1, hn, i, hi => by
    have ih := pq_work wd t n (by omega) i hi
    simp only [pu_work, pq_in t (show n < 32 by omega)]
    by_cases e : i = n
    · subst e
      split
      · rename_i h
        rw [b_or, pq_bit i (by omega) i hi]
        simp [h.1, h.2]
      · rename_i h
        rw [ih]
        have h2 : (bt t i && decide (0 < wd i)) = false := by
          rw [Bool.and_eq_false_iff, decide_eq_false_iff_not]
          by_cases q : bt t i = true
          · exact Or.inr (fun z => h ⟨q, z⟩)
          · exact Or.inl (ts_nt q)
        rw [h2]
        simp
    · have e2 : decide (i < n + 1) = decide (i < n) := by rw [decide_eq_decide]; omega
      rw [e2, ← ih]
      split
      · rw [b_or, pq_bit n (by omega) i hi]
        simp [e]
      · rfl
def pq_ex (f : Nat → Int32) (t : Int32) (i : Nat) : Nat → Bool
  | 0 => false
  | n + 1 => pq_ex f t i n || (bt t n && bt (f n) i)
theorem pq_or (f : Nat → Int32) (t : Int32) (i : Nat) : ∀ n, n ≤ 32 → bt (pu_or f t n) i = pq_ex f t i n
  | 0, _ => by simp [pu_or, pq_ex, b_0]
  | n + 1, hn => by
    have ih := pq_or f t i n (by omega)
    simp only [pu_or, pq_ex, pq_in t (show n < 32 by omega)]
    split
    · rename_i h
      rw [b_or, ih, h]
      simp
    · rename_i h
      rw [ih, ts_nt h]
      simp
theorem pq_ex_c {f : Nat → Int32} {t u : Int32} {i : Nat} : ∀ n, (∀ j, j < n → bt t j = bt u j) → pq_ex f t i n = pq_ex f u i n
  | 0, _ => rfl
  | n + 1, h => by simp only [pq_ex]; rw [pq_ex_c n (fun j hj => h j (by omega)), h n (by omega)]
theorem pq_ex_ins (f : Nat → Int32) (t : Int32) {p : Nat} (i : Nat) : ∀ n, n ≤ 32 → p < n → pq_ex f (t ||| pu_bit (nI p)) i n = (pq_ex f t i n || bt (f p) i)
  | 0, _, h => absurd h (Nat.not_lt_zero p)
  | n + 1, hn, h => by
    simp only [pq_ex]
    rw [b_or, pq_bit p (by omega) n (by omega)]
    by_cases e : p = n
    · subst e
      rw [pq_ex_c (u := t) p (fun j hj => by rw [b_or, pq_bit p (by omega) j (by omega), decide_eq_false (by omega)]; simp)]
      simp
      cases pq_ex f t i p <;> cases bt t p <;> cases bt (f p) i <;> rfl
    · rw [pq_ex_ins f t i n (by omega) (by omega), decide_eq_false (show ¬ n = p by omega)]
      cases pq_ex f t i n <;> cases bt t n <;> cases bt (f p) i <;> cases bt (f n) i <;> rfl
theorem pq_ex_in {f : Nat → Int32} {t : Int32} {i j : Nat} : ∀ n, j < n → bt t j = true → bt (f j) i = true → pq_ex f t i n = true
  | 0, h, _, _ => absurd h (Nat.not_lt_zero j)
  | n + 1, h, h1, h2 => by
    simp only [pq_ex]
    rcases Nat.lt_or_ge j n with q | q
    · rw [pq_ex_in n q h1 h2]; rfl
    · obtain rfl : j = n := by omega
      rw [h1, h2]; simp
/-- the ways are as the parents say -/
def pq_wy (par wy : Nat → Int32) (n : Nat) : Prop := ∀ j, j < n → (par j = -1 ∧ wy j = pu_bit (nI j)) ∨ ∃ p, p < j ∧ par j = nI p ∧ wy j = pu_bit (nI j) ||| wy p
theorem pq_self {par wy : Nat → Int32} {n : Nat} (hv : pq_wy par wy n) (hn : n ≤ 8) {j : Nat} (hj : j < n) : bt (wy j) j = true := by
  rcases hv j hj with ⟨_, h⟩ | ⟨p, _, _, h⟩
  · rw [h, pq_bit j (by omega) j (by omega)]; simp
  · rw [h, b_or, pq_bit j (by omega) j (by omega)]; simp
theorem pq_low {par wy : Nat → Int32} {n : Nat} (hv : pq_wy par wy n) (hn : n ≤ 8) : ∀ j, j < n → ∀ i, i < 32 → j < i → bt (wy j) i = false := by
  intro j
  induction j using Nat.strongRecOn with
  | _ j ih =>
    intro hj i hi hji
    rcases hv j hj with ⟨_, h⟩ | ⟨p, hp, _, h⟩
    · rw [h, pq_bit j (by omega) i hi]; simp; omega
    · rw [h, b_or, pq_bit j (by omega) i hi, ih p hp (by omega) i hi (by omega)]; simp; omega
theorem pm_m1_ne {p : Nat} (h : p < 32) : ¬ nI p = -1 := by
  have : ∀ p, p < 32 → ¬ nI p = -1 := by decide +kernel
  exact this p h
theorem pq_sh {par wy : Nat → Int32} {n : Nat} (hv : pq_wy par wy n) (hn : n ≤ 8) : ∀ k, k ≤ n → ∀ T, pm_sh par k T = T ||| pu_or wy T k
  | 0, _, T => by simp [pm_sh, pu_or]
  | k + 1, hk, T => by
    rw [pm_sh, pq_sh hv hn k (by omega)]
    apply b_ext
    intro i hi
    rw [b_or, b_or, pq_or _ _ _ k (by omega), pq_or _ _ _ (k + 1) (by omega), pq_in T (show k < 32 by omega)]
    simp only [pq_ex]
    by_cases q : bt T k = true
    · rcases hv k (by omega) with ⟨h1, h2⟩ | ⟨p, hp, h1, h2⟩
      · rw [if_neg (fun z => z.2 h1), h2, pq_bit k (by omega) i hi, q]
        by_cases e : i = k
        · subst e; rw [q]; simp
        · rw [decide_eq_false e]; simp
      · rw [if_pos ⟨q, by rw [h1]; exact pm_m1_ne (by omega)⟩, h1, b_or, pq_ex_ins _ _ _ k (by omega) hp, pq_bit p (by omega) i hi, h2, b_or, pq_bit k (by omega) i hi, q]
        by_cases e : i = k
        · subst e; rw [q]; simp
        · rw [decide_eq_false e]
          by_cases e2 : i = p
          · subst e2
            rw [pq_self hv hn (show i < n by omega)]
            simp
          · rw [decide_eq_false e2]
            cases bt T i <;> cases pq_ex wy T i k <;> cases bt (wy p) i <;> rfl
    · rw [if_neg (fun z => q z.1), ts_nt q]
      simp
/-- the shafts of a set, as the class and as the reference tell them -/
theorem pq_shaft {par wy : Nat → Int32} {n : Nat} (hv : pq_wy par wy n) (hn : n ≤ 8) {T : Int32} (hT : ∀ i, i < 32 → bt T i = true → i < n) : pm_sh par n T = pu_or wy T n := by
  rw [pq_sh hv hn n (Nat.le_refl n)]
  apply b_ext
  intro i hi
  rw [b_or, pq_or _ _ _ n (by omega)]
  by_cases q : bt T i = true
  · rw [pq_ex_in n (hT i hi q) q (pq_self hv hn (hT i hi q))]
    simp
  · rw [ts_nt q]; rfl
theorem pq_gos {W wy : Nat → Int32} {t T : Int32} : ∀ n, (∀ j, j < n → (pu_in T (nI j) = true ↔ (pu_in t (nI j) = true ∧ 0 < W j))) → pu_gos W wy t n = pu_or wy T n ∧ pu_gof W t n = pu_sum W T n
  | 0, _ => ⟨rfl, rfl⟩
  | n + 1, h => by
    obtain ⟨h1, h2⟩ := pq_gos (wy := wy) n (fun j hj => h j (by omega))
    simp only [pu_gos, pu_or, pu_gof, pu_sum, h1, h2]
    have e := h n (by omega)
    by_cases q : pu_in T (nI n) = true
    · rw [if_pos (e.mp q), if_pos (e.mp q), if_pos q, if_pos q]; exact ⟨rfl, rfl⟩
    · rw [if_neg (fun z => q (e.mpr z)), if_neg (fun z => q (e.mpr z)), if_neg q, if_neg q]; exact ⟨rfl, rfl⟩
theorem pq_gl (kind loss : Nat → Int32) {rn : Int32} (sh a0 : Int32) : ∀ n, pm_gl kind loss rn sh a0 n = a0 + pu_loss kind loss rn sh n
  | 0 => by simp [pm_gl, pu_loss]
  | n + 1 => by
    simp only [pm_gl, pu_loss, pq_gl kind loss sh a0 n]
    split
    · rw [Int32.add_assoc]
      congr 2
      split
      · rw [pm_add0]
      · rfl
    · rfl
theorem pq_inwork (W : Nat → Int32) (t : Int32) {n : Nat} (hn : n ≤ 8) : ∀ j, j < n → (pu_in (pu_work W t n) (nI j) = true ↔ (pu_in t (nI j) = true ∧ 0 < W j)) := by
  intro j hj
  rw [pq_in _ (by omega), pq_in _ (by omega), pq_work W t n (by omega) j (by omega)]
  simp [hj]
theorem pq_workn (W : Nat → Int32) (t : Int32) {n : Nat} (hn : n ≤ 8) : ∀ i, i < 32 → bt (pu_work W t n) i = true → i < n := by
  intro i hi h
  rw [pq_work W t n (by omega) i hi] at h
  simp at h
  exact h.1
theorem pq_workw (W : Nat → Int32) (t : Int32) {n : Nat} (hn : n ≤ 8) : pu_work W (pu_work W t n) n = pu_work W t n := by
  apply b_ext
  intro i hi
  rw [pq_work W _ n (by omega) i hi, pq_work W t n (by omega) i hi]
  cases decide (i < n) <;> cases bt t i <;> cases decide (0 < W i) <;> rfl
theorem pq_W {hs : Nat → Nat → Int32} (hto : ∀ j, ∃ a, a ≤ 9 ∧ hs 3 j = nI a) (hr br wk : Int32) : pm_W hs hr br wk = pu_W hs hr br wk := by
  funext j
  rw [pm_W]
  split
  · rfl
  · rename_i h
    obtain ⟨a, ha, e⟩ := hto j
    have ho : pu_open (hs 2) (hs 3) hr j = false := by
      simp only [pu_open, Bool.and_eq_false_iff, decide_eq_false_iff_not]
      right
      intro z
      rw [e] at z
      rw [Int32.lt_iff_toInt_lt] at h z
      rw [nI_toInt (by omega)] at z
      rw [show (9 : Int32).toInt = 9 from by decide] at h
      omega
    simp [pu_W, pu_want, ho]
theorem pq_G {hs : Nat → Nat → Int32} {wy : Nat → Int32} {n : Nat} (hn : n ≤ 8) (hv : pq_wy (hs 1) wy n) (hto : ∀ j, ∃ a, a ≤ 9 ∧ hs 3 j = nI a) {rn : Int32} (hrn : vx_b01 rn = rn) (hr br wk t : Int32) : pm_G hs rn hr br wk n t = pu_G hs wy rn hr br wk n t := by
  rw [pm_G, pu_G, pu_goes, pq_gl, pq_W hto, pq_shaft hv hn (pq_workn _ _ hn), hrn]
  obtain ⟨h1, h2⟩ := pq_gos (W := pu_W hs hr br wk) (wy := wy) (t := t) n (pq_inwork _ _ hn)
  rw [h1, h2]
theorem pq_Gw {hs : Nat → Nat → Int32} {wy : Nat → Int32} {n : Nat} (hn : n ≤ 8) (rn hr br wk t : Int32) : pu_G hs wy rn hr br wk n (pu_work (pu_W hs hr br wk) t n) = pu_G hs wy rn hr br wk n t := by
  obtain ⟨h1, h2⟩ := pq_gos (W := pu_W hs hr br wk) (wy := wy) (t := t) n (pq_inwork _ _ hn)
  obtain ⟨h3, h4⟩ := pq_gos (W := pu_W hs hr br wk) (wy := wy) (t := pu_work (pu_W hs hr br wk) t n) n (pq_inwork _ _ hn)
  rw [pq_workw _ _ hn] at h3 h4
  simp only [pu_G, pu_goes]
  rw [h1, h2, h3, h4]
/-! ===== who stops ===== -/
theorem pq_wk_le {G : Int32 → Int32} {kind : Nat → Int32} {hg : Int32} : ∀ k t, G t ≤ hg → pm_wk G kind hg k t = t
  | 0, _, _ => rfl
  | k + 1, t, h => by rw [pm_wk, if_neg (fun z => z.2.2 h)]; exact pq_wk_le k t h
theorem pq_minus (W : Nat → Int32) (t : Int32) {n k : Nat} (hn : n ≤ 8) (hk : k < n) : pu_work W (t &&& (pu_bit (nI k) ^^^ -1)) n = pu_work W t n &&& (pu_bit (nI k) ^^^ -1) := by
  apply b_ext
  intro i hi
  rw [pq_work W _ n (by omega) i hi, b_and, b_and, pq_work W t n (by omega) i hi]
  cases decide (i < n) <;> cases bt t i <;> cases decide (0 < W i) <;> cases bt (pu_bit (nI k) ^^^ -1) i <;> rfl
theorem pq_stop {G : Int32 → Int32} {W kind : Nat → Int32} {hg : Int32} {n : Nat} (hn : n ≤ 8) (hG : ∀ t, G (pu_work W t n) = G t) : ∀ k, k ≤ n → ∀ t, (∀ j, j < k → bt t j = true) → pm_wk G kind hg k (pu_work W t n) = pu_work W (pu_stop G W kind hg k t) n
  | 0, _, _, _ => rfl
  | k + 1, hk, t, ht => by
    rw [pm_wk, pu_stop, hG]
    by_cases q : G t ≤ hg
    · rw [if_neg (fun z => z.2.2 q), if_pos q]
      exact pq_wk_le k _ (by rw [hG]; exact q)
    · rw [if_neg q]
      have e : pu_in (pu_work W t n) (nI k) = true ↔ 0 < W k := by
        rw [pq_inwork W t hn k (by omega), pq_in t (by omega), ht k (by omega)]
        simp
      by_cases w : 0 < W k ∧ ¬ kind k = 1
      · rw [if_pos ⟨e.mpr w.1, w.2, q⟩, if_pos w, ← pq_minus W t hn (by omega)]
        refine pq_stop hn hG k (by omega) _ (fun j hj => ?_)
        rw [b_and, pq_not _ (by omega), pq_bit k (by omega) j (by omega), ht j (by omega), decide_eq_false (by omega)]
        rfl
      · rw [if_neg (fun z => w ⟨e.mp z.1, z.2.1⟩), if_neg w]
        exact pq_stop hn hG k (by omega) t (fun j hj => ht j (by omega))
theorem pq_set {hs : Nat → Nat → Int32} {wy : Nat → Int32} {n : Nat} (hn : n ≤ 8) (hv : pq_wy (hs 1) wy n) (hto : ∀ j, ∃ a, a ≤ 9 ∧ hs 3 j = nI a) {rn : Int32} (hrn : vx_b01 rn = rn) (hg hr br wk : Int32) : pm_set hs rn hg hr br wk n = pu_work (pu_W hs hr br wk) (pu_set hs wy rn hg hr br wk n) n := by
  have hGf : pm_G hs rn hr br wk n = pu_G hs wy rn hr br wk n := funext fun t => pq_G hn hv hto hrn hr br wk t
  rw [pm_set, pu_set, hGf, pq_W hto]
  exact pq_stop hn (fun t => pq_Gw hn rn hr br wk t) n (Nat.le_refl n) _ (fun j hj => by rw [pq_all n hn j (by omega)]; simp [hj])
theorem pq_dn {hs : Nat → Nat → Int32} {wy : Nat → Int32} {n : Nat} (hn : n ≤ 8) (hv : pq_wy (hs 1) wy n) (hto : ∀ j, ∃ a, a ≤ 9 ∧ hs 3 j = nI a) {rn : Int32} (hrn : vx_b01 rn = rn) (hg hr br wk : Int32) : pm_dn hs rn hg hr br wk n = pu_dn hs wy rn hg hr br wk n := by
  rw [pm_dn, pu_dn, pq_G hn hv hto hrn, pq_set hn hv hto hrn, pq_Gw hn]
theorem pq_feet {hs : Nat → Nat → Int32} {wy : Nat → Int32} {n : Nat} (hn : n ≤ 8) (hv : pq_wy (hs 1) wy n) (hto : ∀ j, ∃ a, a ≤ 9 ∧ hs 3 j = nI a) {rn : Int32} (hrn : vx_b01 rn = rn) (hg hr br wk : Int32) : pm_feetH hs rn hg hr br wk n = pu_feet hs wy rn hg hr br wk n := by
  rw [pm_feetH, pu_feet, pq_dn hn hv hto hrn, pq_G hn hv hto hrn, pq_set hn hv hto hrn, pq_Gw hn]
theorem pq_s2 {hs : Nat → Nat → Int32} {wy : Nat → Int32} {n : Nat} (hn : n ≤ 8) (hv : pq_wy (hs 1) wy n) (hto : ∀ j, ∃ a, a ≤ 9 ∧ hs 3 j = nI a) {rn : Int32} (hrn : vx_b01 rn = rn) (hg hr br wk : Int32) : pm_s2 hs rn hg hr br wk n = pu_work (pu_W hs hr br wk) (pu_set2 hs wy rn hg hr br wk n) n := by
  rw [pm_s2, pu_set2, pq_dn hn hv hto hrn, pq_set hn hv hto hrn]
  split
  · apply b_ext
    intro i hi
    rw [pq_work _ _ n (by omega) i hi, b_0]
    simp
  · rfl
theorem pq_tn {hs : Nat → Nat → Int32} {wy : Nat → Int32} {n : Nat} (hn : n ≤ 8) (hv : pq_wy (hs 1) wy n) (hto : ∀ j, ∃ a, a ≤ 9 ∧ hs 3 j = nI a) {rn : Int32} (hrn : vx_b01 rn = rn) (hg hr br wk : Int32) : pm_tn hs rn hg hr br wk n = pu_gof (pu_W hs hr br wk) (pu_set2 hs wy rn hg hr br wk n) n := by
  rw [pm_tn, pu_set2, pq_dn hn hv hto hrn, pq_set hn hv hto hrn, pq_W hto]
  obtain ⟨_, h2⟩ := pq_gos (W := pu_W hs hr br wk) (wy := wy) (t := pu_set2 hs wy rn hg hr br wk n) n (pq_inwork _ _ hn)
  rw [pu_set2] at h2
  rw [h2]
  split
  · rename_i hd
    rw [if_pos hd] at h2
    rw [← h2]
    have z : ∀ m, pu_gof (pu_W hs hr br wk) 0 m = 0 := by
      intro m
      induction m with
      | zero => rfl
      | succ m ih => rw [pu_gof, ih, if_neg (fun q => by have := q.1; simp [pu_in] at this)]
    rw [z]
  · rfl
theorem pq_took {hs : Nat → Nat → Int32} {wy : Nat → Int32} {n : Nat} (hn : n ≤ 8) (hv : pq_wy (hs 1) wy n) (hto : ∀ j, ∃ a, a ≤ 9 ∧ hs 3 j = nI a) {rn : Int32} (hrn : vx_b01 rn = rn) (hg hr br wk : Int32) (tk : Nat → Int32) : (if pm_dn hs rn hg hr br wk n = true then tk else pm_took tk (pm_W hs hr br wk) (pm_set hs rn hg hr br wk n) n) = pu_took tk (pu_W hs hr br wk) (pu_set2 hs wy rn hg hr br wk n) n := by
  rw [pq_dn hn hv hto hrn, pq_set hn hv hto hrn, pq_W hto, pu_set2]
  split
  · funext j
    simp only [pu_took]
    split
    · rw [if_neg (fun q => by have := q.1; simp [pu_in] at this)]
    · rfl
  · funext j
    simp only [pu_took, pm_took]
    split
    · rename_i hj
      have e := pq_inwork (pu_W hs hr br wk) (pu_set hs wy rn hg hr br wk n) hn j hj
      by_cases q : pu_in (pu_work (pu_W hs hr br wk) (pu_set hs wy rn hg hr br wk n) n) (nI j) = true
      · rw [if_pos q, if_pos (e.mp q)]
      · rw [if_neg q, if_neg (fun z => q (e.mpr z)), pm_add0]
    · rfl

