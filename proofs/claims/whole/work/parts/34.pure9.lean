/-! ===== how large: what houses want, what goes ===== -/
def pq_hv (hs : Nat → Nat → Int32) (n : Nat) : Prop := ∀ j, j < n → (∃ a, 1 ≤ a ∧ a ≤ 9 ∧ hs 4 j = nI a) ∧ (∃ a, a ≤ 9 ∧ hs 5 j = nI a)
theorem pq_w2 : ∀ a, a ≤ 9 → 1 ≤ a → (2 : Int32) * nI a = nI (2 * a) ∧ nI a - 1 = nI (a - 1) := by decide +kernel
theorem pq_Wn {hs : Nat → Nat → Int32} {n : Nat} (h : pq_hv hs n) (hr br wk : Int32) {j : Nat} (hj : j < n) : ∃ w, w ≤ 18 ∧ pu_W hs hr br wk j = nI w := by
  obtain ⟨⟨a, h1, h9, e⟩, _⟩ := h j hj
  obtain ⟨e2, e3⟩ := pq_w2 a h9 h1
  simp only [pu_W, pu_want]
  split
  · exact ⟨0, by omega, rfl⟩
  · split
    · exact ⟨2 * a, by omega, by rw [e, e2]⟩
    · split
      · exact ⟨a - 1, by omega, by rw [e, e3]⟩
      · exact ⟨a, by omega, e⟩
theorem pq_gofN {W : Nat → Int32} (t : Int32) : ∀ n, (∀ j, j < n → ∃ w, w ≤ 18 ∧ W j = nI w) → ∃ x, x ≤ 18 * n ∧ pu_gof W t n = nI x
  | 0, _ => ⟨0, by omega, rfl⟩
  | n + 1, h => by
    obtain ⟨x, hx, e⟩ := pq_gofN t n (fun j hj => h j (by omega))
    obtain ⟨w, hw, e2⟩ := h n (by omega)
    simp only [pu_gof]
    split
    · exact ⟨x + w, by omega, by rw [e, e2, nI_add]⟩
    · exact ⟨x, by omega, e⟩
theorem pq_lossN {kind loss : Nat → Int32} (rn s : Int32) : ∀ n, (∀ j, j < n → ∃ w, w ≤ 9 ∧ loss j = nI w) → ∃ x, x ≤ 10 * n ∧ pu_loss kind loss rn s n = nI x
  | 0, _ => ⟨0, by omega, rfl⟩
  | n + 1, h => by
    obtain ⟨x, hx, e⟩ := pq_lossN rn s n (fun j hj => h j (by omega))
    obtain ⟨w, hw, e2⟩ := h n (by omega)
    simp only [pu_loss]
    split
    · split
      · exact ⟨x + w, by omega, by rw [e, e2, nI_add]⟩
      · exact ⟨x + (w + 1), by omega, by rw [e, e2, nI_1, nI_add]⟩
    · exact ⟨x, by omega, e⟩
theorem pq_GN {hs : Nat → Nat → Int32} {n : Nat} (hn : n ≤ 8) (h : pq_hv hs n) (wy : Nat → Int32) (rn hr br wk t : Int32) : ∃ x y, x ≤ 144 ∧ y ≤ 80 ∧ pu_gof (pu_W hs hr br wk) t n = nI x ∧ pu_G hs wy rn hr br wk n t = nI (x + y) := by
  obtain ⟨x, hx, e⟩ := pq_gofN t n (fun j hj => pq_Wn h hr br wk hj)
  obtain ⟨y, hy, e2⟩ := pq_lossN (kind := hs 0) (vx_b01 rn) (pu_gos (pu_W hs hr br wk) wy t n) n (fun j hj => (h j hj).2)
  exact ⟨x, y, by omega, by omega, e, by rw [pu_G, pu_goes, e, e2, nI_add]⟩
theorem pq_gof0 (W : Nat → Int32) : ∀ n, pu_gof W 0 n = 0
  | 0 => rfl
  | n + 1 => by rw [pu_gof, pq_gof0 W n, if_neg (fun q => by have := q.1; simp [pu_in] at this)]
theorem pq_ft {hs : Nat → Nat → Int32} {n : Nat} (hn : n ≤ 8) (h : pq_hv hs n) (wy : Nat → Int32) (rn hr br wk : Int32) {b : Nat} (hb : b ≤ 1000) : ∃ x f, pu_gof (pu_W hs hr br wk) (pu_set2 hs wy rn (nI b) hr br wk n) n = nI x ∧ pu_feet hs wy rn (nI b) hr br wk n = nI f ∧ x ≤ f ∧ f ≤ b := by
  rw [pu_set2, pu_feet]
  by_cases hd : pu_dn hs wy rn (nI b) hr br wk n = true
  · rw [if_pos hd, if_pos hd, pq_gof0]
    exact ⟨0, b, rfl, rfl, by omega, by omega⟩
  · rw [if_neg hd, if_neg hd]
    obtain ⟨x, y, hx, hy, e1, e2⟩ := pq_GN hn h wy rn hr br wk (pu_set hs wy rn (nI b) hr br wk n)
    refine ⟨x, x + y, e1, e2, by omega, ?_⟩
    rw [pu_dn, e2] at hd
    simp at hd
    exact (nI_leI (by omega) (by omega)).mp hd
/-! ===== what would be taken ===== -/
theorem pq_ah0 (hs : Nat → Nat → Int32) (wy : Nat → Int32) (rn br : Int32) (n k : Nat) (hr wk dn tb : Int32) : pu_ah hs wy rn br n k 0 hr wk dn tb = tb := by
  cases k with
  | zero => rfl
  | succ k => rw [pu_ah, if_neg (fun q => absurd q.2 (by decide))]
theorem pq_ah {hs : Nat → Nat → Int32} {wy : Nat → Int32} {n : Nat} (hn : n ≤ 8) (hv : pq_wy (hs 1) wy n) (hto : ∀ j, ∃ a, a ≤ 9 ∧ hs 3 j = nI a) (hh : pq_hv hs n) {rn : Int32} (hrn : vx_b01 rn = rn) (br : Int32) : ∀ k b, b ≤ 1000 → ∀ hr wk dn tb, pm_ah hs rn br n k (nI b) hr wk dn tb = pu_ah hs wy rn br n k (nI b) hr wk dn tb
  | 0, _, _, _, _, _, _ => rfl
  | k + 1, b, hb, hr, wk, dn, tb => by
    obtain ⟨x, f, e1, e2, h1, h2⟩ := pq_ft hn hh wy rn hr br wk hb
    rw [pm_ah, pu_ah]
    by_cases hd : dn = 0
    · rw [if_pos hd, pq_feet hn hv hto hrn, pq_s2 hn hv hto hrn, pq_dn hn hv hto hrn, pq_tn hn hv hto hrn, e1, e2, pk_sub h2]
      rw [pq_ah hn hv hto hh hrn br k (b - f) (by omega)]
      rcases Nat.eq_zero_or_pos b with q | q
      · subst q
        obtain rfl : f = 0 := by omega
        obtain rfl : x = 0 := by omega
        rw [if_neg (show ¬ (dn = 0 ∧ (0 : Int32) < nI 0) from fun z => absurd z.2 (by decide))]
        rw [show nI (0 - 0) = 0 from rfl, pq_ah0]
        exact pm_add0 tb
      · rw [if_pos (show dn = 0 ∧ 0 < nI b from ⟨hd, nI_lt (a := 0) q (by omega)⟩)]
    · rw [if_neg hd, if_neg (fun q => hd q.1)]
theorem pq_TA {hs : Nat → Nat → Int32} {wy : Nat → Int32} {n : Nat} (hn : n ≤ 8) (hv : pq_wy (hs 1) wy n) (hto : ∀ j, ∃ a, a ≤ 9 ∧ hs 3 j = nI a) (hh : pq_hv hs n) {rn : Int32} (hrn : vx_b01 rn = rn) (ho : Nat) {b : Nat} (hb : b ≤ 1000) (wk dn tb br : Int32) : pm_TA hs rn n ho (nI b) wk dn tb br = pu_TA hs wy rn n ho (nI b) wk dn tb br := by
  rw [pm_TA, pu_TA, pq_ah hn hv hto hh hrn br _ b hb]
theorem pq_bc : ∀ x, x < 256 → pu_bc (nI x) = pm_size (nI x) 8 := by decide +kernel
theorem pq_best {T T2 : Int32 → Int32} (h : ∀ t, T t = T2 t) : ∀ i, i < 256 → pm_best T2 i = pu_best T i ∧ (pu_best T i).2 = T (pu_best T i).1 ∧ ∃ j, j < 256 ∧ (pu_best T i).1 = nI j
  | 0, _ => ⟨by rw [pm_best, pu_best, h], rfl, 0, by omega, rfl⟩
  | i + 1, hi => by
    obtain ⟨h1, h2, j, hj, h3⟩ := pq_best h i (by omega)
    have e : pm_btr T2 (pu_best T i).1 (pu_best T i).2 (i + 1) = pu_btr T (pu_best T i).1 (pu_best T i).2 (i + 1) := by
      rw [pm_btr, pu_btr, h, pq_bc (i + 1) hi, h3, pq_bc j hj]
    rw [pm_best, pu_best, h1, e]
    split
    · exact ⟨by rw [h], rfl, i + 1, hi, rfl⟩
    · exact ⟨rfl, h2, j, hj, h3⟩
/-! ===== a day by a seed ===== -/
theorem pq_seed {k : Nat} (hk : k < 2 ^ 31) : ∃ j, j < 2 ^ 31 ∧ pu_seed (nI k) = nI j ∧ pm_seed (lN k) = lN j := by
  refine ⟨(1103515245 * k + 12345) % 2147483648, Nat.mod_lt _ (by decide), ?_, ?_⟩
  · have hN : 1103515245 * k + 12345 < 2 ^ 63 := by omega
    have e : (1103515245 : Int64) * (nI k).toInt64 + 12345 = lN (1103515245 * k + 12345) := by
      rw [nI_l hk, show (1103515245 : Int64) = lN 1103515245 from rfl, show (12345 : Int64) = lN 12345 from rfl]
      show Int64.ofNat _ * Int64.ofNat _ + Int64.ofNat _ = Int64.ofNat _
      rw [← Int64.ofNat_mul, ← Int64.ofNat_add]
    rw [pu_seed, e, show (2147483648 : Int64) = lN 2147483648 from rfl, pk_lRem hN (by decide) (by decide)]
    have hm : (1103515245 * k + 12345) % 2147483648 < 2 ^ 31 := Nat.mod_lt _ (by decide)
    rw [← nI_l hm]
    simp
  · have e : (1103515245 : Int64) * lN k + 12345 = lN (1103515245 * k + 12345) := by
      rw [show (1103515245 : Int64) = lN 1103515245 from rfl, show (12345 : Int64) = lN 12345 from rfl]
      show Int64.ofNat _ * Int64.ofNat _ + Int64.ofNat _ = Int64.ofNat _
      rw [← Int64.ofNat_mul, ← Int64.ofNat_add]
    rw [pm_seed, e, show (2147483647 : Int64) = lN (2 ^ 31 - 1) from rfl, fb_maskL]
theorem pq_rn {k : Nat} (hk : k < 2 ^ 31) : pm_rn (lN k) = pu_rn (nI k) := by
  have e1 : pm_drw (lN k) = nI (k / 65536 % 3) := by
    rw [pm_drw, show (3 : Int32).toInt64 = lN 3 from rfl, show (65536 : Int64) = lN 65536 from rfl, pk_lDiv (by omega) (by decide) (by decide), pk_lRem (by omega) (by decide) (by decide)]
    have hm : k / 65536 % 3 < 2 ^ 31 := by omega
    rw [← nI_l hm]
    simp
  have e2 : nI k / 65536 - nI k / 65536 / 3 * 3 = nI (k / 65536 % 3) := by
    rw [show (65536 : Int32) = nI 65536 from rfl, show (3 : Int32) = nI 3 from rfl, pk_div hk (by decide) (by decide), pk_rem (by omega) (by decide) (by decide)]
  rw [pm_rn, pu_rn, e1, e2]
theorem pq_rnb (x : Int32) : vx_b01 (pu_rn x) = pu_rn x := by
  rw [pu_rn]
  split <;> rfl
theorem pq_rs {hs : Nat → Nat → Int32} {wy : Nat → Int32} {n : Nat} (hn : n ≤ 8) (hv : pq_wy (hs 1) wy n) (hto : ∀ j, ∃ a, a ≤ 9 ∧ hs 3 j = nI a) (br : Int32) : ∀ k q, q < 2 ^ 31 → ∀ hg hr wk dn tb di, (dn = 0 → di = -1) → ∃ j, j < 2 ^ 31 ∧ pm_rs hs br n k (lN q) hg hr wk dn tb di = (lN j, (pu_rs hs wy br n k (nI q) hg hr wk dn tb di).2) ∧ (pu_rs hs wy br n k (nI q) hg hr wk dn tb di).1 = nI j
  | 0, q, hq, hg, hr, wk, dn, tb, di, _ => ⟨q, hq, rfl, rfl⟩
  | k + 1, q, hq, hg, hr, wk, dn, tb, di, hdi => by
    rw [pm_rs, pu_rs]
    by_cases hd : dn = 0
    · obtain ⟨j, hj, e1, e2⟩ := pq_seed hq
      rw [if_pos hd, if_pos hd, e1, e2, pq_rn hj, pq_feet hn hv hto (pq_rnb _), pq_s2 hn hv hto (pq_rnb _), pq_dn hn hv hto (pq_rnb _), pq_tn hn hv hto (pq_rnb _), hdi hd]
      refine pq_rs hn hv hto br k j hj _ _ _ _ _ _ (fun z => ?_)
      split
      · rename_i w
        rw [if_pos w] at z
        exact absurd z (by decide)
      · rfl
    · rw [if_neg hd, if_neg hd]
      exact ⟨q, hq, rfl, rfl⟩
/-! ===== how to look ===== -/
theorem pq_size1 (x : Int32) (k : Nat) (hk : k < 32) : (x >>> (nI k &&& 31)) &&& 1 = if bt x k = true then 1 else 0 := by
  rw [pm_in1, pq_in x hk]
  cases bt x k <;> rfl
theorem pq_split (x s : Int32) : ∀ k, k ≤ 32 → pm_size (x &&& s) k + pm_size (x &&& (s ^^^ -1)) k = pm_size x k
  | 0, _ => rfl
  | k + 1, hk => by
    have ih := pq_split x s k (by omega)
    simp only [pm_size]
    rw [pq_size1 _ k (by omega), pq_size1 _ k (by omega), pq_size1 _ k (by omega), ← ih, b_and, b_and, pq_not s (by omega)]
    have a1 : ∀ a b c d : Int32, a + c + (b + d) = a + b + (c + d) := fun a b c d => by rw [Int32.add_assoc, Int32.add_assoc, ← Int32.add_assoc c b d, Int32.add_comm c b, Int32.add_assoc b c d]
    rw [a1]
    congr 1
    cases bt x k <;> cases bt s k <;> decide
theorem pq_nat (t : Int32) (h : ∀ i, i < 32 → bt t i = true → i < 8) : ∃ x, x < 256 ∧ t = nI x := by
  refine ⟨t.toBitVec.toNat % 2 ^ 8, Nat.mod_lt _ (by decide), ?_⟩
  rw [← pk_and t (m := 255) 8 (by decide)]
  apply b_ext
  intro i hi
  rw [b_and, b_255]
  by_cases q : bt t i = true
  · rw [q, decide_eq_true (h i hi q)]; rfl
  · rw [ts_nt q]; rfl
theorem pq_left {su th : Int32} (h : ∀ i, i < 32 → bt su i = true → i < 8) : pu_left su th = pm_lf su th := by
  have e1 : pu_bc (su &&& th) = pm_size (su &&& th) 8 := by
    obtain ⟨x, hx, e⟩ := pq_nat (su &&& th) (fun i hi q => by rw [b_and] at q; simp at q; exact h i hi q.1)
    rw [e, pq_bc x hx]
  have e2 : pu_bc (su &&& (th ^^^ -1)) = pm_size (su &&& (th ^^^ -1)) 8 := by
    obtain ⟨x, hx, e⟩ := pq_nat (su &&& (th ^^^ -1)) (fun i hi q => by rw [b_and] at q; simp at q; exact h i hi q.1)
    rw [e, pq_bc x hx]
  have e3 : pm_size su 8 - pm_size (su &&& th) 8 = pm_size (su &&& (th ^^^ -1)) 8 := by
    rw [← pq_split su th 8 (by decide), Int32.add_comm, Int32.add_sub_cancel]
  rw [pu_left, pm_lf, e1, e2, e3]
  generalize pm_size (su &&& th) 8 = a
  generalize pm_size (su &&& (th ^^^ -1)) 8 = b
  by_cases q : a < b
  · rw [if_pos q, if_pos (fa_of_lt q).1]
  · rw [if_neg q]
    by_cases w : a ≤ b
    · rw [if_pos w]
      rw [Int32.lt_iff_toInt_lt] at q
      rw [Int32.le_iff_toInt_le] at w
      exact Int32.toInt_inj.mp (by omega)
    · rw [if_neg w]
theorem pq_bits {x n : Nat} (hn : n ≤ 8) (hx : x < 2 ^ n) : ∀ i, i < 32 → bt (nI x) i = true → i < n := by
  intro i hi h
  rcases Nat.lt_or_ge i n with q | q
  · exact q
  · exfalso
    have e : bt (nI x) i = x.testBit i := by
      show (BitVec.ofNat 32 x).getLsbD i = _
      rw [BitVec.getLsbD_ofNat]
      simp [hi]
    rw [e, Nat.testBit_lt_two_pow (Nat.lt_of_lt_of_le hx (Nat.pow_le_pow_right (by decide) q))] at h
    cases h
theorem pq_look {par wy : Nat → Int32} {n : Nat} (hn : n ≤ 8) (hv : pq_wy par wy n) {su : Int32} (h : ∀ i, i < 32 → bt su i = true → i < 8) : ∀ i, i ≤ 2 ^ n - 1 → pm_look su par n i = pu_look su wy n i
  | 0, _ => rfl
  | i + 1, hi => by
    have h2 := pu_2n n hn
    rw [pm_look, pu_look, pq_look hn hv h i (by omega), pq_shaft hv hn (pq_bits hn (show i + 1 < 2 ^ n by omega)), pq_left h]
theorem pq_leaks {L : Nat → Int32} : ∀ n, n ≤ 8 → ∀ i, i < 32 → bt (pm_leaks L n) i = true → i < n
  | 0, _, i, _, h => by rw [pm_leaks, b_0] at h; cases h
  | n + 1, hn, i, hi, h => by
    rw [pm_leaks] at h
    split at h
    · have := pq_leaks n (by omega) i hi h; omega
    · rw [b_or, pq_bit n (by omega) i hi, Bool.or_eq_true, decide_eq_true_eq] at h
      rcases h with h | h
      · have := pq_leaks n (by omega) i hi h; omega
      · omega
/-! ===== leaks by readings ===== -/
def iv_R (hs : Nat → Nat → Int32) (wy : Nat → Int32) (nn m : Nat) (th ex se fe : Nat → Int32) : Prop := m ≤ 8 ∧ ∀ r, r < m → ∃ t : Nat, t < 2 ^ nn ∧ se r = nI t ∧ th r = pu_or wy (nI t) nn ∧ ex r = fe r - pu_sum (hs 4) (nI t) nn - pu_sum (hs 5) (pu_or wy (nI t) nn) nn
theorem pq_lsum (loss : Nat → Int32) (s : Int32) : ∀ n, pu_loss (fun _ => 0) loss 0 s n = pu_sum loss s n
  | 0 => rfl
  | n + 1 => by
    simp only [pu_loss, pu_sum, pq_lsum loss s n]
    by_cases q : pu_in s (nI n) = true
    · rw [if_pos ⟨q, by decide⟩, if_pos q]; rfl
    · rw [if_neg (fun z => q z.1), if_neg q]
theorem pq_ring (a f x y : Int32) : (a = f - x - y) ↔ (x + y + a = f) := by
  constructor
  · intro h
    rw [h, Int32.sub_eq_add_neg, Int32.sub_eq_add_neg, Int32.add_comm (f + -x) (-y), ← Int32.add_assoc, Int32.add_assoc x y (-y), Int32.add_right_neg, Int32.add_comm f (-x), Int32.add_zero, ← Int32.add_assoc, Int32.add_right_neg, Int32.zero_add]
  · intro h
    rw [← h, Int32.sub_eq_add_neg, Int32.sub_eq_add_neg, Int32.add_comm (x + y + a) (-x), Int32.add_assoc x y a, ← Int32.add_assoc (-x) x, Int32.add_left_neg, Int32.zero_add, Int32.add_comm y a, Int32.add_assoc, Int32.add_right_neg, Int32.add_zero]
theorem pq_gives {hs : Nat → Nat → Int32} {wy : Nat → Int32} {n : Nat} (hn : n ≤ 8) (hv : pq_wy (hs 1) wy n) {th ex se fe : Nat → Int32} (sh e : Int32) : ∀ m, iv_R hs wy n m th ex se fe → pm_gives hs n se fe sh e m = pu_gives th ex sh e m
  | 0, _ => rfl
  | m + 1, h => by
    have ih := pq_gives hn hv sh e m ⟨by have := h.1; omega, fun r hr => h.2 r (by omega)⟩
    obtain ⟨t, ht, e1, e2, e3⟩ := h.2 m (by omega)
    rw [pm_gives, pu_gives, ih, pm_feet, pq_gl, e1, pq_shaft hv hn (pq_bits hn ht), ← e2, pq_lsum, pu_shown]
    congr 1
    rw [decide_eq_decide, e3, ← e2]
    exact (pq_ring _ _ _ _).symm
theorem pq_leak {hs : Nat → Nat → Int32} {wy : Nat → Int32} {n m : Nat} (hn : n ≤ 8) (hv : pq_wy (hs 1) wy n) {th ex se fe : Nat → Int32} (h : iv_R hs wy n m th ex se fe) (sh : Int32) : ∀ k, pm_leak hs n se fe m sh k = pu_leak th ex sh m k
  | 0 => rfl
  | k + 1 => by rw [pm_leak, pu_leak, pq_gives hn hv sh _ m h, pq_leak hn hv h sh k]
theorem pq_leakss {hs : Nat → Nat → Int32} {wy : Nat → Int32} {nn m : Nat} (hn : nn ≤ 8) (hv : pq_wy (hs 1) wy nn) {th ex se fe : Nat → Int32} (h : iv_R hs wy nn m th ex se fe) : ∀ n, pm_leaks (fun i => pm_leak hs nn se fe m (nI i) 9) n = pu_leaks th ex m n
  | 0 => rfl
  | n + 1 => by rw [pm_leaks, pu_leaks, pq_leak hn hv h, pq_leakss hn hv h n]
