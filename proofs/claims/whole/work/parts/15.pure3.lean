/-! ===== the page ===== -/
def pu_code (w : Int64) (p : Int32) : Int32 := (w.toUInt64 >>> (((8 : Int32) * p).toInt64.toUInt64 &&& Int64.toUInt64 63)).toInt64.toInt32 &&& 255
/-- of the codes c: how many of the first i are letters; has a 0 been; are all as told -/
def pu_many (c : Nat → Int32) : Nat → Nat
  | 0 => 0
  | i + 1 => if c i = 0 then pu_many c i else pu_many c i + 1
def pu_end (c : Nat → Int32) : Nat → Bool
  | 0 => false
  | i + 1 => if c i = 0 then true else pu_end c i
def pu_okl (c : Nat → Int32) : Nat → Bool
  | 0 => true
  | i + 1 => pu_okl c i && !(decide (126 < c i) || (pu_end c i && decide (¬ c i = 0)))
theorem pu_many_le (c : Nat → Int32) : ∀ i, pu_many c i ≤ i
  | 0 => Nat.le_refl 0
  | i + 1 => by
    have := pu_many_le c i
    simp only [pu_many]
    split <;> omega
theorem pu_many_z {c : Nat → Int32} {i : Nat} (h : c i = 0) : pu_many c (i + 1) = pu_many c i := by simp only [pu_many, h, if_true]
theorem pu_many_n {c : Nat → Int32} {i : Nat} (h : ¬ c i = 0) : pu_many c (i + 1) = pu_many c i + 1 := by simp only [pu_many, h, if_false]
theorem pu_end_z {c : Nat → Int32} {i : Nat} (h : c i = 0) : pu_end c (i + 1) = true := by simp only [pu_end, h, if_true]
theorem pu_end_n {c : Nat → Int32} {i : Nat} (h : ¬ c i = 0) : pu_end c (i + 1) = pu_end c i := by simp only [pu_end, h, if_false]
theorem pu_okl_no {c : Nat → Int32} {i : Nat} (h : pu_okl c (i + 1) = false) : ∀ n, i < n → pu_okl c n = false
  | 0, hn => absurd hn (Nat.not_lt_zero i)
  | n + 1, hn => by
    rcases Nat.lt_or_ge i n with q | q
    · simp [pu_okl, pu_okl_no h n q]
    · have e : i = n := by omega
      subst e
      exact h
def pu_app (f c : Nat → Int32) (z k : Nat) : Nat → Int32 := fun j => if z ≤ j ∧ j < z + k then c (j - z) else f j
theorem pu_app_0 (f c : Nat → Int32) (z : Nat) : pu_app f c z 0 = f := by
  funext j
  simp only [pu_app]
  rw [if_neg (by omega)]
theorem pu_app_s (f c : Nat → Int32) (z k : Nat) : upd (pu_app f c z k) (z + k) (c k) = pu_app f c z (k + 1) := by
  funext j
  simp only [upd, pu_app]
  by_cases h : j = z + k
  · subst h
    rw [if_pos rfl, if_pos (by omega), show z + k - z = k by omega]
  · rw [if_neg h]
    by_cases h2 : z ≤ j ∧ j < z + k
    · rw [if_pos h2, if_pos (by omega)]
    · rw [if_neg h2, if_neg (by omega)]
/-- the first place below s where p fails; s, if there is none -/
def pu_fst (p : Nat → Bool) : Nat → Nat
  | 0 => 0
  | s + 1 => if pu_fst p s < s then pu_fst p s else if p s = true then s + 1 else s
theorem pu_fst_all {p : Nat → Bool} : ∀ s, (∀ j, j < s → p j = true) → pu_fst p s = s
  | 0, _ => rfl
  | s + 1, h => by
    have e := pu_fst_all s (fun j hj => h j (by omega))
    simp only [pu_fst, e, Nat.lt_irrefl, if_false, h s (by omega), if_true]
theorem pu_fst_at {p : Nat → Bool} {i : Nat} (h : ∀ j, j < i → p j = true) (hi : p i = false) : ∀ s, i < s → pu_fst p s = i
  | 0, hs => absurd hs (Nat.not_lt_zero i)
  | s + 1, hs => by
    rcases Nat.lt_or_ge i s with q | q
    · simp only [pu_fst, pu_fst_at h hi s q, q, if_true]
    · have e : i = s := by omega
      subst e
      simp [pu_fst, pu_fst_all i h, hi]
def pu_dig (c lo hi : Int32) : Bool := decide (48 + lo ≤ c) && decide (c ≤ 48 + hi)
def pu_fits (cd : Nat → Int32) (n : Int32) (i : Nat) : Bool :=
  if i = 0 then decide (0 ≤ pu_kind (cd 0))
  else if i = 1 then decide (cd 1 = 45) || pu_dig (cd 1) 0 (n - 1)
  else if i = 2 then pu_dig (cd 2) 0 8
  else if i = 3 then pu_dig (cd 3) (cd 2 - 48 + 1) 9
  else if i = 4 then pu_dig (cd 4) 1 9
  else if i = 5 then pu_dig (cd 5) 0 9
  else false
/-! ===== is it a house's number; which number is asked ===== -/
def pu_hq (h x : Int32) : Bool := decide (0 ≤ h) && decide (h < x)
theorem pu_hq_k {h x : Int32} {n : Nat} (hx : x = nI n) (hn : n ≤ 1000) (q : pu_hq h x = true) : ∃ k : Nat, k < n ∧ h = nI k := by
  simp only [pu_hq, Bool.and_eq_true, decide_eq_true_eq] at q
  obtain ⟨j, hj, rfl⟩ := nI_of (x := h) (by intro z; exact absurd q.1 (pu_lt z))
  refine ⟨j, ?_, rfl⟩
  rw [hx] at q
  exact (nI_ltI hj (by omega)).mp q.2
theorem pu_sw (x : Int32) (m : Nat) (hm : m ≤ 1000) : (∃ k : Nat, k < m ∧ x = nI k) ∨ (x.toInt < 0 ∨ (m : Int) - 1 < x.toInt) := by
  rcases pk_ix x (n := m) (by omega) with h | h | ⟨j, h1, h2⟩
  · right; left
    rw [Int32.lt_iff_toInt_lt, Int32.toInt_zero] at h
    exact h
  · right; right
    rw [Int32.le_iff_toInt_le, nI_toInt (by omega)] at h
    omega
  · exact Or.inl ⟨j, h1, h2⟩
/-! ===== answers ===== -/
def aw_about (n : Int32) (hs : Nat → Nat → Int32) (tk ow : Nat → Int32) (br h w : Int32) : Int32 :=
  if pu_hq h n = false then -101
  else if w = nI 0 then hs 0 h.toNatClampNeg else if w = nI 1 then hs 1 h.toNatClampNeg else if w = nI 2 then hs 2 h.toNatClampNeg
  else if w = nI 3 then hs 3 h.toNatClampNeg else if w = nI 4 then hs 4 h.toNatClampNeg else if w = nI 5 then hs 5 h.toNatClampNeg
  else if w = nI 6 then tk h.toNatClampNeg else if w = nI 7 then ow h.toNatClampNeg
  else if w = nI 8 then vx_i (pu_in br h) else -102
def aw_as (n : Int32) (kind : Nat → Int32) (h k : Int32) : Int32 :=
  if pu_hq h n = false then -101 else if 0 ≤ k ∧ k < nI 5 then (if pu_isA kind h.toNatClampNeg k = true then h else -1) else -102
def aw_lenB (v hr : Int32) : Bool := decide (1 ≤ v) && (decide (v ≤ 99) && decide (¬ 0 < hr))
def aw_len (v hr ln : Int32) : Int32 := if 1 ≤ v ∧ v ≤ 99 then (if 0 < hr then -103 else ln) else -102
def aw_brk (br h b : Int32) : Int32 := if b = 0 then br &&& (pu_bit h ^^^ -1) else br ||| pu_bit h
def aw_cnt (n ln hg hr tb lo dn rn rd pg w : Int32) : Int32 :=
  if w = nI 0 then n else if w = nI 1 then ln else if w = nI 2 then hg else if w = nI 3 then hr else if w = nI 4 then tb else if w = nI 5 then lo
  else if w = nI 6 then vx_b01 dn else if w = nI 7 then vx_b01 rn else if w = nI 8 then rd else if w = nI 9 then pg else -102
theorem aw_ne {a b : Nat} (ha : a ≤ 1000) (hb : b ≤ 1000) (h : a ≠ b) : ¬ nI a = nI b := fun q => h ((nI_eq (by omega) (by omega)).mp q)
theorem pu_fst_le (p : Nat → Bool) : ∀ s, pu_fst p s ≤ s
  | 0 => Nat.le_refl 0
  | s + 1 => by
    have := pu_fst_le p s
    simp only [pu_fst]
    split
    · omega
    · split <;> omega
theorem vx_u_if (S : vx_St) (c k i : Nat) (x : Int32) : (vx_u S c k x).1 i = if i = c then upd (S.1 c) k x else S.1 i := by
  by_cases h : i = c
  · subst h; rw [if_pos rfl, vx_u_row]
  · rw [if_neg h, vx_u_ne S k x h]
def pu_par (c : Int32) : Int32 := if c = 45 then -1 else c - 48
/-- the way of a new house under the number n -/
def pu_newway (wy : Nat → Int32) (par : Int32) (n : Nat) : Int32 := pu_bit (nI n) ||| (if pu_hq par (nI n) = true then wy par.toNatClampNeg else 0)
def aw_hB (cd : Nat → Int32) (z : Nat) (x hr : Int32) (n : Nat) : Bool := (decide (z = 6) && decide (pu_fst (pu_fits cd x) z = z)) && (decide (¬ 0 < hr) && decide (n < 8))
def aw_hou (cd : Nat → Int32) (z : Nat) (x hr : Int32) (n : Nat) : Int32 := if (decide (z = 6) && decide (pu_fst (pu_fits cd x) z = z)) = true ∧ ¬ 0 < hr then (if n < 8 then nI n else -104) else -103
def aw_letR (c : Nat → Int32) (z : Nat) : Int32 := if pu_okl c 8 = true then (if z + pu_many c 8 ≤ 12 then nI (z + pu_many c 8) else -104) else -102
def aw_letK (c : Nat → Int32) (z : Nat) : Nat := if pu_okl c 8 = true ∧ z + pu_many c 8 ≤ 12 then pu_many c 8 else 0
def aw_want (n : Int32) (hs : Nat → Nat → Int32) (hr br wk h : Int32) : Int32 := if pu_hq h n = true then pu_W hs hr br wk h.toNatClampNeg else -101
def aw_bits (t n : Int32) : Bool := decide (0 ≤ t) && decide (t ≤ pu_all n)
def aw_goB (hr dn : Int32) : Bool := decide (hr < 9) && decide (dn = 0)
def pu_leaks (th ex : Nat → Int32) (m : Nat) : Nat → Int32
  | 0 => 0
  | n + 1 => if pu_leak th ex (nI n) m 9 = -1 then pu_leaks th ex m n else pu_leaks th ex m n ||| pu_bit (nI n)
def aw_rdB (t f n : Int32) : Bool := decide (¬ t = 0) && (aw_bits t n && (decide (1 ≤ f) && decide (f ≤ 199)))
def aw_read (t f n : Int32) (m : Nat) : Int32 := if aw_rdB t f n = true then (if m < 8 then nI (m + 1) else -104) else -102
def pu_seed (x : Int32) : Int32 := (((1103515245 : Int64) * x.toInt64 + 12345) - ((1103515245 : Int64) * x.toInt64 + 12345) / 2147483648 * 2147483648).toInt32
