/-! ===== the reference's own ways ===== -/
def pu_hm (S : vx_St) (w : Nat) : Nat → Int32 := if w < 6 then S.1 (36 + w) else fun _ => 0
theorem pm_and1 (y : Int32) : y &&& 1 = 0 ∨ y &&& 1 = 1 := by
  have h := pk_and y (m := 1) 1 (by decide)
  rw [h]
  rcases (show y.toBitVec.toNat % 2 ^ 1 = 0 ∨ y.toBitVec.toNat % 2 ^ 1 = 1 by omega) with q | q <;> rw [q]
  · exact Or.inl rfl
  · exact Or.inr rfl
theorem pm_in1 {x k : Int32} : (x >>> (k &&& 31)) &&& 1 = vx_i (pu_in x k) := by
  rcases pm_and1 (x >>> (k &&& 31)) with h | h
  · rw [h]; simp [vx_i, pu_in, h]
  · rw [h]; simp only [vx_i, pu_in, h]; decide
theorem pm_in {x k : Int32} : pu_in x k = decide ((x >>> (k &&& 31)) &&& 1 = 1) := by
  rcases pm_and1 (x >>> (k &&& 31)) with h | h
  · simp only [pu_in, h]; decide
  · simp only [pu_in, h]; decide
theorem pm_or0 (x : Int32) : x ||| 0 = x := by simp
theorem pm_add0 (x : Int32) : x + 0 = x := by simp
theorem pm_sub0 (x : Int32) : x - 0 = x := by simp
theorem pm_hq {h x : Int32} {n : Nat} (hx : x = nI n) (hn : n ≤ 8) : (decide (0 ≤ h) && decide (h ≤ x - 1)) = pu_hq h x := by
  have e : ∀ n, n ≤ 8 → (nI n - 1).toInt = (n : Int) - 1 := by decide +kernel
  simp only [pu_hq]
  congr 1
  rw [decide_eq_decide, hx, Int32.le_iff_toInt_le, Int32.lt_iff_toInt_lt, e n hn, nI_toInt (by omega)]
  omega
def pm_size (x : Int32) : Nat → Int32
  | 0 => 0
  | k + 1 => pm_size x k + ((x >>> (nI k &&& 31)) &&& 1)
def pm_kind (c : Int32) : Int32 := if c = 104 then 0 else if c = 99 then 1 else if c = 117 then 2 else if c = 115 then 3 else if c = 120 then 4 else -1
def pm_wi (v lo hi : Int32) : Bool := decide (lo ≤ v) && decide (v ≤ hi)
def pm_may (pg : Nat → Int32) (x : Int32) (i : Nat) (c : Int32) : Bool :=
  if i = 0 then decide (¬ pm_kind c = -1)
  else if i = 1 then decide (c = 45) || pm_wi c 48 (47 + x)
  else if i = 2 then pm_wi c 48 56
  else if i = 3 then pm_wi c 49 57 && decide (¬ c ≤ pg 2)
  else if i = 4 then pm_wi c 49 57
  else if i = 5 then pm_wi c 48 57
  else false
def pm_hn (hs : Nat → Nat → Int32) (tk ow : Nat → Int32) (br : Int32) (k : Nat) (w : Int32) : Int32 :=
  if w = nI 0 then hs 0 k else if w = nI 1 then hs 1 k else if w = nI 2 then hs 2 k else if w = nI 3 then hs 3 k else if w = nI 4 then hs 4 k else if w = nI 5 then hs 5 k
  else if w = nI 6 then tk k else if w = nI 7 then ow k else vx_i (pu_in br (nI k))
def pm_W (hs : Nat → Nat → Int32) (hr br wk : Int32) (k : Nat) : Int32 := if hr < 9 then pu_W hs hr br wk k else 0
theorem pm_isA2 (kind : Nat → Int32) (h : Nat) : pu_isA kind h 2 = (decide (kind h = 2) || decide (kind h = 4)) := by
  unfold pu_isA
  rw [show decide ((2 : Int32) = 0) = false from by decide, show decide ((2 : Int32) = 2) = true from by decide]
  simp
theorem pm_isA3 (kind : Nat → Int32) (h : Nat) : pu_isA kind h 3 = decide (kind h = 3) := by
  unfold pu_isA
  rw [show decide ((3 : Int32) = 0) = false from by decide, show decide ((3 : Int32) = 2) = false from by decide]
  simp
def pm_sh (par : Nat → Int32) : Nat → Int32 → Int32
  | 0, t => t
  | k + 1, t => pm_sh par k (if pu_in t (nI k) = true ∧ ¬ par k = -1 then t ||| pu_bit (par k) else t)
def pm_gl (kind loss : Nat → Int32) (rn sh a0 : Int32) : Nat → Int32
  | 0 => a0
  | k + 1 => if pu_in sh (nI k) = true ∧ ¬ kind k = 4 then pm_gl kind loss rn sh a0 k + (loss k + (if rn = 0 then 0 else 1)) else pm_gl kind loss rn sh a0 k
def pm_G (hs : Nat → Nat → Int32) (rn hr br wk : Int32) (n : Nat) (t : Int32) : Int32 :=
  pm_gl (hs 0) (hs 5) rn (pm_sh (hs 1) n (pu_work (pm_W hs hr br wk) t n)) (pu_sum (pm_W hs hr br wk) (pu_work (pm_W hs hr br wk) t n) n) n
def pm_wk (G : Int32 → Int32) (kind : Nat → Int32) (hg : Int32) : Nat → Int32 → Int32
  | 0, t => t
  | k + 1, t => pm_wk G kind hg k (if pu_in t (nI k) = true ∧ ¬ kind k = 1 ∧ ¬ G t ≤ hg then t &&& (pu_bit (nI k) ^^^ -1) else t)
def pm_set (hs : Nat → Nat → Int32) (rn hg hr br wk : Int32) (n : Nat) : Int32 := pm_wk (pm_G hs rn hr br wk n) (hs 0) hg n (pu_work (pm_W hs hr br wk) (pu_all (nI n)) n)
def pm_sm (f : Nat → Int32) : Nat → Int32
  | 0 => 0
  | n + 1 => pm_sm f n + f n
def pm_q (dp al : Int32) (tk : Nat → Int32) (j : Nat) : Int32 := dp * tk j / al
def pm_r (dp al : Int32) (tk : Nat → Int32) (j : Nat) : Int32 := dp * tk j - dp * tk j / al * al
def pm_ahd (dp al : Int32) (tk : Nat → Int32) (k : Nat) : Nat → Nat
  | 0 => 0
  | j + 1 => if pm_r dp al tk k < pm_r dp al tk j ∨ (pm_r dp al tk j = pm_r dp al tk k ∧ j < k) then pm_ahd dp al tk k j + 1 else pm_ahd dp al tk k j
def pm_part (dp : Int32) (tk : Nat → Int32) (n k : Nat) : Int32 :=
  if pm_sm tk n = 0 then 0 else pm_q dp (pm_sm tk n) tk k + (if nI (pm_ahd dp (pm_sm tk n) tk k n) < dp - pm_sm (pm_q dp (pm_sm tk n) tk) n then 1 else 0)
theorem pm_ahd_le (dp al : Int32) (tk : Nat → Int32) (k : Nat) : ∀ n, pm_ahd dp al tk k n ≤ n
  | 0 => Nat.le_refl 0
  | n + 1 => by
    have := pm_ahd_le dp al tk k n
    simp only [pm_ahd]
    split <;> omega
/-- the readings: does the shaft give them all with e -/
def pm_feet (hs : Nat → Nat → Int32) (n : Nat) (t : Int32) : Int32 := pm_gl (fun _ => 0) (hs 5) 0 (pm_sh (hs 1) n t) (pu_sum (hs 4) t n) n
def pm_gives (hs : Nat → Nat → Int32) (n : Nat) (st ft : Nat → Int32) (sh e : Int32) : Nat → Bool
  | 0 => true
  | r + 1 => pm_gives hs n st ft sh e r && decide (pm_feet hs n (st r) + (if pu_in (pm_sh (hs 1) n (st r)) sh = true then e else 0) = ft r)
def pm_leak (hs : Nat → Nat → Int32) (n : Nat) (st ft : Nat → Int32) (m : Nat) (sh : Int32) : Nat → Int32
  | 0 => -1
  | k + 1 => if pm_gives hs n st ft sh (nI (9 - k)) m = true then nI (9 - k) else pm_leak hs n st ft m sh k
theorem pm_leak_step (hs : Nat → Nat → Int32) (n : Nat) (st ft : Nat → Int32) (m : Nat) (sh : Int32) {i : Nat} (h1 : 1 ≤ i) (h9 : i ≤ 9) : pm_leak hs n st ft m sh (10 - i) = if pm_gives hs n st ft sh (nI i) m = true then nI i else pm_leak hs n st ft m sh (10 - (i + 1)) := by
  have e : 10 - i = (9 - i) + 1 := by omega
  have e2 : 9 - (9 - i) = i := by omega
  have e3 : 10 - (i + 1) = 9 - i := by omega
  rw [e, pm_leak, e2, e3]
def pm_leaks (L : Nat → Int32) : Nat → Int32
  | 0 => 0
  | n + 1 => if L n = -1 then pm_leaks L n else pm_leaks L n ||| pu_bit (nI n)
def pm_lf (su : Int32) (sh : Int32) : Int32 := if pm_size (su &&& sh) 8 ≤ pm_size su 8 - pm_size (su &&& sh) 8 then pm_size su 8 - pm_size (su &&& sh) 8 else pm_size (su &&& sh) 8
def pm_look (su : Int32) (par : Nat → Int32) (n : Nat) : Nat → Int32 × Int32
  | 0 => (-1, 9)
  | i + 1 => if (pm_look su par n i).2 ≤ pm_lf su (pm_sh par n (nI (i + 1))) then pm_look su par n i else (nI (i + 1), pm_lf su (pm_sh par n (nI (i + 1))))
def am_look (su : Int32) (par : Nat → Int32) (n : Nat) : Int32 := if su = 0 then -1 else (pm_look su par n (2 ^ n - 1)).1
