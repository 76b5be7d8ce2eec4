theorem pu_hm_c {S S' : vx_St} (h : ∀ c, 36 ≤ c → c < 42 → S'.1 c = S.1 c) : pu_hm S' = pu_hm S := by
  funext w
  simp only [pu_hm]
  by_cases q : w < 6
  · rw [if_pos q, if_pos q, h _ (by omega) (by omega)]
  · rw [if_neg q, if_neg q]
def pm_took (tk W : Nat → Int32) (t : Int32) (n : Nat) : Nat → Int32 := fun j => if j < n then tk j + (if pu_in t (nI j) = true then W j else 0) else tk j
theorem pm_took_s (tk W : Nat → Int32) (t : Int32) (n : Nat) : upd (pm_took tk W t n) n (tk n + (if pu_in t (nI n) = true then W n else 0)) = pm_took tk W t (n + 1) := by
  funext j
  simp only [upd, pm_took]
  by_cases h : j = n
  · subst h
    simp
  · rw [if_neg h]
    by_cases h3 : j < n
    · rw [if_pos h3, if_pos (show j < n + 1 by omega)]
    · rw [if_neg h3, if_neg (show ¬ j < n + 1 by omega)]
theorem pm_took_0 (tk W : Nat → Int32) (t : Int32) : pm_took tk W t 0 = tk := by
  funext j
  simp [pm_took]
theorem pm_took_at (tk W : Nat → Int32) (t : Int32) (n : Nat) : pm_took tk W t n n = tk n := by simp [pm_took]
def pm_dn (hs : Nat → Nat → Int32) (rn hg hr br wk : Int32) (n : Nat) : Bool := decide (¬ pm_G hs rn hr br wk n (pm_set hs rn hg hr br wk n) ≤ hg)
def pm_feetH (hs : Nat → Nat → Int32) (rn hg hr br wk : Int32) (n : Nat) : Int32 := if pm_dn hs rn hg hr br wk n = true then hg else pm_G hs rn hr br wk n (pm_set hs rn hg hr br wk n)
def pm_tn (hs : Nat → Nat → Int32) (rn hg hr br wk : Int32) (n : Nat) : Int32 := if pm_dn hs rn hg hr br wk n = true then 0 else pu_sum (pm_W hs hr br wk) (pm_set hs rn hg hr br wk n) n
def pm_s2 (hs : Nat → Nat → Int32) (rn hg hr br wk : Int32) (n : Nat) : Int32 := if pm_dn hs rn hg hr br wk n = true then 0 else pm_set hs rn hg hr br wk n
def pm_nx (hs : Nat → Nat → Int32) (sc : Nat → Int32) (n : Nat) : Nat → Int32 :=
  if pm_dn hs (sc 16) (sc 11) (sc 12) (sc 9) (sc 14) n = true then upd (upd (upd (upd (upd sc 13 (sc 13 + sc 11)) 11 0) 15 1) 14 0) 12 (sc 12 + 1)
  else upd (upd (upd (upd sc 13 (sc 13 + (pm_G hs (sc 16) (sc 12) (sc 9) (sc 14) n (pm_set hs (sc 16) (sc 11) (sc 12) (sc 9) (sc 14) n) - pu_sum (pm_W hs (sc 12) (sc 9) (sc 14)) (pm_set hs (sc 16) (sc 11) (sc 12) (sc 9) (sc 14) n) n))) 11 (sc 11 - pm_G hs (sc 16) (sc 12) (sc 9) (sc 14) n (pm_set hs (sc 16) (sc 11) (sc 12) (sc 9) (sc 14) n))) 14 (pm_set hs (sc 16) (sc 11) (sc 12) (sc 9) (sc 14) n)) 12 (sc 12 + 1)
def pm_mn (x : Int32) : Int32 := if x ≤ 999 then x else 999
def pm_ngt (sc : Nat → Int32) : Nat → Int32 := upd (upd (upd (upd (upd sc 12 0) 11 (sc 10)) 13 0) 14 0) 15 0
def am_ms (q : Nat × Int32 × Int32) (w : Int32) : Int32 := if w = 0 then nI q.1 else if w = 2 then q.2.2 else if q.1 = 0 then 0 else q.2.1
/-- the codes as the reference reads them -/
def pm_code (w : Int64) (p : Int32) : Int32 := ((w >>> (((8 : Int32) * p).toInt64 &&& 63)) &&& 255).toInt32
def pm_byte (w : Int64) (p : Int32) : Int32 := vp_nar .byte ((w >>> (((8 : Int32) * p).toInt64 &&& 63)).toInt32.toInt8.toInt32)
def am_hB (pg : Nat → Int32) (z : Nat) (x hr : Int32) (n : Nat) : Bool := (decide (z = 6) && decide (pu_fst (fun k => pm_may pg x k (pg k)) z = z)) && (decide (¬ 0 < hr) && decide (n < 8))
def am_hou (pg : Nat → Int32) (z : Nat) (x hr : Int32) (n : Nat) : Int32 := if (decide (z = 6) && decide (pu_fst (fun k => pm_may pg x k (pg k)) z = z)) = true ∧ ¬ 0 < hr then (if n < 8 then nI n else -104) else -103
theorem pm_rdB (t f x : Int32) : aw_rdB t f x = (pm_wi t 1 (pu_all x) && pm_wi f 1 199) := by
  simp only [aw_rdB, aw_bits, pm_wi]
  have e : (decide (¬ t = 0) && decide (0 ≤ t)) = decide (1 ≤ t) := by
    rw [← Bool.decide_and, decide_eq_decide, Int32.le_iff_toInt_le, Int32.le_iff_toInt_le, Int32.toInt_zero, show (1 : Int32).toInt = 1 from by decide]
    constructor
    · intro h
      have : t.toInt ≠ 0 := fun q => h.1 (Int32.toInt_inj.mp (by rw [q, Int32.toInt_zero]))
      omega
    · intro h
      exact ⟨fun q => by rw [q, Int32.toInt_zero] at h; omega, by omega⟩
  rw [← e]
  simp [Bool.and_assoc]
