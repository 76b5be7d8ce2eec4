/-- the reference's saved numbers and its long ones may differ, nothing else -/
def pm_same (S S' : vx_St) : Prop := (∀ c, c ∉ [35, 47] → S'.1 c = S.1 c) ∧ (∀ k, (k < 23 ∨ 29 < k) → S'.1 35 k = S.1 35 k)
theorem pm_same_rf (S : vx_St) : pm_same S S := ⟨fun _ _ => rfl, fun _ _ => rfl⟩
theorem pm_same_tr {S S1 S2 : vx_St} (h : pm_same S S1) (h1 : pm_same S1 S2) : pm_same S S2 := ⟨fun c hc => (h1.1 c hc).trans (h.1 c hc), fun k hk => (h1.2 k hk).trans (h.2 k hk)⟩
theorem pm_same_hm {S S1 : vx_St} (h : pm_same S S1) : pu_hm S1 = pu_hm S := pu_hm_c (fun c h1 h2 => h.1 c (by simp only [List.mem_cons, List.not_mem_nil, or_false, not_or]; omega))
/-- what all have taken when k hours more have gone -/
def pm_ah (hs : Nat → Nat → Int32) (rn br : Int32) (n : Nat) : Nat → Int32 → Int32 → Int32 → Int32 → Int32 → Int32
  | 0, _, _, _, _, tb => tb
  | k + 1, hg, hr, wk, dn, tb => if dn = 0 then
      pm_ah hs rn br n k (hg - pm_feetH hs rn hg hr br wk n) (hr + 1) (pm_s2 hs rn hg hr br wk n) (if pm_dn hs rn hg hr br wk n = true then 1 else dn) (tb + pm_tn hs rn hg hr br wk n)
    else tb
def pm_TA (hs : Nat → Nat → Int32) (rn : Int32) (n hh : Nat) (hg wk dn tb br : Int32) : Int32 := pm_ah hs rn br n (9 - hh) hg (nI hh) wk dn tb - tb
section MX
variable (hs : Nat → Nat → Int32) (sc : Nat → Int32) (n : Nat)
theorem pm_nx_11 : pm_nx hs sc n 11 = sc 11 - pm_feetH hs (sc 16) (sc 11) (sc 12) (sc 9) (sc 14) n := by
  by_cases hd : pm_dn hs (sc 16) (sc 11) (sc 12) (sc 9) (sc 14) n = true <;> simp [pm_nx, pm_feetH, upd, hd]
theorem pm_nx_12 : pm_nx hs sc n 12 = sc 12 + 1 := by
  by_cases hd : pm_dn hs (sc 16) (sc 11) (sc 12) (sc 9) (sc 14) n = true <;> simp [pm_nx, upd, hd]
theorem pm_nx_14 : pm_nx hs sc n 14 = pm_s2 hs (sc 16) (sc 11) (sc 12) (sc 9) (sc 14) n := by
  by_cases hd : pm_dn hs (sc 16) (sc 11) (sc 12) (sc 9) (sc 14) n = true <;> simp [pm_nx, pm_s2, upd, hd]
theorem pm_nx_15 : pm_nx hs sc n 15 = if pm_dn hs (sc 16) (sc 11) (sc 12) (sc 9) (sc 14) n = true then 1 else sc 15 := by
  by_cases hd : pm_dn hs (sc 16) (sc 11) (sc 12) (sc 9) (sc 14) n = true <;> simp [pm_nx, upd, hd]
theorem pm_nx_13 : pm_nx hs sc n 13 = sc 13 + (pm_feetH hs (sc 16) (sc 11) (sc 12) (sc 9) (sc 14) n - pm_tn hs (sc 16) (sc 11) (sc 12) (sc 9) (sc 14) n) := by
  by_cases hd : pm_dn hs (sc 16) (sc 11) (sc 12) (sc 9) (sc 14) n = true <;> simp [pm_nx, pm_feetH, pm_tn, upd, hd]
theorem pm_nx_o {k : Nat} (h : k < 11 ∨ 15 < k) : pm_nx hs sc n k = sc k := by
  have e : k ≠ 11 ∧ k ≠ 12 ∧ k ≠ 13 ∧ k ≠ 14 ∧ k ≠ 15 := by omega
  obtain ⟨e1, e2, e3, e4, e5⟩ := e
  by_cases hd : pm_dn hs (sc 16) (sc 11) (sc 12) (sc 9) (sc 14) n = true <;> simp [pm_nx, upd, hd, e1, e2, e3, e4, e5]
end MX
theorem pm_sm_c {f g : Nat → Int32} : ∀ n, (∀ j, j < n → f j = g j) → pm_sm f n = pm_sm g n
  | 0, _ => rfl
  | n + 1, h => by simp only [pm_sm]; rw [pm_sm_c n (fun j hj => h j (by omega)), h n (by omega)]
theorem pm_sm_took (tk W : Nat → Int32) (t : Int32) (m : Nat) : ∀ n, n ≤ m → pm_sm (pm_took tk W t m) n = pm_sm tk n + pu_sum W t n
  | 0, _ => by simp [pm_sm, pu_sum]
  | n + 1, h => by
    simp only [pm_sm, pu_sum]
    rw [pm_sm_took tk W t m n (by omega), pm_took, if_pos (by omega)]
    split
    · rw [Int32.add_assoc, Int32.add_assoc, ← Int32.add_assoc (pu_sum W t n), Int32.add_comm (pu_sum W t n) (tk n), Int32.add_assoc]
    · rw [pm_add0, Int32.add_assoc, Int32.add_comm (pu_sum W t n) (tk n), Int32.add_assoc]
def pm_btr (T : Int32 → Int32) (b m : Int32) (i : Nat) : Bool := decide (m < T (nI i)) || (decide (T (nI i) = m) && decide (pm_size (nI i) 8 < pm_size b 8))
def pm_best (T : Int32 → Int32) : Nat → Int32 × Int32
  | 0 => (0, T 0)
  | i + 1 => if pm_btr T (pm_best T i).1 (pm_best T i).2 (i + 1) = true then (nI (i + 1), T (nI (i + 1))) else pm_best T i
def pm_seed (x : Int64) : Int64 := ((1103515245 : Int64) * x + 12345) &&& 2147483647
def pm_drw (x : Int64) : Int32 := (x / 65536 - x / 65536 / (3 : Int32).toInt64 * (3 : Int32).toInt64).toInt32
def pm_rn (x : Int64) : Int32 := if pm_drw x = 0 then 1 else 0
def pm_rs (hs : Nat → Nat → Int32) (br : Int32) (n : Nat) : Nat → Int64 → Int32 → Int32 → Int32 → Int32 → Int32 → Int32 → Int64 × Int32 × Int32 × Int32
  | 0, sd, hg, _, _, _, tb, di => (sd, hg, tb, di)
  | k + 1, sd, hg, hr, wk, dn, tb, di => if dn = 0 then
      pm_rs hs br n k (pm_seed sd) (hg - pm_feetH hs (pm_rn (pm_seed sd)) hg hr br wk n) (hr + 1) (pm_s2 hs (pm_rn (pm_seed sd)) hg hr br wk n) (if pm_dn hs (pm_rn (pm_seed sd)) hg hr br wk n = true then 1 else dn) (tb + pm_tn hs (pm_rn (pm_seed sd)) hg hr br wk n) (if pm_dn hs (pm_rn (pm_seed sd)) hg hr br wk n = true then hr else -1)
    else (sd, hg, tb, di)
def am_rs (q : Int64 × Int32 × Int32 × Int32) (tb w : Int32) : Int32 := if w = 0 then q.2.2.1 - tb else if w = 1 then q.2.1 else if w = 2 then q.2.2.2 else q.1.toInt32
def pm_openIn (fr to : Nat → Int32) (hr : Int32) : Nat → Int32
  | 0 => 0
  | n + 1 => if (decide (hr < 9) && pu_open fr to hr n) = true then pm_openIn fr to hr n ||| pu_bit (nI n) else pm_openIn fr to hr n
