theorem pu_hs_c {S S' : vx_St} (h : ∀ c, 4 ≤ c → c < 10 → S'.1 c = S.1 c) : pu_hs S' = pu_hs S := by
  funext w
  simp only [pu_hs]
  by_cases q : w < 6
  · rw [if_pos q, if_pos q, h _ (by omega) (by omega)]
  · rw [if_neg q, if_neg q]
section NX
variable (hs : Nat → Nat → Int32) (wy sc : Nat → Int32) (n : Nat)
theorem pu_nx_1 : pu_nx hs wy sc n 1 = sc 1 - pu_feet hs wy (sc 6) (sc 1) (sc 2) (sc 5) (sc 4) n := by
  by_cases hd : pu_dn hs wy (sc 6) (sc 1) (sc 2) (sc 5) (sc 4) n = true <;> simp [pu_nx, pu_let, upd, hd]
theorem pu_nx_2 : pu_nx hs wy sc n 2 = sc 2 + 1 := by simp [pu_nx, upd]
theorem pu_nx_4 : pu_nx hs wy sc n 4 = pu_work (pu_W hs (sc 2) (sc 5) (sc 4)) (pu_set2 hs wy (sc 6) (sc 1) (sc 2) (sc 5) (sc 4) n) n := by simp [pu_nx, pu_let, upd]
theorem pu_nx_5 : pu_nx hs wy sc n 5 = sc 5 := by
  by_cases hd : pu_dn hs wy (sc 6) (sc 1) (sc 2) (sc 5) (sc 4) n = true <;> simp [pu_nx, pu_let, upd, hd]
theorem pu_nx_6 : pu_nx hs wy sc n 6 = sc 6 := by
  by_cases hd : pu_dn hs wy (sc 6) (sc 1) (sc 2) (sc 5) (sc 4) n = true <;> simp [pu_nx, pu_let, upd, hd]
theorem pu_nx_7 : pu_nx hs wy sc n 7 = if pu_dn hs wy (sc 6) (sc 1) (sc 2) (sc 5) (sc 4) n = true then 1 else sc 7 := by
  by_cases hd : pu_dn hs wy (sc 6) (sc 1) (sc 2) (sc 5) (sc 4) n = true <;> simp [pu_nx, pu_let, upd, hd]
theorem pu_nx_8 : pu_nx hs wy sc n 8 = sc 8 + pu_gof (pu_W hs (sc 2) (sc 5) (sc 4)) (pu_set2 hs wy (sc 6) (sc 1) (sc 2) (sc 5) (sc 4) n) n := by
  by_cases hd : pu_dn hs wy (sc 6) (sc 1) (sc 2) (sc 5) (sc 4) n = true <;> simp [pu_nx, pu_let, upd, hd]
theorem pu_nx_0 : pu_nx hs wy sc n 0 = sc 0 := by
  by_cases hd : pu_dn hs wy (sc 6) (sc 1) (sc 2) (sc 5) (sc 4) n = true <;> simp [pu_nx, pu_let, upd, hd]
theorem pu_nx_3 : pu_nx hs wy sc n 3 = sc 3 + (pu_feet hs wy (sc 6) (sc 1) (sc 2) (sc 5) (sc 4) n - pu_gof (pu_W hs (sc 2) (sc 5) (sc 4)) (pu_set2 hs wy (sc 6) (sc 1) (sc 2) (sc 5) (sc 4) n) n) := by
  by_cases hd : pu_dn hs wy (sc 6) (sc 1) (sc 2) (sc 5) (sc 4) n = true <;> simp [pu_nx, pu_let, upd, hd]
end NX
/-- what all have taken when k hours more have gone, as long as something hangs -/
def pu_ah (hs : Nat → Nat → Int32) (wy : Nat → Int32) (rn br : Int32) (n : Nat) : Nat → Int32 → Int32 → Int32 → Int32 → Int32 → Int32
  | 0, _, _, _, _, tb => tb
  | k + 1, hg, hr, wk, dn, tb => if dn = 0 ∧ 0 < hg then
      pu_ah hs wy rn br n k (hg - pu_feet hs wy rn hg hr br wk n) (hr + 1) (pu_work (pu_W hs hr br wk) (pu_set2 hs wy rn hg hr br wk n) n) (if pu_dn hs wy rn hg hr br wk n = true then 1 else dn) (tb + pu_gof (pu_W hs hr br wk) (pu_set2 hs wy rn hg hr br wk n) n)
    else tb
def pu_TA (hs : Nat → Nat → Int32) (wy : Nat → Int32) (rn : Int32) (n hh : Nat) (hg wk dn tb br : Int32) : Int32 := pu_ah hs wy rn br n (9 - hh) hg (nI hh) wk dn tb - tb
def pu_btr (T : Int32 → Int32) (b m : Int32) (i : Nat) : Bool := decide (m < T (nI i)) || (decide (T (nI i) = m) && decide (pu_bc (nI i) < pu_bc b))
/-- the best of the sets 0 to i, and what it gives -/
def pu_best (T : Int32 → Int32) : Nat → Int32 × Int32
  | 0 => (0, T 0)
  | i + 1 => if pu_btr T (pu_best T i).1 (pu_best T i).2 (i + 1) = true then (nI (i + 1), T (nI (i + 1))) else pu_best T i
theorem pu_all_nI : ∀ n, n ≤ 8 → pu_all (nI n) = nI (2 ^ n - 1) := by decide +kernel
theorem pu_2n : ∀ n, n ≤ 8 → 2 ^ n - 1 ≤ 255 ∧ 1 ≤ 2 ^ n := by decide +kernel
theorem pu_bit_nI : ∀ n, n ≤ 8 → pu_bit (nI n) = nI (2 ^ n) := by decide +kernel
/-- missing: how many of the sets 1 to i fit, who is in all, who in some -/
def pu_ms (ok : Nat → Bool) (a0 : Int32) : Nat → Nat × Int32 × Int32
  | 0 => (0, a0, 0)
  | i + 1 => if ok (i + 1) = true then ((pu_ms ok a0 i).1 + 1, (pu_ms ok a0 i).2.1 &&& nI (i + 1), (pu_ms ok a0 i).2.2 ||| nI (i + 1)) else pu_ms ok a0 i
theorem pu_ms_le (ok : Nat → Bool) (a0 : Int32) : ∀ i, (pu_ms ok a0 i).1 ≤ i
  | 0 => Nat.le_refl 0
  | i + 1 => by
    have := pu_ms_le ok a0 i
    simp only [pu_ms]
    split
    · show (pu_ms ok a0 i).1 + 1 ≤ i + 1
      omega
    · omega
def pu_msok (tk : Nat → Int32) (n : Nat) (op ft : Int32) (i : Nat) : Bool := decide (nI i &&& (op ^^^ -1) = 0) && decide (pu_sum tk (nI i) n = ft)
theorem pu_nIor (a b : Nat) : nI a ||| nI b = nI (a ||| b) := by
  apply Int32.toBitVec_inj.mp
  simp [nI, Int32.toBitVec_or, BitVec.ofNat_or]
theorem pu_open_nI (fr to : Nat → Int32) (hr : Int32) : ∀ n, n ≤ 8 → ∃ o, o < 2 ^ n ∧ pu_openIn fr to hr n = nI o
  | 0, _ => ⟨0, by decide, rfl⟩
  | n + 1, h => by
    obtain ⟨o, h1, h2⟩ := pu_open_nI fr to hr n (by omega)
    have e : 2 ^ (n + 1) = 2 ^ n + 2 ^ n := by rw [Nat.pow_succ]; omega
    simp only [pu_openIn]
    split
    · refine ⟨o ||| 2 ^ n, Nat.or_lt_two_pow (by omega) (by omega), ?_⟩
      rw [h2, pu_bit_nI n (by omega), pu_nIor]
    · exact ⟨o, by omega, h2⟩
def aw_msB (f w : Int32) : Bool := (decide (1 ≤ f) && decide (f ≤ 72)) && (decide (0 ≤ w) && decide (w ≤ 2))
def aw_ms (q : Nat × Int32 × Int32) (w : Int32) : Int32 := if q.1 = 0 ∨ w = 0 then nI q.1 else if w = 1 then q.2.1 else q.2.2
/-- the rest of a day by a seed: the seed then, what hangs, what all have taken, the hour in which it is down -/
def pu_rn (sd : Int32) : Int32 := if sd / 65536 - sd / 65536 / 3 * 3 = 0 then 1 else 0
def pu_rs (hs : Nat → Nat → Int32) (wy : Nat → Int32) (br : Int32) (n : Nat) : Nat → Int32 → Int32 → Int32 → Int32 → Int32 → Int32 → Int32 → Int32 × Int32 × Int32 × Int32
  | 0, sd, hg, _, _, _, tb, di => (sd, hg, tb, di)
  | k + 1, sd, hg, hr, wk, dn, tb, di => if dn = 0 then
      pu_rs hs wy br n k (pu_seed sd) (hg - pu_feet hs wy (pu_rn (pu_seed sd)) hg hr br wk n) (hr + 1) (pu_work (pu_W hs hr br wk) (pu_set2 hs wy (pu_rn (pu_seed sd)) hg hr br wk n) n) (if pu_dn hs wy (pu_rn (pu_seed sd)) hg hr br wk n = true then 1 else dn) (tb + pu_gof (pu_W hs hr br wk) (pu_set2 hs wy (pu_rn (pu_seed sd)) hg hr br wk n) n) (if pu_dn hs wy (pu_rn (pu_seed sd)) hg hr br wk n = true then hr else di)
    else (sd, hg, tb, di)
def aw_rsB (sd w : Int32) : Bool := decide (0 ≤ sd) && (decide (0 ≤ w) && decide (w ≤ 3))
def aw_rs (q : Int32 × Int32 × Int32 × Int32) (tb w : Int32) : Int32 := if w = nI 0 then q.2.2.1 - tb else if w = nI 1 then q.2.1 else if w = nI 2 then q.2.2.2 else q.1
/-- the best set to look by, of the sets 1 to i; how many it leaves -/
def pu_left (su th : Int32) : Int32 := if pu_bc (su &&& th) < pu_bc (su &&& (th ^^^ -1)) then pu_bc (su &&& (th ^^^ -1)) else pu_bc (su &&& th)
def pu_look (su : Int32) (wy : Nat → Int32) (n : Nat) : Nat → Int32 × Int32
  | 0 => (-1, 9)
  | i + 1 => if (pu_look su wy n i).2 ≤ pu_left su (pu_or wy (nI (i + 1)) n) then pu_look su wy n i else (nI (i + 1), pu_left su (pu_or wy (nI (i + 1)) n))
def aw_look (su : Int32) (wy : Nat → Int32) (n : Nat) : Int32 := if su = 0 then -1 else (pu_look su wy n (2 ^ n - 1)).1
theorem pu_gtT {x : Int32} {n i : Nat} (hx : x = nI n) (hn : n ≤ 1000) (hi : i ≤ 1000) (h : x < nI i) : n < i := by
  rw [hx] at h
  exact (nI_ltI (by omega) (by omega)).mp h
theorem pu_gtF {x : Int32} {n i : Nat} (hx : x = nI n) (hn : n ≤ 1000) (hi : i ≤ 1000) (h : ¬ x < nI i) : i ≤ n := by
  rw [hx] at h
  exact Nat.not_lt.mp (fun q => h ((nI_ltI (by omega) (by omega)).mpr q))
/-! ===== the digest ===== -/
def dg_m (h : Int64) (v : Int32) : Int64 := 31 * h + v.toInt64
def dg_l (f : Nat → Int32) (h : Int64) : Nat → Int64
  | 0 => h
  | w + 1 => dg_m (dg_l f h w) (f w)
def dg_H (ab : Nat → Nat → Int32) (wn pt lk : Nat → Int32) (h : Int64) : Nat → Int64
  | 0 => h
  | i + 1 => dg_m (dg_m (dg_m (dg_l (ab i) (dg_H ab wn pt lk h i) 9) (wn i)) (pt i)) (lk i)
theorem dg_l_0 (f : Nat → Int32) (h : Int64) : dg_l f h 0 = h := rfl
theorem dg_l_c {f g : Nat → Int32} (h : Int64) : ∀ n, (∀ i, i < n → f i = g i) → dg_l f h n = dg_l g h n
  | 0, _ => rfl
  | n + 1, e => by simp only [dg_l]; rw [dg_l_c h n (fun i hi => e i (by omega)), e n (by omega)]
/-! ===== what the parts rest on: only the places of houses ===== -/
theorem pu_gr_c {r r' : Nat → Int32} : ∀ n, (∀ j, j < n → r j = r' j) → pu_gr r n = pu_gr r' n
  | 0, _ => rfl
  | n + 1, h => by
    have e := pu_gr_c n (fun j hj => h j (by omega))
    have hb : n = 0 ∨ pu_gr r' n < n := by
      rcases Nat.eq_zero_or_pos n with q | q
      · exact Or.inl q
      · exact Or.inr (pu_gr_lt r' n q)
    simp only [pu_gr, e]
    rw [h n (by omega), h (pu_gr r' n) (by
      rcases hb with rfl | q
      · exact Nat.lt_succ_self 0
      · omega)]
theorem pu_give_c {n : Nat} : ∀ (k : Nat) (p p' r r' : Nat → Int32) (lf : Int32), (∀ j, j < n → p j = p' j) → (∀ j, j < n → r j = r' j) → ∀ j, j < n → pu_give n k p r lf j = pu_give n k p' r' lf j
  | 0, p, p', r, r', lf, hp, _, j, hj => hp j hj
  | k + 1, p, p', r, r', lf, hp, hr, j, hj => by
    simp only [pu_give]
    split
    · exact hp j hj
    · have e := pu_gr_c n hr
      have hl : pu_gr r' n < n := pu_gr_lt r' n (by omega)
      rw [e]
      refine pu_give_c k _ _ _ _ _ (fun i hi => ?_) (fun i hi => ?_) j hj
      · simp only [upd]
        split
        · rw [hp _ hl]
        · exact hp i hi
      · simp only [upd]
        split
        · rfl
        · exact hr i hi
theorem pu_pts_c {dp tb : Int32} {tk po ro po' ro' : Nat → Int32} {n j : Nat} (hj : j < n) : pu_pts dp tb tk po ro n j = pu_pts dp tb tk po' ro' n j := by
  refine pu_give_c n _ _ _ _ _ (fun i hi => ?_) (fun i hi => ?_) j hj
  · rw [pu_fill_in hi, pu_fill_in hi]
  · rw [pu_fill_in hi, pu_fill_in hi]
def pu_z : Nat → Int32 := fun _ => 0
theorem pu_allbits : ∀ n, n ≤ 8 → aw_bits (pu_all (nI n)) (nI n) = true := by decide +kernel
