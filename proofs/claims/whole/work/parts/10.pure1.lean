/-! ===== numbers and sets, as the two programs have them ===== -/
theorem pu_geT {x : Int32} {n i : Nat} (hx : x = nI n) (hn : n ≤ 1000) (hi : i ≤ 1000) (h : x ≤ nI i) : n ≤ i := by
  rw [hx] at h
  exact (nI_leI (by omega) (by omega)).mp h
theorem pu_geF {x : Int32} {n i : Nat} (hx : x = nI n) (hn : n ≤ 1000) (hi : i ≤ 1000) (h : ¬ x ≤ nI i) : i < n := by
  rw [hx] at h
  exact Nat.not_le.mp (fun q => h ((nI_leI (by omega) (by omega)).mpr q))
theorem pu_lt {a b : Int32} (h : a < b) : ¬ b ≤ a := by rw [Int32.lt_iff_toInt_lt] at h; rw [Int32.le_iff_toInt_le]; omega
theorem pu_nlt {a b : Int32} (h : ¬ a < b) : b ≤ a := by rw [Int32.lt_iff_toInt_lt] at h; rw [Int32.le_iff_toInt_le]; omega
theorem pu_le {a b : Int32} (h : a ≤ b) : ¬ b < a := by rw [Int32.le_iff_toInt_le] at h; rw [Int32.lt_iff_toInt_lt]; omega
theorem pu_nle {a b : Int32} (h : ¬ a ≤ b) : b < a := by rw [Int32.le_iff_toInt_le] at h; rw [Int32.lt_iff_toInt_lt]; omega
/-- is k in the set -/
def pu_in (s k : Int32) : Bool := decide (¬ (s >>> (k &&& 31)) &&& 1 = 0)
def pu_bit (k : Int32) : Int32 := 1 <<< (k &&& 31)
def pu_all (n : Int32) : Int32 := pu_bit n - 1
/-- what the places of a set hold together -/
def pu_sum (f : Nat → Int32) (s : Int32) : Nat → Int32
  | 0 => 0
  | n + 1 => if pu_in s (nI n) = true then pu_sum f s n + f n else pu_sum f s n
def pu_or (f : Nat → Int32) (s : Int32) : Nat → Int32
  | 0 => 0
  | n + 1 => if pu_in s (nI n) = true then pu_or f s n ||| f n else pu_or f s n
def pu_loss (kind loss : Nat → Int32) (rain s : Int32) : Nat → Int32
  | 0 => 0
  | n + 1 => if pu_in s (nI n) = true ∧ ¬ kind n = 4 then pu_loss kind loss rain s n + (if rain = 0 then loss n else loss n + 1) else pu_loss kind loss rain s n
def pu_isA (kind : Nat → Int32) (h : Nat) (k : Int32) : Bool := decide (k = 0) || (decide (kind h = k) || (decide (k = 2) && decide (kind h = 4)))
def pu_open (fr to : Nat → Int32) (hr : Int32) (h : Nat) : Bool := decide (fr h ≤ hr) && decide (hr < to h)
def pu_openIn (fr to : Nat → Int32) (hr : Int32) : Nat → Int32
  | 0 => 0
  | n + 1 => if pu_open fr to hr n = true then pu_openIn fr to hr n ||| pu_bit (nI n) else pu_openIn fr to hr n
/-- what a house wants: its arrays, the hour, the brakes, who worked -/
def pu_want (kind fr to takes : Nat → Int32) (hr br wk : Int32) (h : Nat) : Int32 :=
  if pu_open fr to hr h = false ∨ pu_in br (nI h) = true then 0
  else if pu_isA kind h 2 = true ∧ hr = fr h then 2 * takes h
  else if pu_isA kind h 3 = true ∧ pu_in wk (nI h) = true then takes h - 1
  else takes h
/-- the feet and the shafts of those of a set that want something -/
def pu_gof (wd : Nat → Int32) (s : Int32) : Nat → Int32
  | 0 => 0
  | n + 1 => if pu_in s (nI n) = true ∧ 0 < wd n then pu_gof wd s n + wd n else pu_gof wd s n
def pu_gos (wd way : Nat → Int32) (s : Int32) : Nat → Int32
  | 0 => 0
  | n + 1 => if pu_in s (nI n) = true ∧ 0 < wd n then pu_gos wd way s n ||| way n else pu_gos wd way s n
def pu_goes (kind loss way : Nat → Int32) (rain : Int32) (wd : Nat → Int32) (s : Int32) (n : Nat) : Int32 := pu_gof wd s n + pu_loss kind loss rain (pu_gos wd way s n) n
/-- the readings: does the shaft give them all with e -/
def pu_shown (th : Nat → Int32) (sh e : Int32) (r : Nat) : Int32 := if pu_in (th r) sh = true then e else 0
def pu_gives (th ex : Nat → Int32) (sh e : Int32) : Nat → Bool
  | 0 => true
  | n + 1 => pu_gives th ex sh e n && decide (pu_shown th sh e n = ex n)
/-- the least e from 9 - k on; -1 if none -/
def pu_leak (th ex : Nat → Int32) (sh : Int32) (n : Nat) : Nat → Int32
  | 0 => -1
  | k + 1 => if pu_gives th ex sh (nI (9 - k)) n = true then nI (9 - k) else pu_leak th ex sh n k
theorem pu_gives_no {th ex : Nat → Int32} {sh e : Int32} {i : Nat} (h : ¬ pu_shown th sh e i = ex i) : ∀ n, i < n → pu_gives th ex sh e n = false
  | 0, hn => absurd hn (Nat.not_lt_zero i)
  | n + 1, hn => by
    rcases Nat.lt_or_ge i n with q | q
    · simp [pu_gives, pu_gives_no h n q]
    · have e : i = n := by omega
      subst e
      simp [pu_gives, h]
theorem pu_leak_step (th ex : Nat → Int32) (sh : Int32) (n : Nat) {i : Nat} (h1 : 1 ≤ i) (h9 : i ≤ 9) : pu_leak th ex sh n (10 - i) = if pu_gives th ex sh (nI i) n = true then nI i else pu_leak th ex sh n (10 - (i + 1)) := by
  have e : 10 - i = (9 - i) + 1 := by omega
  have e2 : 9 - (9 - i) = i := by omega
  have e3 : 10 - (i + 1) = 9 - i := by omega
  rw [e, pu_leak, e2, e3]
