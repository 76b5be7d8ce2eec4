/-! ===== stores that differ at some rows ===== -/
def pu_chg (S S' : vx_St) (cs : List Nat) : Prop := S'.2 = S.2 ∧ ∀ c, c ∉ cs → S'.1 c = S.1 c
theorem pu_chg_rf (S : vx_St) (cs : List Nat) : pu_chg S S cs := ⟨rfl, fun _ _ => rfl⟩
theorem pu_chg_u {S S' : vx_St} {cs : List Nat} (h : pu_chg S S' cs) {c : Nat} (k : Nat) (x : Int32) (hc : c ∈ cs) : pu_chg S (vx_u S' c k x) cs := ⟨h.1, fun i hi => by
  have e : i ≠ c := fun e => hi (e ▸ hc)
  rw [vx_u_ne S' k x e]
  exact h.2 i hi⟩
theorem pu_chg_ur {S S' : vx_St} {cs : List Nat} (h : pu_chg S S' cs) {c : Nat} (f : Nat → Int32) (hc : c ∈ cs) : pu_chg S (vx_ur S' c f) cs := ⟨h.1, fun i hi => by
  have e : i ≠ c := fun e => hi (e ▸ hc)
  simp only [vx_ur, if_neg e]
  exact h.2 i hi⟩
theorem pu_chg_tr {S S1 S2 : vx_St} {cs c1 : List Nat} (h : pu_chg S S1 cs) (h1 : pu_chg S1 S2 c1) (hs : ∀ c ∈ c1, c ∈ cs) : pu_chg S S2 cs := ⟨h1.1.trans h.1, fun i hi => (h1.2 i (fun q => hi (hs i q))).trans (h.2 i hi)⟩
theorem vx_ur_ne (S : vx_St) {c i : Nat} (f : Nat → Int32) (h : i ≠ c) : (vx_ur S c f).1 i = S.1 i := by simp only [vx_ur, if_neg h]
theorem vx_ur_eq (S : vx_St) (c : Nat) (f : Nat → Int32) : (vx_ur S c f).1 c = f := by simp only [vx_ur, if_true]
/-- the first n places by f, the others by g -/
def pu_fill (f g : Nat → Int32) (n : Nat) : Nat → Int32 := fun j => if j < n then f j else g j
theorem pu_fill_0 (f g : Nat → Int32) : pu_fill f g 0 = g := rfl
theorem pu_fill_in {f g : Nat → Int32} {n j : Nat} (h : j < n) : pu_fill f g n j = f j := if_pos h
theorem pu_fill_s (f g : Nat → Int32) (n : Nat) : upd (pu_fill f g n) n (f n) = pu_fill f g (n + 1) := by
  funext j
  simp only [upd, pu_fill]
  by_cases h : j = n
  · subst h
    simp
  · rw [if_neg h]
    by_cases h2 : j < n
    · rw [if_pos h2, if_pos (show j < n + 1 by omega)]
    · rw [if_neg h2, if_neg (show ¬ j < n + 1 by omega)]
theorem pu_dT {k : Nat} (hk : k ≤ 1000) (h : nI k - 1 < 0) : k = 0 := by
  cases k with
  | zero => rfl
  | succ j => rw [nI_pred] at h; exact absurd h (nI_pos (by omega))
theorem pu_dF {k : Nat} (h : ¬ nI k - 1 < 0) : ∃ j, k = j + 1 := by
  cases k with
  | zero => exact absurd (by decide) h
  | succ j => exact ⟨j, rfl⟩
theorem pu_m1 (x : Int32) : x + Int32.ofInt (-1) = x - 1 := by
  rw [show Int32.ofInt (-1) = -1 from by decide, Int32.sub_eq_add_neg]
/-! ===== an hour: hs by kind of row (0 kind, 1 parent, 2 from, 3 to, 4 takes, 5 loss), wy the ways ===== -/
def pu_hs (S : vx_St) (w : Nat) : Nat → Int32 := if w < 6 then S.1 (4 + w) else fun _ => 0
def pu_W (hs : Nat → Nat → Int32) (hr br wk : Int32) (h : Nat) : Int32 := pu_want (hs 0) (hs 2) (hs 3) (hs 4) hr br wk h
def pu_G (hs : Nat → Nat → Int32) (wy : Nat → Int32) (rn hr br wk : Int32) (n : Nat) (t : Int32) : Int32 := pu_goes (hs 0) (hs 5) wy (vx_b01 rn) (pu_W hs hr br wk) t n
/-- who goes on to work, where k houses are still to be asked, the last first -/
def pu_stop (G : Int32 → Int32) (W kind : Nat → Int32) (hg : Int32) : Nat → Int32 → Int32
  | 0, t => t
  | k + 1, t => if G t ≤ hg then t else if 0 < W k ∧ ¬ kind k = 1 then pu_stop G W kind hg k (t &&& (pu_bit (nI k) ^^^ -1)) else pu_stop G W kind hg k t
def pu_set (hs : Nat → Nat → Int32) (wy : Nat → Int32) (rn hg hr br wk : Int32) (n : Nat) : Int32 := pu_stop (pu_G hs wy rn hr br wk n) (pu_W hs hr br wk) (hs 0) hg n (pu_all (nI n))
def pu_dn (hs : Nat → Nat → Int32) (wy : Nat → Int32) (rn hg hr br wk : Int32) (n : Nat) : Bool := decide (¬ pu_G hs wy rn hr br wk n (pu_set hs wy rn hg hr br wk n) ≤ hg)
def pu_feet (hs : Nat → Nat → Int32) (wy : Nat → Int32) (rn hg hr br wk : Int32) (n : Nat) : Int32 := if pu_dn hs wy rn hg hr br wk n = true then hg else pu_G hs wy rn hr br wk n (pu_set hs wy rn hg hr br wk n)
def pu_set2 (hs : Nat → Nat → Int32) (wy : Nat → Int32) (rn hg hr br wk : Int32) (n : Nat) : Int32 := if pu_dn hs wy rn hg hr br wk n = true then 0 else pu_set hs wy rn hg hr br wk n
/-- who worked, as bits; what each has taken then -/
def pu_work (wd : Nat → Int32) (t : Int32) : Nat → Int32
  | 0 => 0
  | n + 1 => if pu_in t (nI n) = true ∧ 0 < wd n then pu_work wd t n ||| pu_bit (nI n) else pu_work wd t n
def pu_took (tk wd : Nat → Int32) (t : Int32) (n : Nat) : Nat → Int32 := fun j => if j < n then (if pu_in t (nI j) = true ∧ 0 < wd j then tk j + wd j else tk j) else tk j
theorem pu_took_s1 {tk wd : Nat → Int32} {t : Int32} {n : Nat} (h1 : pu_in t (nI n) = true) (h2 : 0 < wd n) : upd (pu_took tk wd t n) n (pu_took tk wd t n n + wd n) = pu_took tk wd t (n + 1) := by
  funext j
  simp only [upd, pu_took]
  by_cases h : j = n
  · subst h
    simp [h1, h2]
  · rw [if_neg h]
    by_cases h3 : j < n
    · rw [if_pos h3, if_pos (show j < n + 1 by omega)]
    · rw [if_neg h3, if_neg (show ¬ j < n + 1 by omega)]
theorem pu_took_s2 {tk wd : Nat → Int32} {t : Int32} {n : Nat} (h1 : ¬ (pu_in t (nI n) = true ∧ 0 < wd n)) : pu_took tk wd t n = pu_took tk wd t (n + 1) := by
  funext j
  simp only [pu_took]
  by_cases h : j = n
  · subst h
    rw [if_neg (Nat.lt_irrefl j), if_pos (Nat.lt_succ_self j), if_neg h1]
  · by_cases h3 : j < n
    · rw [if_pos h3, if_pos (show j < n + 1 by omega)]
    · rw [if_neg h3, if_neg (show ¬ j < n + 1 by omega)]
theorem pu_gof_c {f g : Nat → Int32} (t : Int32) : ∀ n, (∀ j, j < n → f j = g j) → pu_gof f t n = pu_gof g t n
  | 0, _ => rfl
  | n + 1, h => by simp only [pu_gof]; rw [pu_gof_c t n (fun j hj => h j (by omega)), h n (by omega)]
theorem pu_gos_c {f g : Nat → Int32} (w : Nat → Int32) (t : Int32) : ∀ n, (∀ j, j < n → f j = g j) → pu_gos f w t n = pu_gos g w t n
  | 0, _ => rfl
  | n + 1, h => by simp only [pu_gos]; rw [pu_gos_c w t n (fun j hj => h j (by omega)), h n (by omega)]
theorem pu_work_c {f g : Nat → Int32} (t : Int32) : ∀ n, (∀ j, j < n → f j = g j) → pu_work f t n = pu_work g t n
  | 0, _ => rfl
  | n + 1, h => by simp only [pu_work]; rw [pu_work_c t n (fun j hj => h j (by omega)), h n (by omega)]
theorem pu_took_c {f g : Nat → Int32} (tk : Nat → Int32) (t : Int32) (n : Nat) (h : ∀ j, j < n → f j = g j) : pu_took tk f t n = pu_took tk g t n := by
  funext j
  simp only [pu_took]
  by_cases h3 : j < n
  · rw [if_pos h3, if_pos h3, h j h3]
  · rw [if_neg h3, if_neg h3]
theorem pu_goes_c {f g : Nat → Int32} (k ls w : Nat → Int32) (rn t : Int32) (n : Nat) (h : ∀ j, j < n → f j = g j) : pu_goes k ls w rn f t n = pu_goes k ls w rn g t n := by
  simp only [pu_goes]
  rw [pu_gof_c t n h, pu_gos_c w t n h]
/-- a day's numbers behind letWork: hangs 1, lost 3, worked 4, taken by all 8 -/
def pu_let (sc wd : Nat → Int32) (t ft : Int32) (n : Nat) : Nat → Int32 := upd (upd (upd (upd sc 4 (pu_work wd t n)) 8 (sc 8 + pu_gof wd t n)) 3 (sc 3 + (ft - pu_gof wd t n))) 1 (sc 1 - ft)
/-! ===== parts ===== -/
def pu_p0 (dp tb : Int32) (tk : Nat → Int32) (h : Nat) : Int32 := if tb ≤ 0 then 0 else dp * tk h / tb
def pu_r0 (dp tb : Int32) (tk : Nat → Int32) (h : Nat) : Int32 := if tb ≤ 0 then 0 else dp * tk h - dp * tk h / tb * tb
def pu_lf (dp tb : Int32) (tk : Nat → Int32) : Nat → Int32
  | 0 => if tb ≤ 0 then 0 else dp
  | n + 1 => pu_lf dp tb tk n - pu_p0 dp tb tk n
/-- the least place with the greatest rest -/
def pu_gr (rs : Nat → Int32) : Nat → Nat
  | 0 => 0
  | k + 1 => if rs k ≤ rs (pu_gr rs k) then pu_gr rs k else k
theorem pu_gr_lt (rs : Nat → Int32) : ∀ n, 0 < n → pu_gr rs n < n
  | 0, h => absurd h (Nat.lt_irrefl 0)
  | n + 1, _ => by
    simp only [pu_gr]
    split
    · rcases Nat.eq_zero_or_pos n with rfl | h
      · exact Nat.lt_succ_self 0
      · exact Nat.lt_succ_of_lt (pu_gr_lt rs n h)
    · exact Nat.lt_succ_self n
theorem pu_gr_1 (rs : Nat → Int32) : pu_gr rs 1 = 0 := by
  have h : pu_gr rs 1 = if rs 0 ≤ rs (pu_gr rs 0) then pu_gr rs 0 else 0 := rfl
  rw [h]
  split <;> rfl
def pu_give (n : Nat) : Nat → (Nat → Int32) → (Nat → Int32) → Int32 → (Nat → Int32)
  | 0, p, _, _ => p
  | k + 1, p, r, lf => if lf ≤ 0 then p else pu_give n k (upd p (pu_gr r n) (p (pu_gr r n) + 1)) (upd r (pu_gr r n) (-1)) (lf - 1)
def pu_pts (dp tb : Int32) (tk po ro : Nat → Int32) (n : Nat) : Nat → Int32 := pu_give n n (pu_fill (pu_p0 dp tb tk) po n) (pu_fill (pu_r0 dp tb tk) ro n) (pu_lf dp tb tk n)
def pu_mn (x : Int32) : Int32 := if x < 999 then x else 999
theorem pu_isA_1 (kind : Nat → Int32) (h : Nat) : pu_isA kind h 1 = decide (kind h = 1) := by
  unfold pu_isA
  rw [show decide ((1 : Int32) = 0) = false from by decide, show decide ((1 : Int32) = 2) = false from by decide]
  simp
theorem pu_let_c {f g : Nat → Int32} (sc : Nat → Int32) (t ft : Int32) (n : Nat) (h : ∀ j, j < n → f j = g j) : pu_let sc f t ft n = pu_let sc g t ft n := by
  simp only [pu_let]
  rw [pu_work_c t n h, pu_gof_c t n h]
/-- a day's numbers behind an hour -/
def pu_nx (hs : Nat → Nat → Int32) (wy sc : Nat → Int32) (n : Nat) : Nat → Int32 :=
  upd (pu_let (if pu_dn hs wy (sc 6) (sc 1) (sc 2) (sc 5) (sc 4) n = true then upd sc 7 1 else sc) (pu_W hs (sc 2) (sc 5) (sc 4)) (pu_set2 hs wy (sc 6) (sc 1) (sc 2) (sc 5) (sc 4) n) (pu_feet hs wy (sc 6) (sc 1) (sc 2) (sc 5) (sc 4) n) n) 2 (sc 2 + 1)
theorem pu_Gof {S S2 : vx_St} {d n : Nat} (hd : d = 11 ∨ d = 20 ∨ d = 26) (hc : pu_chg S S2 [d + 3]) (hw : S2.1 (d + 3) = pu_fill (pu_W (pu_hs S) (S.1 d 2) (S.1 d 5) (S.1 d 4)) (S.1 (d + 3)) n) (t : Int32) : pu_goes (S2.1 4) (S2.1 9) (S2.1 10) (vx_b01 (S2.1 d 6)) (S2.1 (d + 3)) t n = pu_G (pu_hs S) (S.1 10) (S.1 d 6) (S.1 d 2) (S.1 d 5) (S.1 d 4) n t := by
  rw [hc.2 4 (by simp only [List.mem_cons, List.not_mem_nil, or_false, not_or]; omega), hc.2 9 (by simp only [List.mem_cons, List.not_mem_nil, or_false, not_or]; omega), hc.2 10 (by simp only [List.mem_cons, List.not_mem_nil, or_false, not_or]; omega), hc.2 d (by simp only [List.mem_cons, List.not_mem_nil, or_false, not_or]; omega), hw]
  exact pu_goes_c _ _ _ _ _ _ (fun j hj => pu_fill_in hj)
def pu_ngt (sc : Nat → Int32) : Nat → Int32 := upd (upd (upd (upd (upd (upd sc 2 0) 1 (sc 0)) 8 0) 3 0) 4 0) 7 0
