/-! ===== parts: the greatest rests first, or by rank ===== -/
def pq_ct (r : Nat → Int32) (j : Nat) : Nat → Nat
  | 0 => 0
  | i + 1 => if r j < r i ∨ (r i = r j ∧ i < j) then pq_ct r j i + 1 else pq_ct r j i
def pq_nn (r : Nat → Int32) : Nat → Nat
  | 0 => 0
  | i + 1 => if 0 ≤ r i then pq_nn r i + 1 else pq_nn r i
theorem pq_gr (r : Nat → Int32) : ∀ n, 0 < n → (∀ j, j < n → r j ≤ r (pu_gr r n)) ∧ ∀ j, j < pu_gr r n → r j < r (pu_gr r n)
  | 0, h => absurd h (Nat.lt_irrefl 0)
  | n + 1, _ => by
    rcases Nat.eq_zero_or_pos n with rfl | h
    · rw [pu_gr_1]
      exact ⟨fun j hj => by rw [show j = 0 by omega, fa_le]; omega, fun j hj => absurd hj (Nat.not_lt_zero j)⟩
    · obtain ⟨h1, h2⟩ := pq_gr r n h
      rw [pu_gr]
      split
      · rename_i q
        exact ⟨fun j hj => by
          rcases Nat.lt_or_ge j n with w | w
          · exact h1 j w
          · rw [show j = n by omega]; exact q, h2⟩
      · rename_i q
        rw [fa_le] at q
        refine ⟨fun j hj => ?_, fun j hj => ?_⟩
        · rcases Nat.lt_or_ge j n with w | w
          · have := h1 j w
            rw [fa_le] at this ⊢
            omega
          · rw [show j = n by omega, fa_le]; omega
        · have := h1 j hj
          rw [fa_le] at this
          rw [fa_lt]
          omega
theorem pq_ct0 {r : Nat → Int32} {i : Nat} : ∀ n, (∀ j, j < n → r j ≤ r i) → (∀ j, j < i → r j < r i) → pq_ct r i n = 0
  | 0, _, _ => rfl
  | n + 1, h1, h2 => by
    rw [pq_ct, if_neg, pq_ct0 n (fun j hj => h1 j (by omega)) h2]
    intro z
    have a := h1 n (by omega)
    rw [fa_le] at a
    rcases z with z | ⟨z1, z2⟩
    · rw [fa_lt] at z; omega
    · have b := h2 n z2
      rw [z1, fa_lt] at b
      omega
theorem pq_m1t : (-1 : Int32).toInt = -1 := by decide
theorem pq_0t : (0 : Int32).toInt = 0 := by decide
theorem pq_ct_o {r : Nat → Int32} {i j : Nat} (hj : j ≠ i) : ∀ n, n ≤ i → pq_ct (upd r i (-1)) j n = pq_ct r j n
  | 0, _ => rfl
  | n + 1, h => by
    rw [pq_ct, pq_ct, pq_ct_o hj n (by omega), pk_un hj, pk_un (show n ≠ i by omega)]
theorem pq_ct_u {r : Nat → Int32} {i j : Nat} (hj : j ≠ i) (h0 : 0 ≤ r j) (hc : r j < r i ∨ (r i = r j ∧ i < j)) : ∀ n, i < n → pq_ct (upd r i (-1)) j n + 1 = pq_ct r j n
  | 0, h => absurd h (Nat.not_lt_zero i)
  | n + 1, h => by
    rw [pq_ct, pq_ct, pk_un hj]
    rcases Nat.lt_or_ge i n with q | q
    · rw [pk_un (show n ≠ i by omega)]
      have ih := pq_ct_u hj h0 hc n q
      split <;> omega
    · obtain rfl : i = n := by omega
      rw [pk_us, if_pos hc, if_neg, pq_ct_o hj i (Nat.le_refl i)]
      intro z
      rw [fa_le, pq_0t] at h0
      rcases z with z | z
      · rw [fa_lt, pq_m1t] at z; omega
      · have := z.1
        rw [fa_eq, pq_m1t] at this
        omega
theorem pq_nn_o {r : Nat → Int32} {i : Nat} (x : Int32) : ∀ n, n ≤ i → pq_nn (upd r i x) n = pq_nn r n
  | 0, _ => rfl
  | n + 1, h => by rw [pq_nn, pq_nn, pq_nn_o x n (by omega), pk_un (show n ≠ i by omega)]
theorem pq_nn_u {r : Nat → Int32} {i : Nat} (h0 : 0 ≤ r i) : ∀ n, i < n → pq_nn (upd r i (-1)) n + 1 = pq_nn r n
  | 0, h => absurd h (Nat.not_lt_zero i)
  | n + 1, h => by
    rw [pq_nn, pq_nn]
    rcases Nat.lt_or_ge i n with q | q
    · rw [pk_un (show n ≠ i by omega)]
      have ih := pq_nn_u h0 n q
      split <;> omega
    · obtain rfl : i = n := by omega
      rw [pk_us, if_pos h0, if_neg (by decide), pq_nn_o _ i (Nat.le_refl i)]
theorem pq_nn_ex {r : Nat → Int32} : ∀ n, 0 < pq_nn r n → ∃ j, j < n ∧ 0 ≤ r j
  | 0, h => absurd h (Nat.lt_irrefl 0)
  | n + 1, h => by
    rw [pq_nn] at h
    by_cases q : 0 ≤ r n
    · exact ⟨n, by omega, q⟩
    · rw [if_neg q] at h
      obtain ⟨j, h1, h2⟩ := pq_nn_ex n h
      exact ⟨j, by omega, h2⟩
theorem pq_give {n : Nat} : ∀ (k lf : Nat) (p r : Nat → Int32), lf ≤ k → k ≤ 1000 → lf ≤ pq_nn r n → ∀ j, j < n → pu_give n k p r (nI lf) j = if 0 ≤ r j ∧ pq_ct r j n < lf then p j + 1 else p j
  | 0, lf, p, r, h, _, _, j, _ => by
    obtain rfl : lf = 0 := by omega
    rw [pu_give, if_neg (fun z => absurd z.2 (Nat.not_lt_zero _))]
  | k + 1, 0, p, r, _, _, _, j, _ => by
    rw [pu_give, if_pos (by decide), if_neg (fun z => absurd z.2 (Nat.not_lt_zero _))]
  | k + 1, l + 1, p, r, h, hk, hnn, j, hj => by
    obtain ⟨x, hx, hx0⟩ := pq_nn_ex n (show 0 < pq_nn r n by omega)
    obtain ⟨g1, g2⟩ := pq_gr r n (by omega)
    have gl := pu_gr_lt r n (by omega)
    rw [pu_give, if_neg (nI_nle (by omega) (by omega)), nI_pred]
    generalize pu_gr r n = i at g1 g2 gl
    have i0 : 0 ≤ r i := by
      have := g1 x hx
      rw [fa_le] at this hx0 ⊢
      omega
    have hu := pq_nn_u i0 n gl
    rw [pq_give k l _ _ (by omega) (by omega) (by omega) j hj]
    by_cases e : j = i
    · subst e
      rw [pk_us, pk_us, if_neg (fun z => absurd z.1 (by decide)), if_pos ⟨i0, by rw [pq_ct0 n g1 g2]; omega⟩]
    · rw [pk_un e, pk_un e]
      by_cases w : 0 ≤ r j
      · have hc : r j < r i ∨ (r i = r j ∧ i < j) := by
          have a := g1 j hj
          rw [fa_le] at a
          rcases Nat.lt_or_ge j i with q | q
          · exact Or.inl (g2 j q)
          · by_cases v : r i = r j
            · exact Or.inr ⟨v, by omega⟩
            · left
              rw [fa_eq] at v
              rw [fa_lt]
              omega
        have hct := pq_ct_u e w hc n gl
        by_cases v : pq_ct r j n < l + 1
        · rw [if_pos ⟨w, by omega⟩, if_pos ⟨w, v⟩]
        · rw [if_neg (fun z => v (by omega)), if_neg (fun z => v z.2)]
      · rw [if_neg (fun z => w z.1), if_neg (fun z => w z.1)]
theorem pq_ct_c {r r2 : Nat → Int32} {j : Nat} (e : r j = r2 j) : ∀ n, (∀ i, i < n → r i = r2 i) → pq_ct r j n = pq_ct r2 j n
  | 0, _ => rfl
  | n + 1, h => by rw [pq_ct, pq_ct, pq_ct_c e n (fun i hi => h i (by omega)), e, h n (by omega)]
theorem pq_ahd (dp al : Int32) (tk : Nat → Int32) (k : Nat) : ∀ n, pm_ahd dp al tk k n = pq_ct (pm_r dp al tk) k n
  | 0 => rfl
  | n + 1 => by rw [pm_ahd, pq_ct, pq_ahd dp al tk k n]
theorem pq_smN {f : Nat → Int32} {F : Nat → Nat} : ∀ n, (∀ j, j < n → f j = nI (F j)) → pm_sm f n = nI (fb_sm F n)
  | 0, _ => rfl
  | n + 1, h => by rw [pm_sm, pq_smN n (fun j hj => h j (by omega)), h n (by omega), nI_add]; rfl
theorem pq_div_sum (d T : Nat) (t : Nat → Nat) : ∀ n, T * fb_sm (fun j => d * t j / T) n + fb_sm (fun j => d * t j % T) n = d * fb_sm t n
  | 0 => by simp [fb_sm]
  | n + 1 => by
    have ih := pq_div_sum d T t n
    have e := Nat.div_add_mod (d * t n) T
    simp only [fb_sm_succ]
    rw [Nat.mul_add, Nat.mul_add]
    omega
theorem pq_lfN {d T : Nat} {t : Nat → Nat} {tk : Nat → Int32} (hT0 : 0 < T) (hT : T ≤ 1000) (hd : d ≤ 1000) (ht : ∀ j, t j ≤ 1000) : ∀ n, (∀ j, j < n → tk j = nI (t j)) → fb_sm (fun j => d * t j / T) n ≤ d → pu_lf (nI d) (nI T) tk n = nI (d - fb_sm (fun j => d * t j / T) n)
  | 0, _, _ => by rw [pu_lf, if_neg (nI_nle hT0 (by omega))]; rfl
  | n + 1, h, hs => by
    simp only [fb_sm_succ] at hs ⊢
    have hm : d * t n ≤ 1000 * 1000 := Nat.mul_le_mul hd (ht n)
    obtain ⟨qn, hqn⟩ : ∃ q, q = d * t n / T := ⟨_, rfl⟩
    rw [← hqn] at hs ⊢
    rw [pu_lf, pq_lfN hT0 hT hd ht n (fun j hj => h j (by omega)) (by omega), pu_p0, if_neg (nI_nle hT0 (by omega)), h n (by omega), pk_mul, pk_div (by omega) hT0 (by omega), ← hqn, pk_sub (by omega)]
    congr 1
    omega
theorem pq_nn_all {r : Nat → Int32} : ∀ n, (∀ j, j < n → 0 ≤ r j) → pq_nn r n = n
  | 0, _ => rfl
  | n + 1, h => by rw [pq_nn, if_pos (h n (by omega)), pq_nn_all n (fun j hj => h j (by omega))]
theorem pq_part {n d T : Nat} {t : Nat → Nat} {tk tk2 : Nat → Int32} (hn : n ≤ 8) (h1 : ∀ j, j < n → tk j = nI (t j)) (h2 : ∀ j, j < n → tk2 j = nI (t j)) (ht : ∀ j, t j ≤ 1000) (hTe : fb_sm t n = T) (hT : T ≤ 1000) (hd : d ≤ 1000) (po ro : Nat → Int32) {k : Nat} (hk : k < n) : pu_pts (nI d) (nI T) tk po ro n k = pm_part (nI d) tk2 n k := by
  have hsm : pm_sm tk2 n = nI T := by rw [pq_smN n h2, hTe]
  rw [pm_part, hsm]
  rcases Nat.eq_zero_or_pos T with q | q
  · subst q
    rw [if_pos (show nI 0 = 0 from rfl), pu_pts]
    have hp : ∀ j, pu_p0 (nI d) (nI 0) tk j = 0 := fun j => by rw [pu_p0, if_pos (by decide)]
    have hl : pu_lf (nI d) (nI 0) tk n = 0 := by
      have : ∀ m, pu_lf (nI d) (nI 0) tk m = 0 := by
        intro m
        induction m with
        | zero => rw [pu_lf, if_pos (by decide)]
        | succ m ih => rw [pu_lf, ih, hp]; rfl
      exact this n
    rw [hl]
    cases n with
    | zero => exact absurd hk (Nat.not_lt_zero k)
    | succ m => rw [pu_give, if_pos (by decide), pu_fill_in hk, hp]
  · have hm : ∀ j, d * t j ≤ 1000 * 1000 := fun j => Nat.mul_le_mul hd (ht j)
    have hq : ∀ j, j < n → pm_q (nI d) (nI T) tk2 j = nI (d * t j / T) := fun j hj => by rw [pm_q, h2 j hj, pk_mul, pk_div (by have := hm j; omega) q (by omega)]
    have hr2 : ∀ j, j < n → pm_r (nI d) (nI T) tk2 j = nI (d * t j % T) := fun j hj => by rw [pm_r, h2 j hj, pk_mul, pk_rem (by have := hm j; omega) q (by omega)]
    have hr : ∀ j, j < n → pu_fill (pu_r0 (nI d) (nI T) tk) ro n j = nI (d * t j % T) := fun j hj => by rw [pu_fill_in hj, pu_r0, if_neg (nI_nle q (by omega)), h1 j hj, pk_mul, pk_rem (by have := hm j; omega) q (by omega)]
    have hsum := pq_div_sum d T t n
    rw [hTe] at hsum
    have hsq : fb_sm (fun j => d * t j / T) n ≤ d := by
      rcases Nat.lt_or_ge d (fb_sm (fun j => d * t j / T) n) with w | w
      · have : T * (d + 1) ≤ T * fb_sm (fun j => d * t j / T) n := Nat.mul_le_mul_left T w
        rw [Nat.mul_add, Nat.mul_one, Nat.mul_comm T d] at this
        omega
      · exact w
    have hrs : fb_sm (fun j => d * t j % T) n ≤ n * (T - 1) := fb_sm_bound (fun j _ => by have := Nat.mod_lt (d * t j) q; omega)
    have hleft : d - fb_sm (fun j => d * t j / T) n ≤ n := by
      rcases Nat.lt_or_ge n (d - fb_sm (fun j => d * t j / T) n) with w | w
      · exfalso
        have a : T * (n + 1) ≤ T * (d - fb_sm (fun j => d * t j / T) n) := Nat.mul_le_mul_left T w
        rw [Nat.mul_sub] at a
        have b : n * (T - 1) ≤ n * T := Nat.mul_le_mul_left n (by omega)
        rw [Nat.mul_add, Nat.mul_one] at a
        rw [Nat.mul_comm T n] at a
        rw [Nat.mul_comm d T] at hsum
        omega
      · exact w
    have hnn : pq_nn (pu_fill (pu_r0 (nI d) (nI T) tk) ro n) n = n := pq_nn_all n (fun j hj => by rw [hr j hj]; exact nI_pos' (by have := Nat.mod_lt (d * t j) q; omega))
    rw [if_neg (nI_ne0 q (by omega)), pu_pts, pq_lfN q hT hd ht n h1 hsq, pq_give n _ _ _ hleft (by omega) (by rw [hnn]; exact hleft) k hk]
    have hct : pq_ct (pu_fill (pu_r0 (nI d) (nI T) tk) ro n) k n = pq_ct (pm_r (nI d) (nI T) tk2) k n := pq_ct_c (by rw [hr k hk, hr2 k hk]) n (fun i hi => by rw [hr i hi, hr2 i hi])
    have hp : pu_fill (pu_p0 (nI d) (nI T) tk) po n k = nI (d * t k / T) := by rw [pu_fill_in hk, pu_p0, if_neg (nI_nle q (by omega)), h1 k hk, pk_mul, pk_div (by have := hm k; omega) q (by omega)]
    have hsm2 : pm_sm (pm_q (nI d) (nI T) tk2) n = nI (fb_sm (fun j => d * t j / T) n) := pq_smN n hq
    rw [hp, hct, hq k hk, hsm2, pk_sub hsq, pq_ahd]
    have hcl := pm_ahd_le (nI d) (nI T) tk2 k n
    rw [pq_ahd] at hcl
    by_cases w : pq_ct (pm_r (nI d) (nI T) tk2) k n < d - fb_sm (fun j => d * t j / T) n
    · rw [if_pos ⟨by rw [hr k hk]; exact nI_pos' (by have := Nat.mod_lt (d * t k) q; omega), w⟩, if_pos ((nI_ltI (by omega) (by omega)).mpr w)]
    · rw [if_neg (fun z => w z.2), if_neg (fun z => w ((nI_ltI (by omega) (by omega)).mp z)), pm_add0]
theorem pq_mn (x : Int32) : pu_mn x = pm_mn x := by
  rw [pu_mn, pm_mn]
  by_cases h : x < 999
  · rw [if_pos h, if_pos (fa_of_lt h).1]
  · rw [if_neg h]
    split
    · rename_i q
      rw [fa_le] at q
      rw [fa_lt] at h
      exact (Int32.toInt_inj.mp (by omega))
    · rfl
