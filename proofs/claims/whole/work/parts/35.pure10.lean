/-! ===== who took what is missing ===== -/
theorem pq_openIn {fr to : Nat → Int32} (hto : ∀ j, ∃ a, a ≤ 9 ∧ to j = nI a) (hr : Int32) : ∀ n, pm_openIn fr to hr n = pu_openIn fr to hr n
  | 0 => rfl
  | n + 1 => by
    have e : (decide (hr < 9) && pu_open fr to hr n) = pu_open fr to hr n := by
      cases q : pu_open fr to hr n with
      | false => simp
      | true =>
        obtain ⟨a, ha, e⟩ := hto n
        simp only [pu_open, Bool.and_eq_true, decide_eq_true_eq] at q
        have z := q.2
        rw [e, Int32.lt_iff_toInt_lt, nI_toInt (by omega)] at z
        have : hr < 9 := by rw [Int32.lt_iff_toInt_lt, show (9 : Int32).toInt = 9 from by decide]; omega
        simp [this]
    rw [pm_openIn, pu_openIn, e, pq_openIn hto hr n]
theorem pq_ms_gt {ok : Nat → Bool} {a0 : Int32} {o : Nat} : ∀ i, o ≤ i → (∀ k, o < k → k ≤ i → ok k = false) → pu_ms ok a0 i = pu_ms ok a0 o
  | 0, h, _ => by rw [show o = 0 by omega]
  | i + 1, h, hk => by
    rcases Nat.lt_or_ge o (i + 1) with q | q
    · rw [pu_ms, if_neg (by rw [hk (i + 1) q (Nat.le_refl _)]; decide)]
      exact pq_ms_gt i (by omega) (fun k h1 h2 => hk k h1 (by omega))
    · rw [show o = i + 1 by omega]
theorem pq_ms_ab {ok : Nat → Bool} {a0 b0 : Int32} : ∀ i, (∀ k, k ≤ i → ok k = true → a0 &&& nI k = nI k ∧ b0 &&& nI k = nI k) → (pu_ms ok a0 i).1 = (pu_ms ok b0 i).1 ∧ (pu_ms ok a0 i).2.2 = (pu_ms ok b0 i).2.2 ∧ ((pu_ms ok a0 i).1 = 0 → (pu_ms ok a0 i).2.1 = a0 ∧ (pu_ms ok b0 i).2.1 = b0 ∧ (pu_ms ok a0 i).2.2 = 0) ∧ (¬ (pu_ms ok a0 i).1 = 0 → (pu_ms ok a0 i).2.1 = (pu_ms ok b0 i).2.1)
  | 0, _ => ⟨rfl, rfl, fun _ => ⟨rfl, rfl, rfl⟩, fun h => absurd rfl h⟩
  | i + 1, h => by
    obtain ⟨h1, h2, h3, h4⟩ := pq_ms_ab i (fun k hk => h k (by omega))
    rw [pu_ms, pu_ms]
    by_cases q : ok (i + 1) = true
    · rw [if_pos q, if_pos q]
      obtain ⟨g1, g2⟩ := h (i + 1) (Nat.le_refl _) q
      refine ⟨by rw [h1], by rw [h2], fun z => absurd z (Nat.succ_ne_zero _), fun _ => ?_⟩
      by_cases w : (pu_ms ok a0 i).1 = 0
      · obtain ⟨k1, k2, _⟩ := h3 w
        show _ &&& _ = _ &&& _
        rw [k1, k2, g1, g2]
      · show _ &&& _ = _ &&& _
        rw [h4 w]
    · rw [if_neg q, if_neg q]
      exact ⟨h1, h2, h3, h4⟩
theorem pq_sub {o k : Nat} (h : nI k &&& (nI o ^^^ -1) = 0) : nI o &&& nI k = nI k := by
  apply b_ext
  intro i hi
  have z : bt (nI k &&& (nI o ^^^ -1)) i = false := by rw [h, b_0]
  rw [b_and, pq_not _ hi] at z
  rw [b_and]
  cases q : bt (nI k) i <;> cases w : bt (nI o) i <;> rw [q, w] at z <;> first | rfl | cases z
theorem pq_ms {n o : Nat} (hn : n ≤ 8) (ho : o < 2 ^ n) {tk : Nat → Int32} {f w : Int32} (hB : aw_msB f w = true) : am_ms (pu_ms (pu_msok tk n (nI o) f) (nI (2 ^ n - 1)) (2 ^ n - 1)) w = aw_ms (pu_ms (pu_msok tk n (nI o) f) (nI o) o) w := by
  have h2 := pu_2n n hn
  have hok : ∀ k, pu_msok tk n (nI o) f k = true → nI o &&& nI k = nI k := fun k q => by
    simp only [pu_msok, Bool.and_eq_true, decide_eq_true_eq] at q
    exact pq_sub q.1
  have hle : ∀ k, k ≤ 255 → pu_msok tk n (nI o) f k = true → k ≤ o := fun k hk q => by
    have e := hok k q
    rw [fa_and, nI_eq (Nat.lt_of_le_of_lt Nat.and_le_right (by omega)) (by omega)] at e
    rw [← e]
    exact Nat.and_le_left
  have hgt := pq_ms_gt (ok := pu_msok tk n (nI o) f) (a0 := nI (2 ^ n - 1)) (o := o) (2 ^ n - 1) (by omega) (fun k h1 h3 => ts_nt (fun q => absurd (hle k (by omega) q) (by omega)))
  obtain ⟨h1, h3, h4, h5⟩ := pq_ms_ab (ok := pu_msok tk n (nI o) f) (a0 := nI o) (b0 := nI (2 ^ n - 1)) o (fun k hk q => ⟨hok k q, by
    apply b_ext
    intro i hi
    rw [b_and, ← pu_all_nI n hn, pq_all n hn i hi]
    by_cases z : bt (nI k) i = true
    · rw [z, decide_eq_true (pq_bits hn (show k < 2 ^ n by omega) i hi z)]; rfl
    · rw [ts_nt z]; simp⟩)
  rw [hgt]
  have hw : w = 0 ∨ w = 1 ∨ w = 2 := by
    simp only [aw_msB, Bool.and_eq_true, decide_eq_true_eq, Int32.le_iff_toInt_le] at hB
    have a := hB.2.1
    have b := hB.2.2
    rw [show (0 : Int32).toInt = 0 from by decide] at a
    rw [show (2 : Int32).toInt = 2 from by decide] at b
    rcases (show w.toInt = 0 ∨ w.toInt = 1 ∨ w.toInt = 2 by omega) with q | q | q
    · exact Or.inl (Int32.toInt_inj.mp (by rw [q]; decide))
    · exact Or.inr (Or.inl (Int32.toInt_inj.mp (by rw [q]; decide)))
    · exact Or.inr (Or.inr (Int32.toInt_inj.mp (by rw [q]; decide)))
  rw [am_ms, aw_ms, ← h1, ← h3]
  by_cases q : (pu_ms (pu_msok tk n (nI o) f) (nI o) o).1 = 0
  · rw [if_pos (Or.inl q), if_pos q, (h4 q).2.2, q]
    rcases hw with rfl | rfl | rfl <;> rfl
  · rw [if_neg q, ← h5 q]
    rcases hw with rfl | rfl | rfl
    · rw [if_pos rfl, if_pos (Or.inr rfl)]
    · rw [if_neg (by decide), if_neg (by decide), if_neg (fun z => z.elim q (by decide)), if_pos rfl]
    · rw [if_neg (by decide), if_pos rfl, if_neg (fun z => z.elim q (by decide)), if_neg (by decide)]
/-! ===== letters ===== -/
theorem pq_b64 (y : Int64) {j : Nat} (hj : j < 32) : bt y.toInt32 j = y.toBitVec.getLsbD j := by
  unfold bt
  rw [Int64.toBitVec_toInt32, BitVec.getLsbD_signExtend]
  simp [hj, show j < 64 by omega]
theorem pq_s8 : ∀ i, i < 8 → ((((8 : Int32) * nI i).toInt64 &&& 63).toBitVec.smod 64).toNat = 8 * i := by decide +kernel
theorem pq_u8 : ∀ i, i < 8 → ((((8 : Int32) * nI i).toInt64.toUInt64 &&& Int64.toUInt64 63).toBitVec % 64).toNat = 8 * i := by decide +kernel
theorem pq_shs (w : Int64) {i j : Nat} (hi : i < 8) (hj : j < 8) : (w >>> (((8 : Int32) * nI i).toInt64 &&& 63)).toBitVec.getLsbD j = w.toBitVec.getLsbD (8 * i + j) := by
  rw [Int64.toBitVec_shiftRight, BitVec.sshiftRight', pq_s8 i hi, BitVec.getLsbD_sshiftRight]
  simp [show ¬ 64 ≤ j by omega, show 8 * i + j < 64 by omega]
theorem pq_shu (w : Int64) {i j : Nat} (hi : i < 8) (hj : j < 8) : ((w.toUInt64 >>> (((8 : Int32) * nI i).toInt64.toUInt64 &&& Int64.toUInt64 63)).toInt64).toBitVec.getLsbD j = w.toBitVec.getLsbD (8 * i + j) := by
  show (w.toUInt64 >>> _).toBitVec.getLsbD j = _
  rw [UInt64.toBitVec_shiftRight, BitVec.ushiftRight_eq', pq_u8 i hi, BitVec.getLsbD_ushiftRight]
  rfl
theorem pq_c255 (y : Int64) : (y &&& 255).toInt32 = y.toInt32 &&& 255 := by
  apply b_ext
  intro j hj
  rw [b_and, pq_b64 _ hj, pq_b64 _ hj, Int64.toBitVec_and, BitVec.getLsbD_and]
  congr 1
theorem pq_code (w : Int64) {i : Nat} (hi : i < 8) : pm_code w (nI i) = pu_code w (nI i) := by
  rw [pm_code, pu_code, pq_c255]
  apply b_ext
  intro j hj
  rw [b_and, b_and, b_255]
  by_cases q : j < 8
  · rw [pq_b64 _ hj, pq_b64 _ hj, pq_shs w hi q, pq_shu w hi q]
  · rw [decide_eq_false q]; simp
theorem pq_byte (w : Int64) {i : Nat} {v : Nat} (hv : v ≤ 126) (h : pm_code w (nI i) = nI v) : pm_byte w (nI i) = nI v := by
  rw [pm_byte, pk_vb, ← fa_byte_low, ← pq_c255]
  rw [pm_code] at h
  rw [h, fa_byte_small (by omega)]
theorem pq_okl_c {c d : Nat → Int32} : ∀ i, (∀ j, j < i → c j = d j) → pu_okl c i = pu_okl d i ∧ pu_many c i = pu_many d i ∧ pu_end c i = pu_end d i
  | 0, _ => ⟨rfl, rfl, rfl⟩
  | i + 1, h => by
    obtain ⟨h1, h2, h3⟩ := pq_okl_c i (fun j hj => h j (by omega))
    simp only [pu_okl, pu_many, pu_end, h1, h2, h3, h i (by omega)]
    exact ⟨trivial, trivial, trivial⟩
theorem pq_okl_le {c : Nat → Int32} : ∀ i, pu_okl c i = true → ∀ j, j < i → ¬ 126 < c j
  | 0, _, j, hj => absurd hj (Nat.not_lt_zero j)
  | i + 1, h, j, hj => by
    simp only [pu_okl, Bool.and_eq_true, Bool.not_eq_true', Bool.or_eq_false_iff, decide_eq_false_iff_not] at h
    rcases Nat.lt_or_ge j i with q | q
    · exact pq_okl_le i h.1 j q
    · rw [show j = i by omega]; exact h.2.1
theorem pq_cN (w : Int64) (p : Int32) (h : ¬ 126 < pu_code w p) : ∃ v, v ≤ 126 ∧ pu_code w p = nI v := by
  obtain ⟨j, hj, e⟩ := pk_andE ((w.toUInt64 >>> (((8 : Int32) * p).toInt64.toUInt64 &&& Int64.toUInt64 63)).toInt64.toInt32) (m := 255) 8 (by decide)
  refine ⟨j, ?_, e⟩
  rw [pu_code, e] at h
  rw [show (126 : Int32) = nI 126 from rfl, nI_ltI (by decide) (by omega)] at h
  omega
/-! ===== does a letter fit ===== -/
theorem pq_f0 : ∀ v, v < 127 → decide (0 ≤ pu_kind (nI v)) = decide (¬ pm_kind (nI v) = -1) := by decide +kernel
theorem pq_kd : ∀ v, v < 127 → pu_kind (nI v) = pm_kind (nI v) := by decide +kernel
theorem pq_f1 : ∀ v, v < 127 → ∀ n, n < 9 → (decide (nI v = 45) || pu_dig (nI v) 0 (nI n - 1)) = (decide (nI v = 45) || pm_wi (nI v) 48 (47 + nI n)) := by decide +kernel
theorem pq_f2 : ∀ v, v < 127 → pu_dig (nI v) 0 8 = pm_wi (nI v) 48 56 := by decide +kernel
theorem pq_f3 : ∀ v, v < 127 → ∀ u, u < 57 → 48 ≤ u → pu_dig (nI v) (nI u - 48 + 1) 9 = (pm_wi (nI v) 49 57 && decide (¬ nI v ≤ nI u)) := by decide +kernel
theorem pq_f4 : ∀ v, v < 127 → pu_dig (nI v) 1 9 = pm_wi (nI v) 49 57 := by decide +kernel
theorem pq_f5 : ∀ v, v < 127 → pu_dig (nI v) 0 9 = pm_wi (nI v) 48 57 := by decide +kernel
theorem pq_g1 : ∀ v, v < 127 → ∀ n, n < 9 → (decide (nI v = 45) || pu_dig (nI v) 0 (nI n - 1)) = true → v = 45 ∨ (48 ≤ v ∧ v < 48 + n) := by decide +kernel
theorem pq_g2 : ∀ v, v < 127 → pu_dig (nI v) 0 8 = true → 48 ≤ v ∧ v < 57 := by decide +kernel
theorem pq_g3 : ∀ v, v < 127 → ∀ u, u < 57 → 48 ≤ u → pu_dig (nI v) (nI u - 48 + 1) 9 = true → 49 ≤ v ∧ v < 58 := by decide +kernel
theorem pq_g4 : ∀ v, v < 127 → pu_dig (nI v) 1 9 = true → 49 ≤ v ∧ v < 58 := by decide +kernel
theorem pq_g5 : ∀ v, v < 127 → pu_dig (nI v) 0 9 = true → 48 ≤ v ∧ v < 58 := by decide +kernel
theorem pq_fits {cd : Nat → Int32} (hc : ∀ k, ∃ v, v ≤ 126 ∧ cd k = nI v) {n : Nat} (hn : n ≤ 8) (i : Nat) (hb : ∀ j, j < i → pu_fits cd (nI n) j = true) : pu_fits cd (nI n) i = pm_may cd (nI n) i (cd i) := by
  obtain ⟨v, hv, e⟩ := hc i
  rcases (show i = 0 ∨ i = 1 ∨ i = 2 ∨ i = 3 ∨ i = 4 ∨ i = 5 ∨ 6 ≤ i by omega) with rfl | rfl | rfl | rfl | rfl | rfl | h
  · simp only [pu_fits, pm_may, if_true, e]; exact pq_f0 v (by omega)
  · simp only [pu_fits, pm_may, e]; exact pq_f1 v (by omega) n (by omega)
  · simp only [pu_fits, pm_may, e]; exact pq_f2 v (by omega)
  · obtain ⟨u, hu, e2⟩ := hc 2
    have g := hb 2 (by omega)
    simp only [pu_fits, e2] at g
    have g2 := pq_g2 u (by omega) g
    simp only [pu_fits, pm_may, e, e2]; exact pq_f3 v (by omega) u g2.2 g2.1
  · simp only [pu_fits, pm_may, e]; exact pq_f4 v (by omega)
  · simp only [pu_fits, pm_may, e]; exact pq_f5 v (by omega)
  · simp only [pu_fits, pm_may, show ¬ i = 0 by omega, show ¬ i = 1 by omega, show ¬ i = 2 by omega, show ¬ i = 3 by omega, show ¬ i = 4 by omega, show ¬ i = 5 by omega, if_false]
theorem pq_fst_c {p q : Nat → Bool} : ∀ s, (∀ j, j < s → (∀ i, i < j → p i = true) → p j = q j) → pu_fst p s = pu_fst q s ∧ (pu_fst p s = s → ∀ i, i < s → p i = true)
  | 0, _ => ⟨rfl, fun _ i hi => absurd hi (Nat.not_lt_zero i)⟩
  | s + 1, h => by
    obtain ⟨h1, h2⟩ := pq_fst_c s (fun j hj => h j (by omega))
    have hle := pu_fst_le p s
    rw [pu_fst, pu_fst, ← h1]
    by_cases w : pu_fst p s < s
    · rw [if_pos w, if_pos w]
      exact ⟨rfl, fun z => by omega⟩
    · have e : pu_fst p s = s := by omega
      rw [if_neg w, if_neg w, h s (Nat.lt_succ_self s) (h2 e)]
      refine ⟨rfl, fun z i hi => ?_⟩
      by_cases v : q s = true
      · rcases Nat.lt_or_ge i s with u | u
        · exact h2 e i u
        · rw [show i = s by omega, h s (Nat.lt_succ_self s) (h2 e)]; exact v
      · rw [if_neg v] at z
        omega
