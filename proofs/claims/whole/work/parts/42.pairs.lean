/-! ===== for each call: both contracts, and that the answers are the same ===== -/
theorem pr_letters (l : Launch) (g : vx_G) {S : vx_St} (j : ivz S) (w : Int64) : ∃ P1 : Int32 → vx_St → Prop, vx_M l g yX4_letters cX4_letters 4 (some .int) (vx_R 2 47) [.ref (g.2.2.1 0), .long w] S (vx_pi P1) ∧ ∀ r1 S1, P1 r1 S1 → ∃ P2 : Int32 → vx_St → Prop, vx_M l g yX5_letters cX5_letters 7 (some .int) (vx_R 0 0) [.ref (g.2.2.1 35), .long w] S1 (vx_pi P2) ∧ ∀ r2 S2, P2 r2 S2 → r1 = r2 ∧ ivz S2 := by
  obtain ⟨⟨n, z, m, kn, km, i⟩, u⟩ := j
  refine ⟨_, (kk_X4_letters l g S w z i.1.2.1 i.1.1), fun r1 S1 p1 => ?_⟩
  have m35 : S1.1 35 = S.1 35 := p1.2.1.2 35 (by decide)
  refine ⟨_, (kk_X5_letters l g _ w z (by rw [m35]; exact i.1.2.2.1) i.1.1), fun r2 S2 p2 => ?_⟩
  exact un_and (st_letters i w p1 p2) (un_chg p2.2.1 (by decide) (un_chg p1.2.1 (by decide) u))
theorem pr_blank (l : Launch) (g : vx_G) {S : vx_St} (j : ivz S) : ∃ P1 : Int32 → vx_St → Prop, vx_M l g yX4_blank cX4_blank 2 (some .int) (vx_R 0 0) [.ref (g.2.2.1 0)] S (vx_pi P1) ∧ ∀ r1 S1, P1 r1 S1 → ∃ P2 : Int32 → vx_St → Prop, vx_M l g yX5_blank cX5_blank 2 (some .int) (vx_R 0 0) [.ref (g.2.2.1 35)] S1 (vx_pi P2) ∧ ∀ r2 S2, P2 r2 S2 → r1 = r2 ∧ ivz S2 := by
  obtain ⟨⟨n, z, m, kn, km, i⟩, u⟩ := j
  refine ⟨_, (kk_X4_blank l g S ), fun r1 S1 p1 => ?_⟩
  have m35 : S1.1 35 = S.1 35 := by rw [p1.2]; exact vx_u_ne _ _ _ (by decide)
  refine ⟨_, (kk_X5_blank l g _ ), fun r2 S2 p2 => ?_⟩
  exact un_and (st_blank i p1 p2) (un_eq p2.2 (un_uo _ _ (by decide) (un_eq p1.2 (un_uo _ _ (by decide) u))))
theorem pr_fault (l : Launch) (g : vx_G) {S : vx_St} (j : ivz S) : ∃ P1 : Int32 → vx_St → Prop, vx_M l g yX4_fault cX4_fault 1 (some .int) (vx_R 7 156) [.ref (g.2.2.1 0)] S (vx_pi P1) ∧ ∀ r1 S1, P1 r1 S1 → ∃ P2 : Int32 → vx_St → Prop, vx_M l g yX5_fault cX5_fault 1 (some .int) (vx_R 3 65) [.ref (g.2.2.1 35)] S1 (vx_pi P2) ∧ ∀ r2 S2, P2 r2 S2 → r1 = r2 ∧ ivz S2 := by
  obtain ⟨⟨n, z, m, kn, km, i⟩, u⟩ := j
  refine ⟨_, (vx_M_pf (kk_X4_fault l g S z i.1.2.1 i.1.1)), fun r1 S1 p1 => ?_⟩
  obtain ⟨rfl, rfl⟩ := p1
  refine ⟨_, (vx_M_pf (kk_X5_fault l g _ z i.1.2.2.1 i.1.1)), fun r2 S2 p2 => ?_⟩
  obtain ⟨rfl, rfl⟩ := p2
  exact ⟨by rw [(s_fst i).1], ⟨n, z, m, kn, km, i⟩, u⟩
theorem pr_house (l : Launch) (g : vx_G) {S : vx_St} (j : ivz S) : ∃ P1 : Int32 → vx_St → Prop, vx_M l g yX4_house cX4_house 2 (some .int) (vx_R 8 177) [.ref (g.2.2.1 0)] S (vx_pi P1) ∧ ∀ r1 S1, P1 r1 S1 → ∃ P2 : Int32 → vx_St → Prop, vx_M l g yX5_house cX5_house 1 (some .int) (vx_R 3 65) [.ref (g.2.2.1 35)] S1 (vx_pi P2) ∧ ∀ r2 S2, P2 r2 S2 → r1 = r2 ∧ ivz S2 := by
  obtain ⟨⟨n, z, m, kn, km, i⟩, u⟩ := j
  refine ⟨_, (kk_X4_house l g S z i.1.2.1 i.1.1 n i.2.1.2.1 i.2.1.1), fun r1 S1 p1 => ?_⟩
  have m35 : S1.1 35 = S.1 35 := by
    by_cases q : aw_hB (S.1 2) z (S.1 3 0) (S.1 11 2) n = true
    · exact (p1.2.2 q).1.2 35 (by decide)
    · rw [p1.2.1 (ts_nt q)]
  refine ⟨_, (kk_X5_house l g _ z (by rw [m35]; exact i.1.2.2.1) i.1.1 n (by rw [m35]; exact i.2.1.2.2.1) i.2.1.1), fun r2 S2 p2 => ?_⟩
  exact un_house i u p1 p2
theorem pr_about (l : Launch) (g : vx_G) {S : vx_St} (j : ivz S) (h w : Int32) : ∃ P1 : Int32 → vx_St → Prop, vx_M l g yX4_about cX4_about 3 (some .int) (vx_R 1 21) [.ref (g.2.2.1 0), .int h, .int w] S (vx_pi P1) ∧ ∀ r1 S1, P1 r1 S1 → ∃ P2 : Int32 → vx_St → Prop, vx_M l g yX5_about cX5_about 3 (some .int) (vx_R 2 43) [.ref (g.2.2.1 35), .int h, .int w] S1 (vx_pi P2) ∧ ∀ r2 S2, P2 r2 S2 → r1 = r2 ∧ ivz S2 := by
  obtain ⟨⟨n, z, m, kn, km, i⟩, u⟩ := j
  refine ⟨_, (vx_M_pf (kk_X4_about l g S h w n i.2.1.2.1 i.2.1.1)), fun r1 S1 p1 => ?_⟩
  obtain ⟨rfl, rfl⟩ := p1
  refine ⟨_, (vx_M_pf (kk_X5_about l g _ h w n i.2.1.2.2.1 i.2.1.1)), fun r2 S2 p2 => ?_⟩
  obtain ⟨rfl, rfl⟩ := p2
  exact ⟨s_about i h w, ⟨n, z, m, kn, km, i⟩, u⟩
theorem pr_as (l : Launch) (g : vx_G) {S : vx_St} (j : ivz S) (h k : Int32) : ∃ P1 : Int32 → vx_St → Prop, vx_M l g yX4_as cX4_as 3 (some .int) (vx_R 2 40) [.ref (g.2.2.1 0), .int h, .int k] S (vx_pi P1) ∧ ∀ r1 S1, P1 r1 S1 → ∃ P2 : Int32 → vx_St → Prop, vx_M l g yX5_as cX5_as 4 (some .int) (vx_R 2 43) [.ref (g.2.2.1 35), .int h, .int k] S1 (vx_pi P2) ∧ ∀ r2 S2, P2 r2 S2 → r1 = r2 ∧ ivz S2 := by
  obtain ⟨⟨n, z, m, kn, km, i⟩, u⟩ := j
  refine ⟨_, (vx_M_pf (kk_X4_as l g S h k n i.2.1.2.1 i.2.1.1)), fun r1 S1 p1 => ?_⟩
  obtain ⟨rfl, rfl⟩ := p1
  refine ⟨_, (vx_M_pf (kk_X5_as l g _ h k n i.2.1.2.2.1 i.2.1.1)), fun r2 S2 p2 => ?_⟩
  obtain ⟨rfl, rfl⟩ := p2
  exact ⟨s_as i h k, ⟨n, z, m, kn, km, i⟩, u⟩
theorem pr_length (l : Launch) (g : vx_G) {S : vx_St} (j : ivz S) (v : Int32) : ∃ P1 : Int32 → vx_St → Prop, vx_M l g yX4_length cX4_length 3 (some .int) (vx_R 1 20) [.ref (g.2.2.1 0), .int v] S (vx_pi P1) ∧ ∀ r1 S1, P1 r1 S1 → ∃ P2 : Int32 → vx_St → Prop, vx_M l g yX5_length cX5_length 3 (some .int) (vx_R 1 22) [.ref (g.2.2.1 35), .int v] S1 (vx_pi P2) ∧ ∀ r2 S2, P2 r2 S2 → r1 = r2 ∧ ivz S2 := by
  obtain ⟨⟨n, z, m, kn, km, i⟩, u⟩ := j
  refine ⟨_, (kk_X4_length l g S v), fun r1 S1 p1 => ?_⟩
  refine ⟨_, (kk_X5_length l g _ v), fun r2 S2 p2 => ?_⟩
  have u1 : iv_unx S1 := un_if p1.2 (fun _ => un_u11 _ (by decide) (un_u11 _ (by decide) u)) u
  exact un_and (st_length i v p1 p2) (un_if p2.2 (fun _ => un_uo _ _ (by decide) (un_uo _ _ (by decide) u1)) u1)
theorem pr_brake (l : Launch) (g : vx_G) {S : vx_St} (j : ivz S) (h b : Int32) : ∃ P1 : Int32 → vx_St → Prop, vx_M l g yX4_brake cX4_brake 4 (some .int) (vx_R 1 21) [.ref (g.2.2.1 0), .int h, .int b] S (vx_pi P1) ∧ ∀ r1 S1, P1 r1 S1 → ∃ P2 : Int32 → vx_St → Prop, vx_M l g yX5_brake cX5_brake 4 (some .int) (vx_R 2 43) [.ref (g.2.2.1 35), .int h, .int b] S1 (vx_pi P2) ∧ ∀ r2 S2, P2 r2 S2 → r1 = r2 ∧ ivz S2 := by
  obtain ⟨⟨n, z, m, kn, km, i⟩, u⟩ := j
  refine ⟨_, (kk_X4_brake l g S h b n i.2.1.2.1 i.2.1.1), fun r1 S1 p1 => ?_⟩
  have m35 : S1.1 35 = S.1 35 := by
    rw [p1.2]
    split
    · simp only [vx_u_if, reduceIte, Nat.reduceEqDiff]
    · rfl
  refine ⟨_, (kk_X5_brake l g _ h b n (by rw [m35]; exact i.2.1.2.2.1) i.2.1.1), fun r2 S2 p2 => ?_⟩
  have u1 : iv_unx S1 := un_if p1.2 (fun q => un_brk u b i.2.1.1 i.2.1.2.1 q) u
  exact un_and (st_brake i h b p1 p2) (un_if p2.2 (fun _ => un_uo _ _ (by decide) u1) u1)
theorem pr_rain (l : Launch) (g : vx_G) {S : vx_St} (j : ivz S) (b : Int32) (hb : vx_b01 b = b) : ∃ P1 : Int32 → vx_St → Prop, vx_M l g yX4_rain cX4_rain 3 (some .int) (vx_R 1 20) [.ref (g.2.2.1 0), .int b] S (vx_pi P1) ∧ ∀ r1 S1, P1 r1 S1 → ∃ P2 : Int32 → vx_St → Prop, vx_M l g yX5_rain cX5_rain 3 (some .int) (vx_R 0 0) [.ref (g.2.2.1 35), .int b] S1 (vx_pi P2) ∧ ∀ r2 S2, P2 r2 S2 → r1 = r2 ∧ ivz S2 := by
  obtain ⟨⟨n, z, m, kn, km, i⟩, u⟩ := j
  refine ⟨_, (kk_X4_rain l g S b hb), fun r1 S1 p1 => ?_⟩
  refine ⟨_, (kk_X5_rain l g _ b hb), fun r2 S2 p2 => ?_⟩
  exact un_and (st_rain i b hb p1 p2) (un_eq p2.2 (un_uo _ _ (by decide) (un_eq p1.2 (un_u11 _ (by decide) u))))
theorem pr_wants (l : Launch) (g : vx_G) {S : vx_St} (j : ivz S) (h : Int32) : ∃ P1 : Int32 → vx_St → Prop, vx_M l g yX4_wants cX4_wants 2 (some .int) (vx_R 2 45) [.ref (g.2.2.1 0), .int h] S (vx_pi P1) ∧ ∀ r1 S1, P1 r1 S1 → ∃ P2 : Int32 → vx_St → Prop, vx_M l g yX5_wants cX5_wants 2 (some .int) (vx_R 2 44) [.ref (g.2.2.1 35), .int h] S1 (vx_pi P2) ∧ ∀ r2 S2, P2 r2 S2 → r1 = r2 ∧ ivz S2 := by
  obtain ⟨⟨n, z, m, kn, km, i⟩, u⟩ := j
  refine ⟨_, (vx_M_pf (kk_X4_wants l g S h n i.2.1.2.1 i.2.1.1)), fun r1 S1 p1 => ?_⟩
  obtain ⟨rfl, rfl⟩ := p1
  refine ⟨_, (vx_M_pf (kk_X5_wants l g _ h n i.2.1.2.2.1 i.2.1.1)), fun r2 S2 p2 => ?_⟩
  obtain ⟨rfl, rfl⟩ := p2
  exact ⟨s_wants i h, ⟨n, z, m, kn, km, i⟩, u⟩
theorem pr_goes (l : Launch) (g : vx_G) {S : vx_St} (j : ivz S) (t : Int32) : ∃ P1 : Int32 → vx_St → Prop, vx_M l g yX4_goes cX4_goes 2 (some .int) (vx_R 3 70) [.ref (g.2.2.1 0), .int t] S (vx_pi P1) ∧ ∀ r1 S1, P1 r1 S1 → ∃ P2 : Int32 → vx_St → Prop, vx_M l g yX5_goes cX5_goes 2 (some .int) (vx_R 4 92) [.ref (g.2.2.1 35), .int t] S1 (vx_pi P2) ∧ ∀ r2 S2, P2 r2 S2 → r1 = r2 ∧ ivz S2 := by
  obtain ⟨⟨n, z, m, kn, km, i⟩, u⟩ := j
  refine ⟨_, (kk_X4_goes l g S t n i.2.1.2.1 i.2.1.1), fun r1 S1 p1 => ?_⟩
  have m35 : S1.1 35 = S.1 35 := p1.2.2 35 (by decide)
  refine ⟨_, (vx_M_pf (kk_X5_goes l g _ t n (by rw [m35]; exact i.2.1.2.2.1) i.2.1.1)), fun r2 S2 p2 => ?_⟩
  obtain ⟨q1, q2⟩ := st_goes i t p1
  obtain ⟨rfl, rfl⟩ := p2
  exact ⟨q1, q2, un_chg p1.2 (by decide) u⟩
theorem pr_hour (l : Launch) (g : vx_G) {S : vx_St} (j : ivz S) : ∃ P1 : Int32 → vx_St → Prop, vx_M l g yX4_hour cX4_hour 1 (some .int) (vx_R 4 94) [.ref (g.2.2.1 0)] S (vx_pi P1) ∧ ∀ r1 S1, P1 r1 S1 → ∃ P2 : Int32 → vx_St → Prop, vx_M l g yX5_hour cX5_hour 1 (some .int) (vx_R 6 139) [.ref (g.2.2.1 35)] S1 (vx_pi P2) ∧ ∀ r2 S2, P2 r2 S2 → r1 = r2 ∧ ivz S2 := by
  obtain ⟨⟨n, z, m, kn, km, i⟩, u⟩ := j
  refine ⟨_, (kk_X4_hour l g S n i.2.1.2.1 i.2.1.1), fun r1 S1 p1 => ?_⟩
  have m35 : S1.1 35 = S.1 35 := p1.2.1.2 35 (by decide)
  refine ⟨_, (kk_X5_hour l g _ n (by rw [m35]; exact i.2.1.2.2.1) i.2.1.1), fun r2 S2 p2 => ?_⟩
  exact un_and (st_hour i p1 p2) (un_chg p2.2.1 (by decide) (un_hour p1.2.1 p1.2.2.1 u))
theorem pr_worked (l : Launch) (g : vx_G) {S : vx_St} (j : ivz S) : ∃ P1 : Int32 → vx_St → Prop, vx_M l g yX4_worked cX4_worked 1 (some .int) (vx_R 0 0) [.ref (g.2.2.1 0)] S (vx_pi P1) ∧ ∀ r1 S1, P1 r1 S1 → ∃ P2 : Int32 → vx_St → Prop, vx_M l g yX5_worked cX5_worked 1 (some .int) (vx_R 0 0) [.ref (g.2.2.1 35)] S1 (vx_pi P2) ∧ ∀ r2 S2, P2 r2 S2 → r1 = r2 ∧ ivz S2 := by
  obtain ⟨⟨n, z, m, kn, km, i⟩, u⟩ := j
  refine ⟨_, (vx_M_pf (kk_X4_worked l g S )), fun r1 S1 p1 => ?_⟩
  obtain ⟨rfl, rfl⟩ := p1
  refine ⟨_, (vx_M_pf (kk_X5_worked l g _ )), fun r2 S2 p2 => ?_⟩
  obtain ⟨rfl, rfl⟩ := p2
  exact ⟨(iv_e i).2.2.2.2.2.2.2.2.1.symm, ⟨n, z, m, kn, km, i⟩, u⟩
theorem pr_part (l : Launch) (g : vx_G) {S : vx_St} (j : ivz S) (h : Int32) : ∃ P1 : Int32 → vx_St → Prop, vx_M l g yX4_part cX4_part 2 (some .int) (vx_R 2 48) [.ref (g.2.2.1 0), .int h] S (vx_pi P1) ∧ ∀ r1 S1, P1 r1 S1 → ∃ P2 : Int32 → vx_St → Prop, vx_M l g yX5_part cX5_part 2 (some .int) (vx_R 2 50) [.ref (g.2.2.1 35), .int h] S1 (vx_pi P2) ∧ ∀ r2 S2, P2 r2 S2 → r1 = r2 ∧ ivz S2 := by
  obtain ⟨⟨n, z, m, kn, km, i⟩, u⟩ := j
  refine ⟨_, (kk_X4_part l g S h n i.2.1.2.1 i.2.1.1), fun r1 S1 p1 => ?_⟩
  have m35 : S1.1 35 = S.1 35 := p1.2.2 35 (by decide)
  refine ⟨_, (vx_M_pf (kk_X5_part l g _ h n (by rw [m35]; exact i.2.1.2.2.1) i.2.1.1)), fun r2 S2 p2 => ?_⟩
  obtain ⟨q1, q2⟩ := st_part i h p1
  obtain ⟨rfl, rfl⟩ := p2
  exact ⟨q1, q2, un_chg p1.2 (by decide) u⟩
theorem pr_night (l : Launch) (g : vx_G) {S : vx_St} (j : ivz S) : ∃ P1 : Int32 → vx_St → Prop, vx_M l g yX4_night cX4_night 1 (some .int) (vx_R 3 71) [.ref (g.2.2.1 0)] S (vx_pi P1) ∧ ∀ r1 S1, P1 r1 S1 → ∃ P2 : Int32 → vx_St → Prop, vx_M l g yX5_night cX5_night 4 (some .int) (vx_R 2 50) [.ref (g.2.2.1 35)] S1 (vx_pi P2) ∧ ∀ r2 S2, P2 r2 S2 → r1 = r2 ∧ ivz S2 := by
  obtain ⟨⟨n, z, m, kn, km, i⟩, u⟩ := j
  refine ⟨_, (kk_X4_night l g S n i.2.1.2.1 i.2.1.1), fun r1 S1 p1 => ?_⟩
  have m35 : S1.1 35 = S.1 35 := p1.2.1.2 35 (by decide)
  refine ⟨_, (kk_X5_night l g _ n (by rw [m35]; exact i.2.1.2.2.1) i.2.1.1), fun r2 S2 p2 => ?_⟩
  exact un_and (st_night i p1 p2) (un_chg p2.2.1 (by decide) (un_night i.2.1.1 i.2.1.2.1 p1.2.1 p1.2.2.1 p1.2.2.2.2 u))
theorem pr_plan (l : Launch) (g : vx_G) {S : vx_St} (j : ivz S) (w : Int32) : ∃ P1 : Int32 → vx_St → Prop, vx_M l g yX4_plan cX4_plan 3 (some .int) (vx_R 6 142) [.ref (g.2.2.1 0), .int w] S (vx_pi P1) ∧ ∀ r1 S1, P1 r1 S1 → ∃ P2 : Int32 → vx_St → Prop, vx_M l g yX5_plan cX5_plan 2 (some .int) (vx_R 8 189) [.ref (g.2.2.1 35), .int w] S1 (vx_pi P2) ∧ ∀ r2 S2, P2 r2 S2 → r1 = r2 ∧ ivz S2 := by
  obtain ⟨⟨n, z, m, kn, km, i⟩, u⟩ := j
  obtain ⟨hh, g1, g2, g3, g4, g5, g6, g7⟩ := iv_f i
  refine ⟨_, (kk_X4_plan l g S w n i.2.1.2.1 i.2.1.1 g4 g5 hh g1 g2), fun r1 S1 p1 => ?_⟩
  have m35 : S1.1 35 = S.1 35 := p1.2.2 35 (by decide)
  refine ⟨_, (kk_X5_plan l g _ w n (by rw [m35]; exact i.2.1.2.2.1) i.2.1.1 (by rw [m35]; exact g6) (by rw [m35]; exact g7) hh (by rw [m35]; exact g3) g2), fun r2 S2 p2 => ?_⟩
  exact un_and (st_plan i hh w p1 p2) (un_same p2.2.1 (un_chg p1.2 (by decide) u))
theorem pr_more (l : Launch) (g : vx_G) {S : vx_St} (j : ivz S) (f : Int32) : ∃ P1 : Int32 → vx_St → Prop, vx_M l g yX4_more cX4_more 2 (some .int) (vx_R 5 117) [.ref (g.2.2.1 0), .int f] S (vx_pi P1) ∧ ∀ r1 S1, P1 r1 S1 → ∃ P2 : Int32 → vx_St → Prop, vx_M l g yX5_more cX5_more 2 (some .int) (vx_R 8 184) [.ref (g.2.2.1 35), .int f] S1 (vx_pi P2) ∧ ∀ r2 S2, P2 r2 S2 → r1 = r2 ∧ ivz S2 := by
  obtain ⟨⟨n, z, m, kn, km, i⟩, u⟩ := j
  obtain ⟨hh, g1, g2, g3, g4, g5, g6, g7⟩ := iv_f i
  refine ⟨_, (kk_X4_more l g S f n i.2.1.2.1 i.2.1.1 g4 g5 hh g1 g2), fun r1 S1 p1 => ?_⟩
  have m35 : S1.1 35 = S.1 35 := p1.2.2 35 (by decide)
  refine ⟨_, (kk_X5_more l g _ f n (by rw [m35]; exact i.2.1.2.2.1) i.2.1.1 (by rw [m35]; exact g6) (by rw [m35]; exact g7) hh (by rw [m35]; exact g3) g2), fun r2 S2 p2 => ?_⟩
  exact un_and (st_more i hh f p1 p2) (un_same p2.2.1 (un_chg p1.2 (by decide) u))
theorem pr_missing (l : Launch) (g : vx_G) {S : vx_St} (j : ivz S) (f w : Int32) : ∃ P1 : Int32 → vx_St → Prop, vx_M l g yX4_missing cX4_missing 8 (some .int) (vx_R 2 45) [.ref (g.2.2.1 0), .int f, .int w] S (vx_pi P1) ∧ ∀ r1 S1, P1 r1 S1 → ∃ P2 : Int32 → vx_St → Prop, vx_M l g yX5_missing cX5_missing 8 (some .int) (vx_R 2 44) [.ref (g.2.2.1 35), .int f, .int w] S1 (vx_pi P2) ∧ ∀ r2 S2, P2 r2 S2 → r1 = r2 ∧ ivz S2 := by
  obtain ⟨⟨n, z, m, kn, km, i⟩, u⟩ := j
  obtain ⟨o, ho, hop⟩ := pu_open_nI (S.1 6) (S.1 7) (S.1 11 2) n i.2.1.1
  have h2 := pu_2n n i.2.1.1
  refine ⟨_, (vx_M_pf (kk_X4_missing l g S f w o n i.2.1.2.1 i.2.1.1 (by omega) hop)), fun r1 S1 p1 => ?_⟩
  obtain ⟨rfl, rfl⟩ := p1
  refine ⟨_, (vx_M_pf (kk_X5_missing l g _ f w n i.2.1.2.2.1 i.2.1.1)), fun r2 S2 p2 => ?_⟩
  obtain ⟨rfl, rfl⟩ := p2
  exact ⟨s_missing i ho hop f w, ⟨n, z, m, kn, km, i⟩, u⟩
theorem pr_rest (l : Launch) (g : vx_G) {S : vx_St} (j : ivz S) (sd w : Int32) : ∃ P1 : Int32 → vx_St → Prop, vx_M l g yX4_rest cX4_rest 6 (some .int) (vx_R 4 94) [.ref (g.2.2.1 0), .int sd, .int w] S (vx_pi P1) ∧ ∀ r1 S1, P1 r1 S1 → ∃ P2 : Int32 → vx_St → Prop, vx_M l g yX5_rest cX5_rest 7 (some .int) (vx_R 6 139) [.ref (g.2.2.1 35), .int sd, .int w] S1 (vx_pi P2) ∧ ∀ r2 S2, P2 r2 S2 → r1 = r2 ∧ ivz S2 := by
  obtain ⟨⟨n, z, m, kn, km, i⟩, u⟩ := j
  obtain ⟨hh, g1, g2, g3, g4, g5, g6, g7⟩ := iv_f i
  refine ⟨_, (kk_X4_rest l g S sd w n i.2.1.2.1 i.2.1.1 g4 g5 hh g1 g2), fun r1 S1 p1 => ?_⟩
  have m35 : S1.1 35 = S.1 35 := p1.2.2 35 (by decide)
  refine ⟨_, (kk_X5_rest l g _ sd w n (by rw [m35]; exact i.2.1.2.2.1) i.2.1.1 (by rw [m35]; exact g6) (by rw [m35]; exact g7) hh (by rw [m35]; exact g3) g2), fun r2 S2 p2 => ?_⟩
  exact un_and (st_rest i hh sd w p1 p2) (un_same p2.2 (un_chg p1.2 (by decide) u))
theorem pr_read (l : Launch) (g : vx_G) {S : vx_St} (j : ivz S) (t f : Int32) : ∃ P1 : Int32 → vx_St → Prop, vx_M l g yX4_read cX4_read 4 (some .int) (vx_R 3 61) [.ref (g.2.2.1 0), .int t, .int f] S (vx_pi P1) ∧ ∀ r1 S1, P1 r1 S1 → ∃ P2 : Int32 → vx_St → Prop, vx_M l g yX5_read cX5_read 3 (some .int) (vx_R 1 22) [.ref (g.2.2.1 35), .int t, .int f] S1 (vx_pi P2) ∧ ∀ r2 S2, P2 r2 S2 → r1 = r2 ∧ ivz S2 := by
  obtain ⟨⟨n, z, m, kn, km, i⟩, u⟩ := j
  refine ⟨_, (kk_X4_read l g S t f n i.2.1.2.1 i.2.1.1 m i.2.2.2.1.1 i.2.2.2.1.2.2.1), fun r1 S1 p1 => ?_⟩
  have m35 : S1.1 35 = S.1 35 := by
    rw [p1.2]
    split
    · simp only [vx_u_if, reduceIte, Nat.reduceEqDiff]
    · rfl
  refine ⟨_, (kk_X5_read l g _ t f n (by rw [m35]; exact i.2.1.2.2.1) i.2.1.1 m (by rw [m35]; exact i.2.2.2.1.2.1) i.2.2.2.1.2.2.1), fun r2 S2 p2 => ?_⟩
  have u1 : iv_unx S1 := un_if p1.2 (fun _ => un_uo _ _ (by decide) (un_uo _ _ (by decide) (un_uo _ _ (by decide) u))) u
  exact un_and (st_read i t f p1 p2) (un_if p2.2 (fun _ => un_uo _ _ (by decide) (un_uo _ _ (by decide) (un_uo _ _ (by decide) u1))) u1)
theorem pr_wipe (l : Launch) (g : vx_G) {S : vx_St} (j : ivz S) : ∃ P1 : Int32 → vx_St → Prop, vx_M l g yX4_wipe cX4_wipe 2 (some .int) (vx_R 0 0) [.ref (g.2.2.1 0)] S (vx_pi P1) ∧ ∀ r1 S1, P1 r1 S1 → ∃ P2 : Int32 → vx_St → Prop, vx_M l g yX5_wipe cX5_wipe 2 (some .int) (vx_R 0 0) [.ref (g.2.2.1 35)] S1 (vx_pi P2) ∧ ∀ r2 S2, P2 r2 S2 → r1 = r2 ∧ ivz S2 := by
  obtain ⟨⟨n, z, m, kn, km, i⟩, u⟩ := j
  refine ⟨_, (kk_X4_wipe l g S ), fun r1 S1 p1 => ?_⟩
  refine ⟨_, (kk_X5_wipe l g _ ), fun r2 S2 p2 => ?_⟩
  exact un_and (st_wipe i p1 p2) (un_eq p2.2 (un_uo _ _ (by decide) (un_eq p1.2 (un_uo _ _ (by decide) u))))
theorem pr_leaks (l : Launch) (g : vx_G) {S : vx_St} (j : ivz S) : ∃ P1 : Int32 → vx_St → Prop, vx_M l g yX4_leaks cX4_leaks 3 (some .int) (vx_R 3 67) [.ref (g.2.2.1 0)] S (vx_pi P1) ∧ ∀ r1 S1, P1 r1 S1 → ∃ P2 : Int32 → vx_St → Prop, vx_M l g yX5_leaks cX5_leaks 1 (some .int) (vx_R 5 115) [.ref (g.2.2.1 35)] S1 (vx_pi P2) ∧ ∀ r2 S2, P2 r2 S2 → r1 = r2 ∧ ivz S2 := by
  obtain ⟨⟨n, z, m, kn, km, i⟩, u⟩ := j
  refine ⟨_, (vx_M_pf (kk_X4_leaks l g S n i.2.1.2.1 i.2.1.1 m i.2.2.2.1.1 i.2.2.2.1.2.2.1)), fun r1 S1 p1 => ?_⟩
  obtain ⟨rfl, rfl⟩ := p1
  refine ⟨_, (vx_M_pf (kk_X5_leaks l g _ n i.2.1.2.2.1 i.2.1.1 m i.2.2.2.1.2.1 i.2.2.2.1.2.2.1)), fun r2 S2 p2 => ?_⟩
  obtain ⟨rfl, rfl⟩ := p2
  exact ⟨s_leaks i, ⟨n, z, m, kn, km, i⟩, u⟩
theorem pr_leak (l : Launch) (g : vx_G) {S : vx_St} (j : ivz S) (h : Int32) : ∃ P1 : Int32 → vx_St → Prop, vx_M l g yX4_leak cX4_leak 2 (some .int) (vx_R 3 67) [.ref (g.2.2.1 0), .int h] S (vx_pi P1) ∧ ∀ r1 S1, P1 r1 S1 → ∃ P2 : Int32 → vx_St → Prop, vx_M l g yX5_leak cX5_leak 2 (some .int) (vx_R 4 93) [.ref (g.2.2.1 35), .int h] S1 (vx_pi P2) ∧ ∀ r2 S2, P2 r2 S2 → r1 = r2 ∧ ivz S2 := by
  obtain ⟨⟨n, z, m, kn, km, i⟩, u⟩ := j
  refine ⟨_, (vx_M_pf (kk_X4_leak l g S h m i.2.2.2.1.1 i.2.2.2.1.2.2.1)), fun r1 S1 p1 => ?_⟩
  obtain ⟨rfl, rfl⟩ := p1
  refine ⟨_, (vx_M_pf (kk_X5_leak l g _ h n i.2.1.2.2.1 i.2.1.1 m i.2.2.2.1.2.1 i.2.2.2.1.2.2.1)), fun r2 S2 p2 => ?_⟩
  obtain ⟨rfl, rfl⟩ := p2
  exact ⟨s_leak i h, ⟨n, z, m, kn, km, i⟩, u⟩
theorem pr_look (l : Launch) (g : vx_G) {S : vx_St} (j : ivz S) : ∃ P1 : Int32 → vx_St → Prop, vx_M l g yX4_look cX4_look 7 (some .int) (vx_R 4 89) [.ref (g.2.2.1 0)] S (vx_pi P1) ∧ ∀ r1 S1, P1 r1 S1 → ∃ P2 : Int32 → vx_St → Prop, vx_M l g yX5_look cX5_look 1 (some .int) (vx_R 6 142) [.ref (g.2.2.1 35)] S1 (vx_pi P2) ∧ ∀ r2 S2, P2 r2 S2 → r1 = r2 ∧ ivz S2 := by
  obtain ⟨⟨n, z, m, kn, km, i⟩, u⟩ := j
  refine ⟨_, (vx_M_pf (kk_X4_look l g S n i.2.1.2.1 i.2.1.1 m i.2.2.2.1.1 i.2.2.2.1.2.2.1)), fun r1 S1 p1 => ?_⟩
  obtain ⟨rfl, rfl⟩ := p1
  refine ⟨_, (vx_M_pf (kk_X5_look l g _ n i.2.1.2.2.1 i.2.1.1 m i.2.2.2.1.2.1 i.2.2.2.1.2.2.1)), fun r2 S2 p2 => ?_⟩
  obtain ⟨rfl, rfl⟩ := p2
  exact ⟨s_look i, ⟨n, z, m, kn, km, i⟩, u⟩
theorem pr_image (l : Launch) (g : vx_G) {S : vx_St} (j : ivz S) : ∃ P1 : Int32 → vx_St → Prop, vx_M l g yX4_image cX4_image 1 (some .int) (vx_R 2 61) [.ref (g.2.2.1 0)] S (vx_pi P1) ∧ ∀ r1 S1, P1 r1 S1 → ∃ P2 : Int32 → vx_St → Prop, vx_M l g yX5_image cX5_image 2 (some .int) (vx_R 0 0) [.ref (g.2.2.1 35)] S1 (vx_pi P2) ∧ ∀ r2 S2, P2 r2 S2 → r1 = r2 ∧ ivz S2 := by
  obtain ⟨⟨n, z, m, kn, km, i⟩, u⟩ := j
  obtain ⟨hh, g1, g2, g3, g4, g5, g6, g7⟩ := iv_f i
  refine ⟨_, (kk_X4_image l g S g4 g5), fun r1 S1 p1 => ?_⟩
  have m35 : S1.1 35 = S.1 35 := p1.2.1.2 35 (by decide)
  refine ⟨_, (kk_X5_image l g _ (by rw [m35]; exact g6) (by rw [m35]; exact g7)), fun r2 S2 p2 => ?_⟩
  exact un_and (st_image i p1 p2) (un_chg p2.2.1 (by decide) (un_image p1.2.1 p1.2.2.1 p1.2.2.2.1 p1.2.2.2.2.2.1 u))
theorem pr_restore (l : Launch) (g : vx_G) {S : vx_St} (j : ivz S) : ∃ P1 : Int32 → vx_St → Prop, vx_M l g yX4_restore cX4_restore 1 (some .int) (vx_R 2 61) [.ref (g.2.2.1 0)] S (vx_pi P1) ∧ ∀ r1 S1, P1 r1 S1 → ∃ P2 : Int32 → vx_St → Prop, vx_M l g yX5_restore cX5_restore 2 (some .int) (vx_R 0 0) [.ref (g.2.2.1 35)] S1 (vx_pi P2) ∧ ∀ r2 S2, P2 r2 S2 → r1 = r2 ∧ ivz S2 := by
  obtain ⟨⟨n, z, m, kn, km, i⟩, u⟩ := j
  refine ⟨_, (kk_X4_restore l g S i.2.2.2.2.1.2.1 i.2.2.2.2.1.2.2.1), fun r1 S1 p1 => ?_⟩
  have m35 : S1.1 35 = S.1 35 := by
    by_cases q : S.1 0 5 = 0
    · rw [p1.2.1 q]
    · exact (p1.2.2 q).1.2 35 (by decide)
  refine ⟨_, (kk_X5_restore l g _ (by rw [m35]; exact i.2.2.2.2.1.2.2.2.1) (by rw [m35]; exact i.2.2.2.2.1.2.2.2.2)), fun r2 S2 p2 => ?_⟩
  have u1 : iv_unx S1 := by
    by_cases q : S.1 0 5 = 0
    · exact un_eq (p1.2.1 q) u
    · obtain ⟨c1, x1, x2, x3, x4, _⟩ := p1.2.2 q
      exact un_restore q c1 x1 x2 x4 u
  have u2 : iv_unx S2 := by
    by_cases q : S1.1 35 31 = 0
    · exact un_eq (p2.1 q).2 u1
    · exact un_chg (p2.2 q).2.1 (by decide) u1
  exact un_and (st_restore i p1 p2) u2
theorem pr_count (l : Launch) (g : vx_G) {S : vx_St} (j : ivz S) (w : Int32) : ∃ P1 : Int32 → vx_St → Prop, vx_M l g yX4_count cX4_count 2 (some .int) (vx_R 1 20) [.ref (g.2.2.1 0), .int w] S (vx_pi P1) ∧ ∀ r1 S1, P1 r1 S1 → ∃ P2 : Int32 → vx_St → Prop, vx_M l g yX5_count cX5_count 2 (some .int) (vx_R 2 43) [.ref (g.2.2.1 35), .int w] S1 (vx_pi P2) ∧ ∀ r2 S2, P2 r2 S2 → r1 = r2 ∧ ivz S2 := by
  obtain ⟨⟨n, z, m, kn, km, i⟩, u⟩ := j
  refine ⟨_, (vx_M_pf (kk_X4_count l g S w)), fun r1 S1 p1 => ?_⟩
  obtain ⟨rfl, rfl⟩ := p1
  refine ⟨_, (vx_M_pf (kk_X5_count l g _ w n i.2.1.2.2.1 i.2.1.1)), fun r2 S2 p2 => ?_⟩
  obtain ⟨rfl, rfl⟩ := p2
  exact ⟨s_count i w, ⟨n, z, m, kn, km, i⟩, u⟩
theorem pr_digest (l : Launch) (g : vx_G) {S : vx_St} (j : ivz S) : ∃ P1 : Int64 → vx_St → Prop, vx_M l g yX4_digest cX4_digest 5 (some .long) (vx_R 6 142) [.ref (g.2.2.1 0)] S (vx_pl P1) ∧ ∀ r1 S1, P1 r1 S1 → ∃ P2 : Int64 → vx_St → Prop, vx_M l g yX5_digest cX5_digest 3 (some .long) (vx_R 8 189) [.ref (g.2.2.1 35)] S1 (vx_pl P2) ∧ ∀ r2 S2, P2 r2 S2 → r1 = r2 ∧ ivz S2 := by
  obtain ⟨⟨n, z, m, kn, km, i⟩, u⟩ := j
  obtain ⟨hh, g1, g2, g3, g4, g5, g6, g7⟩ := iv_f i
  refine ⟨_, (kk_X4_digest l g S z i.1.2.1 i.1.1 n i.2.1.2.1 i.2.1.1 g4 g5 hh g1 g2 m i.2.2.2.1.1 i.2.2.2.1.2.2.1), fun r1 S1 p1 => ?_⟩
  have m35 : S1.1 35 = S.1 35 := p1.2.2 35 (by decide)
  refine ⟨_, (kk_X5_digest l g _ z (by rw [m35]; exact i.1.2.2.1) i.1.1 n (by rw [m35]; exact i.2.1.2.2.1) i.2.1.1 (by rw [m35]; exact g6) (by rw [m35]; exact g7) hh (by rw [m35]; exact g3) g2 m (by rw [m35]; exact i.2.2.2.1.2.1) i.2.2.2.1.2.2.1), fun r2 S2 p2 => ?_⟩
  exact un_and (st_digest i hh p1 p2) (un_same p2.2 (un_chg p1.2 (by decide) u))
