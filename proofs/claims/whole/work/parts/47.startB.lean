/-- what the tables and the start give: the classes, the rows, the text -/
theorem st_known {s : State} {b : Nat} (hts0 : ∀ w ∈ lw_tbl, w.before #[Value.ref b] s = true) (hgv : (Jvm.Cond.and given_1 narrow_1).before #[Value.ref b] s = true) : ∃ (dC : Nat → ClassId) (dI : Nat → Nat → Nat) (cI cB : ClassId) (adK adV : Nat → Nat), va_K (dC, dI) vx_Cl [(cI, .int), (cB, .byte)] s ∧ (∀ w ∈ vx_nest, va_Nw w s) ∧ vk_R "TownOnWeight$Page" 41 "hcusx" (adK 0) s ∧ vk_R "TownOnWeight" 116 "hcusx" (adK 0) s ∧ vk_S 1 [5] [[104, 99, 117, 115, 120]] adK adV (fun q : Nat => s.heap.size ≤ q) s s.heap ∧ va_Z "java/lang/String" "COMPACT_STRINGS" "Z" (.int 1) (fun q : Nat => s.heap.size ≤ q) s s.heap := by
  have hts : ∀ w ∈ wsL_law, w.before #[Value.ref b] s = true := fun w h => hts0 w (wsL_law_in w h)
  have hgs := flat_of_before _ hgv
  obtain ⟨c0, iS0, hKn0⟩ := u_known (C := RX0) (T := TX0) (N := 14) (n := 14) hts inlX0 (hts _ (tm_1 (List.mem_of_getElem? (i := 22) rfl)))
  obtain ⟨c1, iS1, hKn1⟩ := u_known (C := RX1) (T := TX1) (N := 8) (n := 8) hts inlX1 (hts _ (tm_1 (List.mem_of_getElem? (i := 18) rfl)))
  obtain ⟨c2, iS2, hKn2⟩ := u_known (C := RX2) (T := TX2) (N := 2) (n := 2) hts inlX2 (hts _ (tm_1 (List.mem_of_getElem? (i := 14) rfl)))
  obtain ⟨c3, iS3, hKn3⟩ := u_known (C := RX3) (T := TX3) (N := 3) (n := 3) hts inlX3 (hts _ (tm_2 (List.mem_of_getElem? (i := 2) rfl)))
  obtain ⟨c4, iS4, hKn4⟩ := u_known (C := RX4) (T := TX4) (N := 9) (n := 9) hts inlX4 (hts _ (tm_1 (List.mem_of_getElem? (i := 1) rfl)))
  obtain ⟨c5, iS5, hKn5⟩ := u_known (C := RX5) (T := TX5) (N := 47) (n := 47) hts inlX5 (hts _ (tm_1 (List.mem_of_getElem? (i := 4) rfl)))
  obtain ⟨dC, dI, hKc⟩ : ∃ (dC : Nat → ClassId) (dI : Nat → Nat → Nat), ∀ (k : Nat) (q : vw_C), vx_Cl[k]? = some q → u_Kn s q.1 q.2.1 q.2.2 (dC k) (dI k) := by
    refine ⟨fun k => if k = 0 then c0 else if k = 1 then c1 else if k = 2 then c2 else if k = 3 then c3 else if k = 4 then c4 else c5, fun k => if k = 0 then iS0 else if k = 1 then iS1 else if k = 2 then iS2 else if k = 3 then iS3 else if k = 4 then iS4 else iS5, ?_⟩
    intro k q hq
    match k, hq with
    | 0, hq => cases hq; exact hKn0
    | 1, hq => cases hq; exact hKn1
    | 2, hq => cases hq; exact hKn2
    | 3, hq => cases hq; exact hKn3
    | 4, hq => cases hq; exact hKn4
    | 5, hq => cases hq; exact hKn5
    | k + 6, hq => simp at hq
  obtain ⟨cI, kI, pI, f1, f2, f3⟩ := Cond.arrayClass_spec (hts0 _ tb_ai)
  obtain ⟨cB, kB, pB, f4, f5, f6⟩ := Cond.arrayClass_spec (hts0 _ tb_ab)
  have hK : va_K (dC, dI) vx_Cl [(cI, .int), (cB, .byte)] s := by
    refine ⟨hKc, fun k q hq => ?_⟩
    match k, hq with
    | 0, hq => cases hq; exact ⟨fun n z => ⟨fun k h => (by cases h), kI, f2, pI, f3⟩, f1⟩
    | 1, hq => cases hq; exact ⟨fun n z => ⟨fun k h => (by cases h), kB, f5, pB, f6⟩, f4⟩
    | k + 2, hq => simp at hq
  have hA : ∀ a : Nat, a < s.heap.size → ¬ (fun q : Nat => s.heap.size ≤ q) a := fun a h => Nat.not_le.mpr h
  obtain ⟨adK, adV, hV, hVe⟩ := vk_Sof (args := #[Value.ref b]) (s := s) (N := 1) (tm := fun _ => Term.string "TownOnWeight$Page" 41) (len := [5]) (byt := [[104, 99, 117, 115, 120]]) (A := fun q : Nat => s.heap.size ≤ q) (fun i hi => by
      obtain rfl : i = 0 := by omega
      decide) (fun i _ => hgs _ (by decide +kernel)) (fun i _ => hgs _ (by decide +kernel)) (fun i _ => hgs _ (by decide +kernel)) (fun i hi => by
      obtain rfl : i = 0 := by omega
      exact hgs _ (by decide +kernel)) (fun i hi j hj => by
      obtain rfl : i = 0 := by omega
      have hj : j < 5 := hj
      rcases (show j = 0 ∨ j = 1 ∨ j = 2 ∨ j = 3 ∨ j = 4 by omega) with rfl | rfl | rfl | rfl | rfl
      · exact hgs _ (by decide +kernel)
      · exact hgs _ (by decide +kernel)
      · exact hgs _ (by decide +kernel)
      · exact hgs _ (by decide +kernel)
      · exact hgs _ (by decide +kernel)) (fun i j hi hj hij => absurd (show i = j by omega) hij) hA
  have hv0 := hVe 0 (by decide)
  have hZ : va_Z "java/lang/String" "COMPACT_STRINGS" "Z" (.int 1) (fun q : Nat => s.heap.size ≤ q) s s.heap := va_Zof (hts0 _ tb_ls) (hts0 _ tb_si) (va_eqt (hgs _ (by decide +kernel))) hA
  exact ⟨dC, dI, cI, cB, adK, adV, hK, fun w hw => va_Nw.of (vx_nest_tab w hw) (hts0 w (vx_nest_in w hw)), vk_R.of (hts0 _ tb_sr1) hv0, vk_R.of (hts0 _ tb_sr2) (va_eqR (hgs _ (by decide +kernel)) hv0), hV, hZ⟩
