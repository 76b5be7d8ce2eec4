/-! ===== the calls that change something ===== -/
theorem iv_eq2 {S S1 S2 : vx_St} {c1 c2 : List Nat} (ss : List Nat) (h1 : pu_chg S S1 c1) (h2 : pu_chg S1 S2 c2) (h35 : 35 ∉ c1) (hk : ∀ k, k ∉ ss → S2.1 35 k = S1.1 35 k) : iv_eq S S2 (c1 ++ c2) ss :=
  ⟨fun c _ h => by rw [h2.2 c (fun q => h (List.mem_append_right _ q)), h1.2 c (fun q => h (List.mem_append_left _ q))], fun k h => by rw [hk k h, h1.2 35 h35]⟩
theorem pu_chg_1 (S : vx_St) (c k : Nat) (x : Int32) : pu_chg S (vx_u S c k x) [c] := pu_chg_u (pu_chg_rf S _) _ _ (by simp)
theorem pu_chg_2 (S : vx_St) (c k k2 : Nat) (x y : Int32) : pu_chg S (vx_u (vx_u S c k x) c k2 y) [c] := pu_chg_u (pu_chg_u (pu_chg_rf S _) _ _ (by simp)) _ _ (by simp)
theorem st_letters {S S1 S2 : vx_St} {n z m kn km : Nat} (i : iv S n z m kn km) (w : Int64) {r1 r2 : Int32}
    (p1 : r1 = aw_letR (fun i => pu_code w (nI i)) z ∧ pu_chg S S1 [1, 2] ∧ S1.1 1 = upd (S.1 1) 0 (nI (z + aw_letK (fun i => pu_code w (nI i)) z)) ∧ S1.1 2 = pu_app (S.1 2) (fun i => pu_code w (nI i)) z (aw_letK (fun i => pu_code w (nI i)) z))
    (p2 : r2 = aw_letR (fun i => pm_code w (nI i)) z ∧ pu_chg S1 S2 [35, 46] ∧ S2.1 35 = upd (S1.1 35) 20 (nI (z + aw_letK (fun i => pm_code w (nI i)) z)) ∧ S2.1 46 = pu_app (S1.1 46) (fun i => pm_byte w (nI i)) z (aw_letK (fun i => pm_code w (nI i)) z)) : r1 = r2 ∧ ivx S2 := by
  obtain ⟨a1, a2, a3, a4⟩ := p1
  obtain ⟨b1, b2, b3, b4⟩ := p2
  obtain ⟨k1, k2, _⟩ := pq_okl_c (c := fun i => pm_code w (nI i)) (d := fun i => pu_code w (nI i)) 8 (fun j hj => pq_code w hj)
  have eK : aw_letK (fun i => pm_code w (nI i)) z = aw_letK (fun i => pu_code w (nI i)) z := by rw [aw_letK, aw_letK, k1, k2]
  refine ⟨by rw [a1, b1, aw_letR, aw_letR, k1, k2], ?_⟩
  obtain ⟨i1, i2, i3, i4, i5, i6⟩ := i
  rw [eK] at b3 b4
  have h := iv_eq2 [20] a2 b2 (by decide) (fun k hk => by rw [b3]; exact if_neg (fun q => hk (by rw [q]; simp)))
  have hKz : z + aw_letK (fun i => pu_code w (nI i)) z ≤ 12 := by
    rw [aw_letK]
    split
    · rename_i q; exact q.2
    · have := i1.1; omega
  have hcd : ∀ j, j < aw_letK (fun i => pu_code w (nI i)) z → ∃ v, v ≤ 126 ∧ pu_code w (nI j) = nI v ∧ pm_byte w (nI j) = nI v := by
    intro j hj
    rw [aw_letK] at hj
    split at hj
    · rename_i q
      have h8 : j < 8 := Nat.lt_of_lt_of_le hj (pu_many_le _ 8)
      obtain ⟨v, hv, e⟩ := pq_cN w (nI j) (pq_okl_le 8 q.1 j h8)
      exact ⟨v, hv, e, pq_byte w hv (by rw [pq_code w h8]; exact e)⟩
    · omega
  have q2 : S2.1 2 = pu_app (S.1 2) (fun i => pu_code w (nI i)) z (aw_letK (fun i => pu_code w (nI i)) z) := by rw [b2.2 2 (by decide)]; exact a4
  have m46 : S1.1 46 = S.1 46 := a2.2 46 (by decide)
  refine ⟨n, z + aw_letK (fun i => pu_code w (nI i)) z, m, kn, km, ⟨hKz, by rw [b2.2 1 (by decide), a3]; rfl, by rw [b3]; rfl, ?_, fun k => ?_⟩, ?_, ?_, ?_, ?_, ?_⟩
  · rw [q2, b4, m46, ← i1.2.2.2.1]
    funext j
    simp only [pu_app]
    split
    · rename_i q
      obtain ⟨v, _, e1, e2⟩ := hcd (j - z) (by omega)
      rw [e1, e2]
    · rfl
  · rw [q2]
    simp only [pu_app]
    split
    · rename_i q
      obtain ⟨v, hv, e1, _⟩ := hcd (k - z) (by omega)
      exact ⟨v, hv, e1⟩
    · exact i1.2.2.2.2 k
  · exact iv_hou_c h (by decide) (by decide) (fun c _ _ => by simp only [List.mem_append, List.mem_cons, List.not_mem_nil, or_false, not_or]; omega) (fun c _ _ => by simp only [List.mem_append, List.mem_cons, List.not_mem_nil, or_false, not_or]; omega) i2
  · exact iv_day_c h (by decide) (by decide) (by decide) (by decide) (by decide) (fun k _ _ => by simp only [List.mem_cons, List.not_mem_nil, or_false]; omega) i3
  · exact iv_rd_c h (by decide) (by decide) (by decide) (by decide) (by decide) (by decide) (fun c _ _ => by simp only [List.mem_append, List.mem_cons, List.not_mem_nil, or_false, not_or]; omega) i4
  · exact iv_ib_c h (by decide) (by decide) (by decide) (by decide) (by decide) i5
  · exact iv_im_c h (by decide) (fun c _ _ => by simp only [List.mem_append, List.mem_cons, List.not_mem_nil, or_false, not_or]; omega) (fun c _ _ => by simp only [List.mem_append, List.mem_cons, List.not_mem_nil, or_false, not_or]; omega) (fun c _ _ => by simp only [List.mem_append, List.mem_cons, List.not_mem_nil, or_false, not_or]; omega) (fun k _ _ => by simp only [List.mem_cons, List.not_mem_nil, or_false]; omega) (fun c _ _ => by simp only [List.mem_append, List.mem_cons, List.not_mem_nil, or_false, not_or]; omega) i6
theorem st_blank {S S1 S2 : vx_St} {n z m kn km : Nat} (i : iv S n z m kn km) {r1 r2 : Int32} (p1 : r1 = S.1 1 0 ∧ S1 = vx_u S 1 0 0) (p2 : r2 = S1.1 35 20 ∧ S2 = vx_u S1 35 20 0) : r1 = r2 ∧ ivx S2 := by
  obtain ⟨a1, rfl⟩ := p1
  obtain ⟨b1, rfl⟩ := p2
  obtain ⟨i1, i2, i3, i4, i5, i6⟩ := i
  have h := iv_eq2 [20] (pu_chg_1 S 1 0 0) (pu_chg_1 (vx_u S 1 0 0) 35 20 0) (by decide) (fun k hk => by rw [vx_u_row]; exact if_neg (fun q => hk (by rw [q]; simp)))
  refine ⟨by rw [a1, b1, vx_u_ne _ _ _ (by decide), i1.2.1, i1.2.2.1], n, 0, m, kn, km, ⟨by omega, by rw [vx_u_ne _ _ _ (by decide), vx_u_row]; rfl, by rw [vx_u_row]; rfl, ?_, ?_⟩, iv_hou_c h (by decide) (by decide) (fun c _ _ => by simp only [List.mem_append, List.mem_cons, List.not_mem_nil, or_false, not_or]; omega) (fun c _ _ => by simp only [List.mem_append, List.mem_cons, List.not_mem_nil, or_false, not_or]; omega) i2, iv_day_c h (by decide) (by decide) (by decide) (by decide) (by decide) (fun k _ _ => by simp only [List.mem_cons, List.not_mem_nil, or_false, not_or]; omega) i3, iv_rd_c h (by decide) (by decide) (by decide) (by decide) (by decide) (by decide) (fun c _ _ => by simp only [List.mem_append, List.mem_cons, List.not_mem_nil, or_false, not_or]; omega) i4, iv_ib_c h (by decide) (by decide) (by decide) (by decide) (by decide) i5, iv_im_c h (by decide) (fun c _ _ => by simp only [List.mem_append, List.mem_cons, List.not_mem_nil, or_false, not_or]; omega) (fun c _ _ => by simp only [List.mem_append, List.mem_cons, List.not_mem_nil, or_false, not_or]; omega) (fun c _ _ => by simp only [List.mem_append, List.mem_cons, List.not_mem_nil, or_false, not_or]; omega) (fun k _ _ => by simp only [List.mem_cons, List.not_mem_nil, or_false, not_or]; omega) (fun c _ _ => by simp only [List.mem_append, List.mem_cons, List.not_mem_nil, or_false, not_or]; omega) i6⟩
  · simp only [vx_u_ne _ _ _ (show (2 : Nat) ≠ 35 by decide), vx_u_ne _ _ _ (show (46 : Nat) ≠ 35 by decide), vx_u_ne _ _ _ (show (2 : Nat) ≠ 1 by decide), vx_u_ne _ _ _ (show (46 : Nat) ≠ 1 by decide)]
    exact i1.2.2.2.1
  · simp only [vx_u_ne _ _ _ (show (2 : Nat) ≠ 35 by decide), vx_u_ne _ _ _ (show (2 : Nat) ≠ 1 by decide)]
    exact i1.2.2.2.2
theorem st_wipe {S S1 S2 : vx_St} {n z m kn km : Nat} (i : iv S n z m kn km) {r1 r2 : Int32} (p1 : r1 = S.1 17 0 ∧ S1 = vx_u S 17 0 0) (p2 : r2 = S1.1 35 17 ∧ S2 = vx_u S1 35 17 0) : r1 = r2 ∧ ivx S2 := by
  obtain ⟨a1, rfl⟩ := p1
  obtain ⟨b1, rfl⟩ := p2
  obtain ⟨i1, i2, i3, i4, i5, i6⟩ := i
  have h := iv_eq2 [17] (pu_chg_1 S 17 0 0) (pu_chg_1 (vx_u S 17 0 0) 35 17 0) (by decide) (fun k hk => by rw [vx_u_row]; exact if_neg (fun q => hk (by rw [q]; simp)))
  exact ⟨by rw [a1, b1, vx_u_ne _ _ _ (by decide), i4.1, i4.2.1], n, z, 0, kn, km, iv_page_c h (by decide) (by decide) (by decide) (by decide) i1, iv_hou_c h (by decide) (by decide) (fun c _ _ => by simp only [List.mem_append, List.mem_cons, List.not_mem_nil, or_false, not_or]; omega) (fun c _ _ => by simp only [List.mem_append, List.mem_cons, List.not_mem_nil, or_false, not_or]; omega) i2, iv_day_c h (by decide) (by decide) (by decide) (by decide) (by decide) (fun k _ _ => by simp only [List.mem_cons, List.not_mem_nil, or_false, not_or]; omega) i3, ⟨by rw [vx_u_ne _ _ _ (by decide), vx_u_row]; rfl, by rw [vx_u_row]; rfl, by omega, fun r hr => absurd hr (Nat.not_lt_zero r)⟩, iv_ib_c h (by decide) (by decide) (by decide) (by decide) (by decide) i5, iv_im_c h (by decide) (fun c _ _ => by simp only [List.mem_append, List.mem_cons, List.not_mem_nil, or_false, not_or]; omega) (fun c _ _ => by simp only [List.mem_append, List.mem_cons, List.not_mem_nil, or_false, not_or]; omega) (fun c _ _ => by simp only [List.mem_append, List.mem_cons, List.not_mem_nil, or_false, not_or]; omega) (fun k _ _ => by simp only [List.mem_cons, List.not_mem_nil, or_false, not_or]; omega) (fun c _ _ => by simp only [List.mem_append, List.mem_cons, List.not_mem_nil, or_false, not_or]; omega) i6⟩
theorem iv_D_n {d tk d2 : Nat → Int32} {n : Nat} (h0 : d2 0 = d 0) (h1 : d2 1 = d 1) (h2 : d2 2 = d 2) (h6 : vx_b01 (d2 6) = d2 6) (h7 : d2 7 = d 7) (h8 : d2 8 = d 8) (h : iv_D d tk n) : iv_D d2 tk n := by
  obtain ⟨a, b, q, t, e1, e2, e3, e4, e5, e6, e7, e8, e9, f1, f2, f3, f4⟩ := h
  exact ⟨a, b, q, t, by rw [h0]; exact e1, e2, by rw [h1]; exact e3, e4, by rw [h2]; exact e5, e6, h6, by rw [h7]; exact e8, e9, f1, f2, f3, by rw [h8]; exact f4⟩
theorem iv_p_at {k q : Nat} (hk : k < 8) (hq : q < 8) (h : k ≠ q) : iv_p k ≠ iv_p q := by
  have : ∀ k, k < 8 → ∀ q, q < 8 → k ≠ q → iv_p k ≠ iv_p q := by decide +kernel
  exact this k hk q hq h
theorem iv_row1 {d s : Nat → Int32} (h : ∀ k, k < 8 → d k = s (iv_p k)) {q : Nat} (hq : q < 8) (x : Int32) : ∀ k, k < 8 → upd d q x k = upd s (iv_p q) x (iv_p k) := by
  intro k hk
  simp only [upd]
  by_cases e : k = q
  · rw [if_pos e, if_pos (by rw [e])]
  · rw [if_neg e, if_neg (iv_p_at hk hq e)]
    exact h k hk
theorem st_brake {S S1 S2 : vx_St} {n z m kn km : Nat} (i : iv S n z m kn km) {r1 r2 : Int32} (h b : Int32) (p1 : r1 = (if pu_hq h (S.1 3 0) = true then vx_i (pu_in (S.1 11 5) h) else -101) ∧ S1 = if pu_hq h (S.1 3 0) = true then vx_u S 11 5 (aw_brk (S.1 11 5) h b) else S) (p2 : r2 = (if pu_hq h (S1.1 35 0) = true then vx_i (pu_in (S1.1 35 9) h) else -101) ∧ S2 = if pu_hq h (S1.1 35 0) = true then vx_u S1 35 9 (aw_brk (S1.1 35 9) h b) else S1) : r1 = r2 ∧ ivx S2 := by
  obtain ⟨e0, e20, e17, eh, e10, e11, e12, e13, e14, e9, e16, e15, e46, e8⟩ := iv_e i
  by_cases q : pu_hq h (S.1 3 0) = true
  · rw [if_pos q, if_pos q] at p1
    obtain ⟨a1, rfl⟩ := p1
    rw [vx_u_ne _ _ _ (show (35 : Nat) ≠ 11 by decide), e0, if_pos q, if_pos q, e9] at p2
    obtain ⟨b1, rfl⟩ := p2
    obtain ⟨i1, i2, i3, i4, i5, i6⟩ := i
    have h := iv_eq2 [9] (pu_chg_1 S 11 5 (aw_brk (S.1 11 5) h b)) (pu_chg_1 (vx_u S 11 5 (aw_brk (S.1 11 5) h b)) 35 9 (aw_brk (S.1 11 5) h b)) (by decide) (fun k hk => by rw [vx_u_row]; exact if_neg (fun q => hk (by rw [q]; simp)))
    refine ⟨by rw [a1, b1], n, z, m, kn, km, iv_page_c h (by decide) (by decide) (by decide) (by decide) i1, iv_hou_c h (by decide) (by decide) (fun c _ _ => by simp only [List.mem_append, List.mem_cons, List.not_mem_nil, or_false, not_or]; omega) (fun c _ _ => by simp only [List.mem_append, List.mem_cons, List.not_mem_nil, or_false, not_or]; omega) i2, ?_, iv_rd_c h (by decide) (by decide) (by decide) (by decide) (by decide) (by decide) (fun c _ _ => by simp only [List.mem_append, List.mem_cons, List.not_mem_nil, or_false, not_or]; omega) i4, iv_ib_c h (by decide) (by decide) (by decide) (by decide) (by decide) i5, iv_im_c h (by decide) (fun c _ _ => by simp only [List.mem_append, List.mem_cons, List.not_mem_nil, or_false, not_or]; omega) (fun c _ _ => by simp only [List.mem_append, List.mem_cons, List.not_mem_nil, or_false, not_or]; omega) (fun c _ _ => by simp only [List.mem_append, List.mem_cons, List.not_mem_nil, or_false, not_or]; omega) (fun k _ _ => by simp only [List.mem_cons, List.not_mem_nil, or_false, not_or]; omega) (fun c _ _ => by simp only [List.mem_append, List.mem_cons, List.not_mem_nil, or_false, not_or]; omega) i6⟩
    unfold iv_day
    simp only [vx_u_if, reduceIte, Nat.reduceEqDiff]
    exact ⟨iv_row1 i3.1 (show 5 < 8 by decide) _, i3.2.1, i3.2.2.1, iv_D_n rfl rfl rfl (by obtain ⟨a, b, q, t, f1, f2, f3, f4, f5, f6, f7, f8, _⟩ := i3.2.2.2; exact f7) rfl rfl i3.2.2.2⟩
  · rw [if_neg q, if_neg q] at p1
    obtain ⟨a1, rfl⟩ := p1
    rw [e0, if_neg q, if_neg q] at p2
    obtain ⟨b1, rfl⟩ := p2
    exact ⟨by rw [a1, b1], n, z, m, kn, km, i⟩
theorem st_rain {S S1 S2 : vx_St} {n z m kn km : Nat} (i : iv S n z m kn km) {r1 r2 : Int32} (b : Int32) (hb : vx_b01 b = b) (p1 : r1 = vx_b01 (S.1 11 6) ∧ S1 = vx_u S 11 6 b) (p2 : r2 = vx_b01 (S1.1 35 16) ∧ S2 = vx_u S1 35 16 b) : r1 = r2 ∧ ivx S2 := by
  obtain ⟨e0, e20, e17, eh, e10, e11, e12, e13, e14, e9, e16, e15, e46, e8⟩ := iv_e i
  obtain ⟨a1, rfl⟩ := p1
  rw [vx_u_ne _ _ _ (show (35 : Nat) ≠ 11 by decide), e16] at p2
  obtain ⟨b1, rfl⟩ := p2
  obtain ⟨i1, i2, i3, i4, i5, i6⟩ := i
  have h := iv_eq2 [16] (pu_chg_1 S 11 6 b) (pu_chg_1 (vx_u S 11 6 b) 35 16 b) (by decide) (fun k hk => by rw [vx_u_row]; exact if_neg (fun q => hk (by rw [q]; simp)))
  refine ⟨by rw [a1, b1], n, z, m, kn, km, iv_page_c h (by decide) (by decide) (by decide) (by decide) i1, iv_hou_c h (by decide) (by decide) (fun c _ _ => by simp only [List.mem_append, List.mem_cons, List.not_mem_nil, or_false, not_or]; omega) (fun c _ _ => by simp only [List.mem_append, List.mem_cons, List.not_mem_nil, or_false, not_or]; omega) i2, ?_, iv_rd_c h (by decide) (by decide) (by decide) (by decide) (by decide) (by decide) (fun c _ _ => by simp only [List.mem_append, List.mem_cons, List.not_mem_nil, or_false, not_or]; omega) i4, iv_ib_c h (by decide) (by decide) (by decide) (by decide) (by decide) i5, iv_im_c h (by decide) (fun c _ _ => by simp only [List.mem_append, List.mem_cons, List.not_mem_nil, or_false, not_or]; omega) (fun c _ _ => by simp only [List.mem_append, List.mem_cons, List.not_mem_nil, or_false, not_or]; omega) (fun c _ _ => by simp only [List.mem_append, List.mem_cons, List.not_mem_nil, or_false, not_or]; omega) (fun k _ _ => by simp only [List.mem_cons, List.not_mem_nil, or_false, not_or]; omega) (fun c _ _ => by simp only [List.mem_append, List.mem_cons, List.not_mem_nil, or_false, not_or]; omega) i6⟩
  unfold iv_day
  simp only [vx_u_if, reduceIte, Nat.reduceEqDiff]
  exact ⟨iv_row1 i3.1 (show 6 < 8 by decide) _, i3.2.1, i3.2.2.1, iv_D_n (d := S.1 11) rfl rfl rfl hb rfl rfl i3.2.2.2⟩
theorem st_length {S S1 S2 : vx_St} {n z m kn km : Nat} (i : iv S n z m kn km) {r1 r2 : Int32} (v : Int32) (p1 : r1 = aw_len v (S.1 11 2) (S.1 11 0) ∧ S1 = if aw_lenB v (S.1 11 2) = true then vx_u (vx_u S 11 0 v) 11 1 v else S) (p2 : r2 = aw_len v (S1.1 35 12) (S1.1 35 10) ∧ S2 = if aw_lenB v (S1.1 35 12) = true then vx_u (vx_u S1 35 10 v) 35 11 v else S1) : r1 = r2 ∧ ivx S2 := by
  obtain ⟨e0, e20, e17, eh, e10, e11, e12, e13, e14, e9, e16, e15, e46, e8⟩ := iv_e i
  by_cases q : aw_lenB v (S.1 11 2) = true
  · rw [if_pos q] at p1
    obtain ⟨a1, rfl⟩ := p1
    rw [vx_u_ne _ _ _ (show (35 : Nat) ≠ 11 by decide), vx_u_ne _ _ _ (show (35 : Nat) ≠ 11 by decide), e12, e10, if_pos q] at p2
    obtain ⟨b1, rfl⟩ := p2
    obtain ⟨i1, i2, i3, i4, i5, i6⟩ := i
    have h := iv_eq2 [10, 11] (pu_chg_2 S 11 0 1 v v) (pu_chg_2 (vx_u (vx_u S 11 0 v) 11 1 v) 35 10 11 v v) (by decide) (fun k hk => by
      simp only [List.mem_cons, List.not_mem_nil, or_false, not_or] at hk
      simp only [vx_u_if, reduceIte, upd]
      rw [if_neg hk.2, if_neg hk.1])
    refine ⟨by rw [a1, b1], n, z, m, kn, km, iv_page_c h (by decide) (by decide) (by decide) (by decide) i1, iv_hou_c h (by decide) (by decide) (fun c _ _ => by simp only [List.mem_append, List.mem_cons, List.not_mem_nil, or_false, not_or]; omega) (fun c _ _ => by simp only [List.mem_append, List.mem_cons, List.not_mem_nil, or_false, not_or]; omega) i2, ?_, iv_rd_c h (by decide) (by decide) (by decide) (by decide) (by decide) (by decide) (fun c _ _ => by simp only [List.mem_append, List.mem_cons, List.not_mem_nil, or_false, not_or]; omega) i4, iv_ib_c h (by decide) (by decide) (by decide) (by decide) (by decide) i5, iv_im_c h (by decide) (fun c _ _ => by simp only [List.mem_append, List.mem_cons, List.not_mem_nil, or_false, not_or]; omega) (fun c _ _ => by simp only [List.mem_append, List.mem_cons, List.not_mem_nil, or_false, not_or]; omega) (fun c _ _ => by simp only [List.mem_append, List.mem_cons, List.not_mem_nil, or_false, not_or]; omega) (fun k _ _ => by simp only [List.mem_cons, List.not_mem_nil, or_false, not_or]; omega) (fun c _ _ => by simp only [List.mem_append, List.mem_cons, List.not_mem_nil, or_false, not_or]; omega) i6⟩
    unfold iv_day
    simp only [vx_u_if, reduceIte, Nat.reduceEqDiff]
    refine ⟨iv_row1 (iv_row1 i3.1 (show 0 < 8 by decide) v) (show 1 < 8 by decide) v, i3.2.1, i3.2.2.1, ?_⟩
    obtain ⟨a, b, hh, t, f1, f2, f3, f4, f5, f6, f7, f8, f9, g1, g2, g3, g4⟩ := i3.2.2.2
    simp only [aw_lenB, Bool.and_eq_true, decide_eq_true_eq] at q
    obtain ⟨x, hx, rfl⟩ := nI_of2 (M := 99) (n := 99) (by decide) (fun w => absurd (Int32.le_trans (show (0 : Int32) ≤ 1 by decide) q.1) (pu_lt w)) q.2.1
    have hx1 : 1 ≤ x := by
      have := q.1
      rw [show (1 : Int32) = nI 1 from rfl, nI_leI (by decide) (by omega)] at this
      exact this
    have hh0 : hh = 0 := by
      have := q.2.2
      rw [f5, show (0 : Int32) = nI 0 from rfl, nI_ltI (by decide) (by omega)] at this
      omega
    have ht0 := g3 hh0
    have hs0 : fb_sm t n = 0 := by
      rw [fb_sm_cong (g := fun _ => 0) (fun k _ => ht0 k), fb_sm_const]
      omega
    exact ⟨x, x, hh, t, rfl, ⟨hx1, hx⟩, rfl, Nat.le_refl x, f5, f6, f7, f8, f9, g1, by omega, g3, g4⟩
  · rw [if_neg q] at p1
    obtain ⟨a1, rfl⟩ := p1
    rw [e12, e10, if_neg q] at p2
    obtain ⟨b1, rfl⟩ := p2
    exact ⟨by rw [a1, b1], n, z, m, kn, km, i⟩
theorem st_read {S S1 S2 : vx_St} {n z m kn km : Nat} (i : iv S n z m kn km) {r1 r2 : Int32} (t f : Int32) (p1 : r1 = aw_read t f (S.1 3 0) m ∧ S1 = if aw_rdB t f (S.1 3 0) = true ∧ m < 8 then vx_u (vx_u (vx_u S 18 m (pu_or (S.1 10) t n)) 19 m (f - pu_sum (S.1 8) t n - pu_sum (S.1 9) (pu_or (S.1 10) t n) n)) 17 0 (nI (m + 1)) else S) (p2 : r2 = aw_read t f (S1.1 35 0) m ∧ S2 = if aw_rdB t f (S1.1 35 0) = true ∧ m < 8 then vx_u (vx_u (vx_u S1 44 m t) 45 m f) 35 17 (nI (m + 1)) else S1) : r1 = r2 ∧ ivx S2 := by
  obtain ⟨e0, e20, e17, eh, e10, e11, e12, e13, e14, e9, e16, e15, e46, e8⟩ := iv_e i
  by_cases q : aw_rdB t f (S.1 3 0) = true ∧ m < 8
  · rw [if_pos q] at p1
    obtain ⟨a1, d1⟩ := p1
    have m35 : S1.1 35 = S.1 35 := by rw [d1]; simp only [vx_u_if, reduceIte, Nat.reduceEqDiff]
    rw [m35, e0, if_pos q] at p2
    obtain ⟨b1, d2⟩ := p2
    obtain ⟨i1, i2, i3, i4, i5, i6⟩ := i
    have c1 : pu_chg S S1 [17, 18, 19] := by rw [d1]; exact pu_chg_u (pu_chg_u (pu_chg_u (pu_chg_rf S _) _ _ (by simp)) _ _ (by simp)) _ _ (by simp)
    have c2 : pu_chg S1 S2 [35, 44, 45] := by rw [d2]; exact pu_chg_u (pu_chg_u (pu_chg_u (pu_chg_rf S1 _) _ _ (by simp)) _ _ (by simp)) _ _ (by simp)
    have h := iv_eq2 [17] c1 c2 (by decide) (fun k hk => by
      rw [d2]
      simp only [vx_u_if, reduceIte, Nat.reduceEqDiff, upd]
      exact if_neg (fun z => hk (by rw [z]; simp)))
    have s35 : S2.1 35 17 = nI (m + 1) := by rw [d2]; simp only [vx_u_row]; exact if_pos rfl
    have s17 : S2.1 17 0 = nI (m + 1) := by rw [c2.2 17 (by decide), d1, vx_u_row]; exact if_pos rfl
    have s18 : S2.1 18 = upd (S.1 18) m (pu_or (S.1 10) t n) := by rw [c2.2 18 (by decide), d1]; simp only [vx_u_if, reduceIte, Nat.reduceEqDiff]
    have s19 : S2.1 19 = upd (S.1 19) m (f - pu_sum (S.1 8) t n - pu_sum (S.1 9) (pu_or (S.1 10) t n) n) := by rw [c2.2 19 (by decide), d1]; simp only [vx_u_if, reduceIte, Nat.reduceEqDiff]
    have s44 : S2.1 44 = upd (S.1 44) m t := by rw [d2]; simp only [vx_u_if, reduceIte, Nat.reduceEqDiff]; rw [c1.2 44 (by decide)]
    have s45 : S2.1 45 = upd (S.1 45) m f := by rw [d2]; simp only [vx_u_if, reduceIte, Nat.reduceEqDiff]; rw [c1.2 45 (by decide)]
    refine ⟨by rw [a1, b1], n, z, m + 1, kn, km, iv_page_c h (by decide) (by decide) (by decide) (by decide) i1, iv_hou_c h (by decide) (by decide) (fun c _ _ => by simp only [List.mem_append, List.mem_cons, List.not_mem_nil, or_false, not_or]; omega) (fun c _ _ => by simp only [List.mem_append, List.mem_cons, List.not_mem_nil, or_false, not_or]; omega) i2, iv_day_c h (by decide) (by decide) (by decide) (by decide) (by decide) (fun k _ _ => by simp only [List.mem_cons, List.not_mem_nil, or_false, not_or]; omega) i3, ⟨s17, s35, ?_⟩, iv_ib_c h (by decide) (by decide) (by decide) (by decide) (by decide) i5, iv_im_c h (by decide) (fun c _ _ => by simp only [List.mem_append, List.mem_cons, List.not_mem_nil, or_false, not_or]; omega) (fun c _ _ => by simp only [List.mem_append, List.mem_cons, List.not_mem_nil, or_false, not_or]; omega) (fun c _ _ => by simp only [List.mem_append, List.mem_cons, List.not_mem_nil, or_false, not_or]; omega) (fun k _ _ => by simp only [List.mem_cons, List.not_mem_nil, or_false, not_or]; omega) (fun c _ _ => by simp only [List.mem_append, List.mem_cons, List.not_mem_nil, or_false, not_or]; omega) i6⟩
    rw [iv_hs_c h (fun c _ _ => by simp only [List.mem_append, List.mem_cons, List.not_mem_nil, or_false, not_or]; omega), h.1 10 (by decide) (by decide), s18, s19, s44, s45]
    have qb := q.1
    simp only [aw_rdB, aw_bits, Bool.and_eq_true, decide_eq_true_eq] at qb
    rw [i2.2.1, pu_all_nI n i2.1] at qb
    have h2n := pu_2n n i2.1
    obtain ⟨T, hT, rfl⟩ := nI_of2 (M := nI (2 ^ n - 1)) (n := 2 ^ n - 1) (nI_toInt (by omega)) (fun w => absurd qb.2.1.1 (pu_lt w)) qb.2.1.2
    refine ⟨by omega, fun r hr => ?_⟩
    by_cases e : r = m
    · subst e
      refine ⟨T, by omega, pk_us, pk_us, ?_⟩
      rw [pk_us, pk_us]
      rfl
    · rw [pk_un e, pk_un e, pk_un e, pk_un e]
      exact i4.2.2.2 r (by omega)
  · rw [if_neg q] at p1
    obtain ⟨a1, rfl⟩ := p1
    rw [e0, if_neg q] at p2
    obtain ⟨b1, rfl⟩ := p2
    exact ⟨by rw [a1, b1], n, z, m, kn, km, i⟩
theorem st_night {S S1 S2 : vx_St} {n z m kn km : Nat} (i : iv S n z m kn km) {r1 r2 : Int32} (p1 : r1 = S.1 11 0 - S.1 11 1 ∧ pu_chg S S1 [11, 12, 13, 15, 16] ∧ S1.1 11 = pu_ngt (S.1 11) ∧ S1.1 12 = pu_fill (fun _ => 0) (S.1 12) n ∧ S1.1 13 = pu_fill (fun h => pu_mn (S.1 13 h + pu_pts (S.1 11 0 - S.1 11 1) (S.1 11 8) (S.1 12) (S.1 15) (S.1 16) n h)) (S.1 13) n) (p2 : r2 = (S1.1 35 10 - S1.1 35 11) ∧ pu_chg S1 S2 [35, 42, 43] ∧ S2.1 35 = pm_ngt (S1.1 35) ∧ S2.1 42 = pu_fill (fun _ => 0) (S1.1 42) n ∧ S2.1 43 = pu_fill (fun h => pm_mn (S1.1 43 h + pm_part (S1.1 35 10 - S1.1 35 11) (S1.1 42) n h)) (S1.1 43) n) : r1 = r2 ∧ ivx S2 := by
  have sp := fun k (hk : k < n) => s_part i (S.1 15) (S.1 16) hk
  obtain ⟨e0, e20, e17, eh, e10, e11, e12, e13, e14, e9, e16, e15, e46, e8⟩ := iv_e i
  obtain ⟨a1, c1, a2, a3, a4⟩ := p1
  obtain ⟨b1, c2, b2, b3, b4⟩ := p2
  rw [c1.2 35 (by decide)] at b1 b2 b4
  rw [c1.2 42 (by decide)] at b3 b4
  rw [c1.2 43 (by decide)] at b4
  obtain ⟨i1, i2, i3, i4, i5, i6⟩ := i
  have h := iv_eq2 [11, 12, 13, 14, 15] c1 c2 (by decide) (fun k hk => by
    simp only [List.mem_cons, List.not_mem_nil, or_false, not_or] at hk
    rw [b2, c1.2 35 (by decide)]
    simp only [pm_ngt, upd]
    rw [if_neg (by omega), if_neg (by omega), if_neg (by omega), if_neg (by omega), if_neg (by omega)])
  have s11 : S2.1 11 = pu_ngt (S.1 11) := by rw [c2.2 11 (by decide)]; exact a2
  have s12 : S2.1 12 = pu_fill (fun _ => 0) (S.1 12) n := by rw [c2.2 12 (by decide)]; exact a3
  have s13 := c2.2 13 (by decide)
  refine ⟨by rw [a1, b1, e10, e11], n, z, m, kn, km, iv_page_c h (by decide) (by decide) (by decide) (by decide) i1, iv_hou_c h (by decide) (by decide) (fun c _ _ => by simp only [List.mem_append, List.mem_cons, List.not_mem_nil, or_false, not_or]; omega) (fun c _ _ => by simp only [List.mem_append, List.mem_cons, List.not_mem_nil, or_false, not_or]; omega) i2, ⟨?_, ?_, ?_, ?_⟩, iv_rd_c h (by decide) (by decide) (by decide) (by decide) (by decide) (by decide) (fun c _ _ => by simp only [List.mem_append, List.mem_cons, List.not_mem_nil, or_false, not_or]; omega) i4, iv_ib_c h (by decide) (by decide) (by decide) (by decide) (by decide) i5, iv_im_c h (by decide) (fun c _ _ => by simp only [List.mem_append, List.mem_cons, List.not_mem_nil, or_false, not_or]; omega) (fun c _ _ => by simp only [List.mem_append, List.mem_cons, List.not_mem_nil, or_false, not_or]; omega) (fun c _ _ => by simp only [List.mem_append, List.mem_cons, List.not_mem_nil, or_false, not_or]; omega) (fun k _ _ => by simp only [List.mem_cons, List.not_mem_nil, or_false, not_or]; omega) (fun c _ _ => by simp only [List.mem_append, List.mem_cons, List.not_mem_nil, or_false, not_or]; omega) i6⟩
  · intro k hk
    rw [s11, b2]
    have := i3.1 k hk
    rcases (show k = 0 ∨ k = 1 ∨ k = 2 ∨ k = 3 ∨ k = 4 ∨ k = 5 ∨ k = 6 ∨ k = 7 by omega) with rfl | rfl | rfl | rfl | rfl | rfl | rfl | rfl
    · exact this
    · exact e10.symm
    · rfl
    · rfl
    · rfl
    · exact this
    · exact this
    · rfl
  · intro j hj
    rw [s12, b3]
    simp only [pu_fill]
    split
    · rfl
    · exact i3.2.1 j hj
  · intro j hj
    rw [s13, a4, b4]
    simp only [pu_fill]
    split
    · rename_i hjn
      rw [sp j hjn, pq_mn, i3.2.2.1 j hj]
    · exact i3.2.2.1 j hj
  · obtain ⟨a, b, hh, t, f1, f2, f3, f4, f5, f6, f7, f8, f9, g1, g2, g3, g4⟩ := i3.2.2.2
    rw [s11, s12]
    refine ⟨a, a, 0, fun _ => 0, f1, f2, f1, Nat.le_refl a, rfl, by omega, f7, rfl, fun j hj => ?_, fun _ _ => rfl, by rw [fb_sm_const]; omega, fun _ _ => rfl, by rw [fb_sm_const]; rfl⟩
    simp only [pu_fill]
    split
    · rfl
    · rw [f9 j hj, g1 j (by omega)]
theorem pq_gofS {W : Nat → Int32} (t : Int32) : ∀ n, (∀ j, j < n → ∃ w, w ≤ 18 ∧ W j = nI w) → pu_gof W t n = nI (fb_sm (fun j => if pu_in t (nI j) = true ∧ 0 < W j then (W j).toNatClampNeg else 0) n) ∧ fb_sm (fun j => if pu_in t (nI j) = true ∧ 0 < W j then (W j).toNatClampNeg else 0) n ≤ 18 * n
  | 0, _ => ⟨rfl, by simp [fb_sm]⟩
  | n + 1, h => by
    obtain ⟨h1, h2⟩ := pq_gofS t n (fun j hj => h j (by omega))
    obtain ⟨w, hw, e⟩ := h n (by omega)
    simp only [fb_sm_succ]
    rw [pu_gof]
    by_cases q : pu_in t (nI n) = true ∧ 0 < W n
    · rw [if_pos q, if_pos q, h1, e, nI_clamp (by omega), nI_add]
      exact ⟨rfl, by omega⟩
    · rw [if_neg q, if_neg q]
      exact ⟨h1, by omega⟩
theorem fb_sm_c0 {f g : Nat → Nat} (n : Nat) : fb_sm (fun j => f j + g j) n = fb_sm f n + fb_sm g n := fb_sm_add f g n
theorem st_hour {S S1 S2 : vx_St} {n z m kn km : Nat} (i : iv S n z m kn km) {r1 r2 : Int32} (p1 : r1 = (if aw_goB (S.1 11 2) (S.1 11 7) = true then pu_feet (pu_hs S) (S.1 10) (S.1 11 6) (S.1 11 1) (S.1 11 2) (S.1 11 5) (S.1 11 4) n else -103) ∧ pu_chg S S1 [11, 12, 14] ∧ S1.1 11 = (if aw_goB (S.1 11 2) (S.1 11 7) = true then pu_nx (pu_hs S) (S.1 10) (S.1 11) n else S.1 11) ∧ S1.1 12 = (if aw_goB (S.1 11 2) (S.1 11 7) = true then pu_took (S.1 12) (pu_W (pu_hs S) (S.1 11 2) (S.1 11 5) (S.1 11 4)) (pu_set2 (pu_hs S) (S.1 10) (S.1 11 6) (S.1 11 1) (S.1 11 2) (S.1 11 5) (S.1 11 4) n) n else S.1 12)) (p2 : r2 = (if aw_goB (S1.1 35 12) (S1.1 35 15) = true then pm_feetH (pu_hm S1) (S1.1 35 16) (S1.1 35 11) (S1.1 35 12) (S1.1 35 9) (S1.1 35 14) n else -103) ∧ pu_chg S1 S2 [35, 42] ∧ S2.1 35 = (if aw_goB (S1.1 35 12) (S1.1 35 15) = true then pm_nx (pu_hm S1) (S1.1 35) n else S1.1 35) ∧ S2.1 42 = (if aw_goB (S1.1 35 12) (S1.1 35 15) = true then (if pm_dn (pu_hm S1) (S1.1 35 16) (S1.1 35 11) (S1.1 35 12) (S1.1 35 9) (S1.1 35 14) n = true then S1.1 42 else pm_took (S1.1 42) (pm_W (pu_hm S1) (S1.1 35 12) (S1.1 35 9) (S1.1 35 14)) (pm_set (pu_hm S1) (S1.1 35 16) (S1.1 35 11) (S1.1 35 12) (S1.1 35 9) (S1.1 35 14) n) n) else S1.1 42)) : r1 = r2 ∧ ivx S2 := by
  have hrn := s_rn i
  obtain ⟨e0, e20, e17, eh, e10, e11, e12, e13, e14, e9, e16, e15, e46, e8⟩ := iv_e i
  obtain ⟨a1, c1, a2, a3⟩ := p1
  obtain ⟨b1, c2, b2, b3⟩ := p2
  have mh : pu_hm S1 = pu_hs S := (pu_hm_c (fun c h1 h2 => c1.2 c (by simp only [List.mem_cons, List.not_mem_nil, or_false, not_or]; omega))).trans eh
  have m35 := c1.2 35 (by decide)
  have m42 := c1.2 42 (by decide)
  rw [mh, m35] at b1 b2 b3
  rw [m42] at b3
  rw [e12, e15, e16, e11, e9, e14] at b1 b3
  rw [e12, e15] at b2
  obtain ⟨i1, i2, i3, i4, i5, i6⟩ := i
  obtain ⟨hn, hn1, hn2, hhm, hv, hto, hhv⟩ := id i2
  rw [pq_feet hn hv hto hrn] at b1
  rw [pq_took hn hv hto hrn] at b3
  have h := iv_eq2 [11, 12, 13, 14, 15] c1 c2 (by decide) (fun k hk => by
    simp only [List.mem_cons, List.not_mem_nil, or_false, not_or] at hk
    rw [b2, m35]
    split
    · exact pm_nx_o _ _ _ (by omega)
    · rfl)
  refine ⟨by rw [a1, b1], n, z, m, kn, km, iv_page_c h (by decide) (by decide) (by decide) (by decide) i1, iv_hou_c h (by decide) (by decide) (fun c _ _ => by simp only [List.mem_append, List.mem_cons, List.not_mem_nil, or_false, not_or]; omega) (fun c _ _ => by simp only [List.mem_append, List.mem_cons, List.not_mem_nil, or_false, not_or]; omega) i2, ?_, iv_rd_c h (by decide) (by decide) (by decide) (by decide) (by decide) (by decide) (fun c _ _ => by simp only [List.mem_append, List.mem_cons, List.not_mem_nil, or_false, not_or]; omega) i4, iv_ib_c h (by decide) (by decide) (by decide) (by decide) (by decide) i5, iv_im_c h (by decide) (fun c _ _ => by simp only [List.mem_append, List.mem_cons, List.not_mem_nil, or_false, not_or]; omega) (fun c _ _ => by simp only [List.mem_append, List.mem_cons, List.not_mem_nil, or_false, not_or]; omega) (fun c _ _ => by simp only [List.mem_append, List.mem_cons, List.not_mem_nil, or_false, not_or]; omega) (fun k _ _ => by simp only [List.mem_cons, List.not_mem_nil, or_false, not_or]; omega) (fun c _ _ => by simp only [List.mem_append, List.mem_cons, List.not_mem_nil, or_false, not_or]; omega) i6⟩
  have s11 := (c2.2 11 (by decide)).trans a2
  have s12 := (c2.2 12 (by decide)).trans a3
  have s13 : S2.1 13 = S.1 13 := (c2.2 13 (by decide)).trans (c1.2 13 (by decide))
  have s43 : S2.1 43 = S.1 43 := (c2.2 43 (by decide)).trans (c1.2 43 (by decide))
  by_cases q : aw_goB (S.1 11 2) (S.1 11 7) = true
  · rw [if_pos q] at s11 s12 b2 b3
    refine ⟨?_, ?_, fun j hj => by rw [s13, s43]; exact i3.2.2.1 j hj, ?_⟩
    · intro k hk
      rw [s11, b2]
      have := i3.1 k hk
      rcases (show k = 0 ∨ k = 1 ∨ k = 2 ∨ k = 3 ∨ k = 4 ∨ k = 5 ∨ k = 6 ∨ k = 7 by omega) with rfl | rfl | rfl | rfl | rfl | rfl | rfl | rfl
      · rw [pu_nx_0]; exact this.trans (pm_nx_o _ _ _ (by decide)).symm
      · rw [pu_nx_1]; refine Eq.trans ?_ (pm_nx_11 _ _ _).symm; rw [e12, e16, e11, e9, e14, pq_feet hn hv hto hrn]
      · rw [pu_nx_2]; refine Eq.trans ?_ (pm_nx_12 _ _ _).symm; rw [e12]
      · rw [pu_nx_3]; refine Eq.trans ?_ (pm_nx_13 _ _ _).symm; rw [e12, e16, e11, e9, e14, e13, pq_feet hn hv hto hrn, pq_tn hn hv hto hrn]
      · rw [pu_nx_4]; refine Eq.trans ?_ (pm_nx_14 _ _ _).symm; rw [e12, e16, e11, e9, e14, pq_s2 hn hv hto hrn]
      · rw [pu_nx_5]; exact this.trans (pm_nx_o _ _ _ (by decide)).symm
      · rw [pu_nx_6]; exact this.trans (pm_nx_o _ _ _ (by decide)).symm
      · rw [pu_nx_7]; refine Eq.trans ?_ (pm_nx_15 _ _ _).symm; rw [e12, e16, e11, e9, e14, e15, pq_dn hn hv hto hrn]
    · intro j hj
      rw [s12, b3]
      simp only [pu_took]
      rw [i3.2.1 j hj]
    · obtain ⟨a, b, hh, t, f1, f2, f3, f4, f5, f6, f7, f8, f9, g1, g2, g3, g4⟩ := i3.2.2.2
      rw [s11, s12]
      have hW := fun j (hj : j < n) => pq_Wn hhv (S.1 11 2) (S.1 11 5) (S.1 11 4) hj
      obtain ⟨x, f, x1, x2, x3, x4⟩ := pq_ft hn hhv (S.1 10) (S.1 11 6) (S.1 11 2) (S.1 11 5) (S.1 11 4) (show b ≤ 1000 by omega)
      rw [← f3] at x1 x2
      obtain ⟨y1, y2⟩ := pq_gofS (W := pu_W (pu_hs S) (S.1 11 2) (S.1 11 5) (S.1 11 4)) (pu_set2 (pu_hs S) (S.1 10) (S.1 11 6) (S.1 11 1) (S.1 11 2) (S.1 11 5) (S.1 11 4) n) n hW
      have hx : x = fb_sm (fun j => if pu_in (pu_set2 (pu_hs S) (S.1 10) (S.1 11 6) (S.1 11 1) (S.1 11 2) (S.1 11 5) (S.1 11 4) n) (nI j) = true ∧ 0 < pu_W (pu_hs S) (S.1 11 2) (S.1 11 5) (S.1 11 4) j then (pu_W (pu_hs S) (S.1 11 2) (S.1 11 5) (S.1 11 4) j).toNatClampNeg else 0) n := by
        rw [x1, nI_eq (by omega) (by omega)] at y1
        exact y1
      have hh9 : hh < 9 := by
        simp only [aw_goB, Bool.and_eq_true, decide_eq_true_eq] at q
        have := q.1
        rw [f5, show (9 : Int32) = nI 9 from rfl, nI_ltI (by omega) (by decide)] at this
        exact this
      refine ⟨a, b - f, hh + 1, fun j => t j + (if j < n then (if pu_in (pu_set2 (pu_hs S) (S.1 10) (S.1 11 6) (S.1 11 1) (S.1 11 2) (S.1 11 5) (S.1 11 4) n) (nI j) = true ∧ 0 < pu_W (pu_hs S) (S.1 11 2) (S.1 11 5) (S.1 11 4) j then (pu_W (pu_hs S) (S.1 11 2) (S.1 11 5) (S.1 11 4) j).toNatClampNeg else 0) else 0), ?_, f2, ?_, by omega, ?_, by omega, ?_, ?_, fun j hj => ?_, fun j hj => ?_, ?_, fun z => absurd z (by omega), ?_⟩
      · rw [pu_nx_0]; exact f1
      · rw [pu_nx_1, x2, f3, pk_sub x4]
      · rw [pu_nx_2, f5, nI_1]
      · rw [pu_nx_6]; exact f7
      · rw [pu_nx_7]
        split
        · rfl
        · exact f8
      · simp only [pu_took]
        by_cases w : j < n
        · rw [if_pos w, if_pos w]
          by_cases v : pu_in (pu_set2 (pu_hs S) (S.1 10) (S.1 11 6) (S.1 11 1) (S.1 11 2) (S.1 11 5) (S.1 11 4) n) (nI j) = true ∧ 0 < pu_W (pu_hs S) (S.1 11 2) (S.1 11 5) (S.1 11 4) j
          · rw [if_pos v, if_pos v, f9 j hj]
            obtain ⟨u, hu, eu⟩ := hW j w
            rw [eu, nI_clamp (by omega), nI_add]
          · rw [if_neg v, if_neg v]
            exact f9 j hj
        · rw [if_neg w, if_neg w]
          exact f9 j hj
      · show t j + _ = 0
        rw [if_neg (by omega), g1 j hj]
      · rw [fb_sm_add]
        rw [fb_sm_cong (f := fun j => if j < n then _ else 0) (fun k hk => if_pos hk), ← hx]
        omega
      · rw [pu_nx_8, g4, x1, nI_add, fb_sm_add]
        rw [fb_sm_cong (f := fun j => if j < n then _ else 0) (fun k hk => if_pos hk), ← hx]
  · rw [if_neg q] at s11 s12 b2 b3
    refine ⟨?_, ?_, fun j hj => by rw [s13, s43]; exact i3.2.2.1 j hj, by rw [s11, s12]; exact i3.2.2.2⟩
    · rw [s11, b2]; exact i3.1
    · rw [s12, b3]; exact i3.2.1
