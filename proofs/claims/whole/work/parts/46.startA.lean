/-! ===== the start: the store of two new objects ===== -/
def st_d : Nat → Int32 := fun j => if j = 0 then 60 else if j = 1 then 60 else 0
def st_m : Nat → Int32 := fun j => if j = 10 then 60 else if j = 11 then 60 else 0
def st_0 : vx_St := (fun c => if c = 11 then st_d else if c = 20 then st_d else if c = 26 then st_d else if c = 35 then st_m else fun _ => 0, fun _ _ => 0)
theorem iv_0x : ivx st_0 := by
  refine ⟨0, 0, 0, 0, 0, ⟨by decide, rfl, rfl, rfl, fun k => ⟨0, by decide, rfl⟩⟩, ⟨by decide, rfl, rfl, ?_, fun j hj => absurd hj (Nat.not_lt_zero j), fun j => ⟨0, by decide, rfl⟩, fun j hj => absurd hj (Nat.not_lt_zero j)⟩, ⟨?_, fun j _ => rfl, fun j _ => rfl, ?_⟩, ⟨rfl, rfl, by decide, fun r hr => absurd hr (Nat.not_lt_zero r)⟩, ⟨rfl, rfl, rfl, rfl, rfl⟩, fun h => absurd rfl h⟩
  · funext w
    rcases (show w = 0 ∨ w = 1 ∨ w = 2 ∨ w = 3 ∨ w = 4 ∨ w = 5 ∨ 6 ≤ w by omega) with rfl | rfl | rfl | rfl | rfl | rfl | hw
    · rfl
    · rfl
    · rfl
    · rfl
    · rfl
    · rfl
    · simp only [pu_hm, pu_hs, if_neg (show ¬ w < 6 by omega)]
  · intro k hk
    rcases (show k = 0 ∨ k = 1 ∨ k = 2 ∨ k = 3 ∨ k = 4 ∨ k = 5 ∨ k = 6 ∨ k = 7 by omega) with rfl | rfl | rfl | rfl | rfl | rfl | rfl | rfl <;> rfl
  · exact ⟨60, 60, 0, fun _ => 0, rfl, by decide, rfl, by decide, rfl, by decide, rfl, rfl, fun j _ => rfl, fun _ _ => rfl, by decide, fun _ _ => rfl, rfl⟩
theorem iv_0 : ivz st_0 := ⟨iv_0x, fun k _ _ => ⟨b_0 k, rfl⟩, fun h => absurd rfl h⟩
def st_ad (u v : Nat → Nat) : Nat → Nat := fun c => if c < 35 then u c else v (c - 35)
theorem vx_c_o (g : vx_G) (S : vx_St) (c ci : Nat) (fs : List (Nat ⊕ Nat)) : vx_c g S c (.inr (ci, fs)) = .inr (ci, fs.mapIdx (fun k d => vx_f g.2.2.1 c (S.1 c k) (S.2 c k) d)) := rfl
set_option maxRecDepth 100000 in
set_option maxHeartbeats 4000000 in
theorem st_w (dC : Nat → ClassId) (dI : Nat → Nat → Nat) (cI cB : ClassId) (u v adK adV : Nat → Nat) : vx_w ((dC, dI), (cI, cB), st_ad u v, adK, adV) st_0 = mk_X4 cI cB u ++ mk_X5 cI cB v := by
  simp only [vx_w, vx_SH, vx_sA, vx_sDay, vx_sRd, vx_c_o, List.mapIdx_cons, List.mapIdx_nil, mk_X4, mk_X5, List.cons_append, List.nil_append, Nat.reduceAdd]
  rfl
theorem st_inj {g : vx_G} {S : vx_St} {A : Nat → Prop} (h : va_D A (vx_w g S)) : vx_inj g ∧ ∀ q, vx_A g q → A q := by
  have hat : ∀ i, i < 52 → ∃ x, (vx_w g S)[i]? = some (g.2.2.1 i, x) := fun i hi => by
    have hs : vx_SH[i]? = some (vx_SH[i]'(by rw [vx_SH_len]; exact hi)) := List.getElem?_eq_getElem _
    exact ⟨_, vx_w_at hs⟩
  refine ⟨fun i j hi hj e => ?_, fun q hq => ?_⟩
  · obtain ⟨x, hx⟩ := hat i hi
    obtain ⟨y, hy⟩ := hat j hj
    exact h.1 i j _ _ hx hy e
  · obtain ⟨c, hc, rfl⟩ := hq
    obtain ⟨x, hx⟩ := hat c hc
    exact h.2 c _ hx
theorem vx_nest_tab : ∀ w ∈ vx_nest, w.onTables = true := by
  have h : vx_nest.all (fun w => w.onTables) = true := by decide +kernel
  exact fun w hw => List.all_eq_true.mp h w hw
