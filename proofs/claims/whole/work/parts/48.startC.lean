/-- the law's loop, from the two new objects -/
theorem ws_end {p : Program} {l : Launch} {e : Env} {s : State} {m : MethodId} {below : List Frame} {meth : Method} {c : Code} {b L : Nat} {xs : Nat → Int32} (hL : L ≤ 1536) (C0 : lw_At p s m meth c b L xs) {dC : Nat → ClassId} {dI : Nat → Nat → Nat} {cI cB : ClassId} {adK adV : Nat → Nat} (hK : va_K (dC, dI) vx_Cl [(cI, .int), (cB, .byte)] s) (hN : ∀ w ∈ vx_nest, va_Nw w s) (hR1 : vk_R "TownOnWeight$Page" 41 "hcusx" (adK 0) s) (hR2 : vk_R "TownOnWeight" 116 "hcusx" (adK 0) s) (hV : vk_S 1 [5] [[104, 99, 117, 115, 120]] adK adV (fun q : Nat => s.heap.size ≤ q) s s.heap) (hZ : va_Z "java/lang/String" "COMPACT_STRINGS" "Z" (.int 1) (fun q : Nat => s.heap.size ≤ q) s s.heap)
    {u v : Nat → Nat} {ls : Array Slot} {H : Heap} {locs : List Loc} (hl : lv_has ls 4 [(3, .int 0), (2, .ref (v 0)), (1, .ref (u 0)), (0, .ref b)]) (hP : va_P (dC, dI) vx_Cl (mk_X4 cI cB u ++ mk_X5 cI cB v) H) (hD : va_D (fun q : Nat => s.heap.size ≤ q) (mk_X4 cI cB u ++ mk_X5 cI cB v)) (hS : va_S (fun q : Nat => s.heap.size ≤ q) s.heap H locs) : W p l e room_1 s m #[Value.ref b] below meth c H locs 52 466 (lw_Z below #[Value.ref b] s) (F0 m 18 ls []) := by
  obtain ⟨hx, hb, hr, hml, hown, hts0, hX, hbl, hlocks, hgv⟩ := C0
  have hown : s.vm.findClass RL = some m.cls := hown
  have hts : ∀ w ∈ wsL_law, w.before #[Value.ref b] s = true := fun w h => hts0 w (wsL_law_in w h)
  have ew := st_w dC dI cI cB u v adK adV
  generalize mk_X4 cI cB u ++ mk_X5 cI cB v = ww at ew hP hD
  subst ew
  generalize hge : (((dC, dI), (cI, cB), st_ad u v, adK, adV) : vx_G) = g at hP hD
  obtain ⟨hj, hg⟩ := st_inj hD
  have g1 : g.1 = (dC, dI) := by rw [← hge]
  have g2 : g.2.1 = (cI, cB) := by rw [← hge]
  have g3 : g.2.2.2 = (adK, adV) := by rw [← hge]
  have g0 : g.2.2.1 0 = u 0 := by rw [← hge]; rfl
  have g35 : g.2.2.1 35 = v 0 := by rw [← hge]; rfl
  have hl : lv_has ls 4 (la_L g b 0) := by
    rw [← g0, ← g35] at hl
    exact hl
  have hC : vx_C p s m #[Value.ref b] meth c RL cL_law 4 ret g := by
    rw [← hge] at hj hg ⊢
    exact ⟨hx, hb, hml, hown, hts, hr, hlocks, ⟨hK, hN, hj, hR1, hR2⟩, hV.narrow hg, hZ.narrow hg⟩
  rw [← g1] at hP
  exact la_loop (l := l) (e := e) (below := below) ⟨hC, hg, hX, hbl, hL⟩ L 0 st_0 (by omega) (Nat.zero_le L) iv_0 ls H locs hl hP hS
