section VJ
variable {p : Program} {l : Launch} {e : Env} {R : Room} {s : State} {m : MethodId} {args : Array Value} {below : List Frame} {meth : Method} {c : Code} {Q : State → Prop} {g : vx_G} {nL pc : Nat} {L L' : List (Nat × Value)} {st : List Value} {S : vx_St} {own : String} {cc : ByteArray} {ret : Option FieldType}
theorem vv_ldcS2 (C : vx_C p s m args meth c RX2 cc nL ret g) (hd : decode cc pc = .ok (.ldc 41, 2)) (kk : vx_V p l e R s m args below meth c Q g nL (pc + 2) L (.ref (g.2.2.2.1 0) :: st) S) : vx_V p l e R s m args below meth c Q g nL pc L st S := fun ls H locs hl hP hS => va_ldcS C.1 C.2.1 C.2.2.2.1 C.2.2.2.2.2.2.2.1.2.2.2.1 hd (kk ls H locs hl hP hS)
theorem vv_ldcS4 (C : vx_C p s m args meth c RX4 cc nL ret g) (hd : decode cc pc = .ok (.ldc 116, 2)) (kk : vx_V p l e R s m args below meth c Q g nL (pc + 2) L (.ref (g.2.2.2.1 0) :: st) S) : vx_V p l e R s m args below meth c Q g nL pc L st S := fun ls H locs hl hP hS => va_ldcS C.1 C.2.1 C.2.2.2.1 C.2.2.2.2.2.2.2.1.2.2.2.2 hd (kk ls H locs hl hP hS)
theorem vv_cs (C : vx_C p s m args meth c RJ0 cc nL ret g) (hd : decode cc pc = .ok (.getstatic 38, 3)) (kk : vx_V p l e R s m args below meth c Q g nL (pc + 3) L (.int 1 :: st) S) : vx_V p l e R s m args below meth c Q g nL pc L st S := fun ls H locs hl hP hS => va_gets C.1 C.2.1 C.2.2.2.2.2.2.2.2.2 hS C.2.2.2.1 (C.2.2.2.2.1 _ (tm_6 (List.mem_of_getElem? (i := 20) rfl))) (fun _ h => h) hd (kk ls H locs hl hP hS)
theorem vv_sv (C : vx_C p s m args meth c RJ0 cc nL ret g) (hd : decode cc pc = .ok (.getfield 9, 3)) (kk : vx_V p l e R s m args below meth c Q g nL (pc + 3) L (.ref (g.2.2.2.2 0) :: st) S) : vx_V p l e R s m args below meth c Q g nL pc L (.ref (g.2.2.2.1 0) :: st) S := fun ls H locs hl hP hS => vk_getf C.1 C.2.1 (C.2.2.2.2.2.2.2.2.1.1 0 (by decide)).2.2.1 hS C.2.2.2.1 (C.2.2.2.2.1 _ (tm_6 (List.mem_of_getElem? (i := 15) rfl))) (fun _ h => h) hd (kk ls H locs hl hP hS)
theorem vv_sc (C : vx_C p s m args meth c RJ0 cc nL ret g) (hd : decode cc pc = .ok (.getfield 15, 3)) (kk : vx_V p l e R s m args below meth c Q g nL (pc + 3) L (.int 0 :: st) S) : vx_V p l e R s m args below meth c Q g nL pc L (.ref (g.2.2.2.1 0) :: st) S := fun ls H locs hl hP hS => vk_getf C.1 C.2.1 (C.2.2.2.2.2.2.2.2.1.1 0 (by decide)).2.1 hS C.2.2.2.1 (C.2.2.2.2.1 _ (tm_6 (List.mem_of_getElem? (i := 21) rfl))) (fun _ h => h) hd (kk ls H locs hl hP hS)
theorem vv_sl (C : vx_C p s m args meth c own cc nL ret g) (hd : decode cc pc = .ok (.arraylength, 1)) (kk : vx_V p l e R s m args below meth c Q g nL (pc + 1) L (.int (nI 5) :: st) S) : vx_V p l e R s m args below meth c Q g nL pc L (.ref (g.2.2.2.2 0) :: st) S := fun ls H locs hl hP hS => va_tlen (N := 5) C.1 C.2.1 (C.2.2.2.2.2.2.2.2.1.1 0 (by decide)).2.2.2 hS (by decide) hd (kk ls H locs hl hP hS)
theorem vv_sb (C : vx_C p s m args meth c own cc nL ret g) {i : Nat} (hi : i < 5) (hd : decode cc pc = .ok (.baload, 1)) (kk : vx_V p l e R s m args below meth c Q g nL (pc + 1) L (.int (([104, 99, 117, 115, 120] : List Int32).getD i 0) :: st) S) : vx_V p l e R s m args below meth c Q g nL pc L (.int (nI i) :: .ref (g.2.2.2.2 0) :: st) S := fun ls H locs hl hP hS => va_tb (N := 5) C.1 C.2.1 (C.2.2.2.2.2.2.2.2.1.1 0 (by decide)).2.2.2 hS (vp_in_nI hi (by omega)) (by rw [nI_clamp (by omega)]; rfl) hd (kk ls H locs hl hP hS)
theorem vv_ldcw (C : vx_C p s m args meth c own cc nL ret g) {index : Nat} {v : Int32} (hc : Jvm.Cond.constant own index v ∈ wsL_law) (hd : decode cc pc = .ok (.ldc_w index, 3)) (k : vx_V p l e R s m args below meth c Q g nL (pc + 3) L (.int v :: st) S) : vx_V p l e R s m args below meth c Q g nL pc L st S := fun ls H locs hl hP hS => lv_ldcw C.1 C.2.1 C.2.2.2.1 (C.2.2.2.2.1 _ hc) hd (k ls H locs hl hP hS)
theorem vv_ftret {ty : FieldType} (C : vx_C p s m args meth c own cc nL (some ty) g) {v F : Int32} (hd : decode cc pc = .ok (.ireturn, 1)) (hv : narrow ty (.int v) = .int v) (h : v = F) : vx_V p l e R s m args below meth c (MQ below (vx_Q g (vx_pf F S)) args s 0 0 (vx_A g)) g nL pc L [.int v] S := fun ls H locs hl hP hS => W.zret C.1 C.2.1 C.2.2.2.2.2.1 hv (fun t ht hW => ⟨_, S, rfl, ⟨by rw [h], rfl⟩, by rw [ht]; exact hP, hS.F ht⟩) hS.2.2 hd C.2.2.2.2.2.2.1
variable {y : MethodName} {bytes : ByteArray} {maxL n index fa fb FA FB : Nat} {retY : Option FieldType} {As rest : List Value} {F : Int32}
theorem vv_cJ (C : vx_C p s m args meth c own cc nL ret g) (hM : vx_M l g y bytes maxL retY (vx_R fa fb) (.ref (g.2.2.2.1 0) :: As) S (vx_pf F S)) (hy : vx_yV y bytes maxL retY n) (hl : Cond.methodLink own index y ∈ wsL_law) (hq : "java/lang/String" = y.cls) (hR : fa + 1 ≤ FA ∧ 8 + (maxL + 11) + fb ≤ FB) (hn : As.length = n) (hW : (rest.map fun v => v.category).sum ≤ 8) (hst : st = As.reverse ++ .ref (g.2.2.2.1 0) :: rest) (hd : decode cc pc = .ok (.invokevirtual index, 3)) (kk : vx_V p l e (vx_R FA FB) s m args below meth c Q g nL (pc + 3) L (.int F :: rest) S) : vx_V p l e (vx_R FA FB) s m args below meth c Q g nL pc L st S := fun ls H locs hl2 hP hS => vx_call (mc := 0) (va_runV (g := F0 m pc ls st) ⟨C.1, C.2.1, C.2.2.1, C.2.2.2.1, C.2.2.2.2.1⟩ hM ⟨callB_of n C.2.2.2.2.1 (vx_pay C.2.2.2.2.1 hy.1) rfl rfl rfl (C.2.2.2.2.1 _ hy.2.1) (C.2.2.2.2.1 _ hl) hy.2.2.1 hR, C.2.2.2.2.1 _ hy.2.2.2.1, C.2.2.2.2.1 _ hy.2.2.2.2⟩ ⟨vx_blind _ S, (by rw [← hq]; exact vk_recv C.2.2.2.2.2.2.2.2.1 (i := 0) (by decide) hS), fun U hU hW => ⟨rfl, vx_pre C hP hS hU hW⟩⟩ rfl hn hl2.1 hst (lv_room hW) hd ⟨Nat.zero_le _, Nat.zero_le _⟩) hl2 hS (fun v S' h => by obtain ⟨rfl, rfl⟩ := h; exact kk)
end VJ
def pu_ixL (c : Int32) : List Int32 → Nat → Int32
  | [], _ => -1
  | b :: l, k => if b = c then nI k else pu_ixL c l (k + 1)
abbrev pu_by : List Int32 := [104, 99, 117, 115, 120]
def pu_ix (c : Int32) : Int32 := if 0 ≤ c ∧ c ≤ 255 then pu_ixL c.toInt8.toInt32 pu_by 0 else -1
def pu_kind (c : Int32) : Int32 := pu_ix (c.toUInt32 % 65536).toInt32
def pu_bc (x0 : Int32) : Int32 :=
  let sh := fun (a b : Int32) => (a.toUInt32 >>> (b.toUInt32 &&& Int32.toUInt32 31)).toInt32
  let x1 := x0 - (sh x0 1 &&& 1431655765)
  let x2 := (x1 &&& 858993459) + (sh x1 2 &&& 858993459)
  let x3 := (x2 + sh x2 4) &&& 252645135
  let x4 := x3 + sh x3 8
  let x5 := x4 + sh x4 16
  x5 &&& 63
theorem yk_J0_coder_7d493 : vx_yV yJ0_coder_7d493 cJ0_coder_7d493 1 (some .byte) 0 := ⟨(tm_7 (List.mem_of_getElem? (i := 5) rfl)), (tm_6 (List.mem_of_getElem? (i := 9) rfl)), by decide +kernel, (tm_7 (List.mem_of_getElem? (i := 3) rfl)), (tm_7 (List.mem_of_getElem? (i := 4) rfl))⟩
theorem yk_J0_isLatin1_aae02 : vx_yV yJ0_isLatin1_aae02 cJ0_isLatin1_aae02 1 (some .boolean) 0 := ⟨(tm_6 (List.mem_of_getElem? (i := 19) rfl)), (tm_6 (List.mem_of_getElem? (i := 9) rfl)), by decide +kernel, (tm_6 (List.mem_of_getElem? (i := 17) rfl)), (tm_6 (List.mem_of_getElem? (i := 18) rfl))⟩
theorem yk_J0_length_8abf5 : vx_yV yJ0_length_8abf5 cJ0_length_8abf5 1 (some .int) 0 := ⟨(tm_7 (List.mem_of_getElem? (i := 1) rfl)), (tm_6 (List.mem_of_getElem? (i := 9) rfl)), by decide +kernel, (tm_6 (List.mem_of_getElem? (i := 23) rfl)), (tm_7 (List.mem_of_getElem? (i := 0) rfl))⟩
theorem yk_J1_canEncode_9a6ad : vx_yS yJ1_canEncode_9a6ad cJ1_canEncode_9a6ad 1 (some .boolean) 1 := ⟨(tm_7 (List.mem_of_getElem? (i := 19) rfl)), (tm_7 (List.mem_of_getElem? (i := 8) rfl)), by decide +kernel, (tm_7 (List.mem_of_getElem? (i := 18) rfl))⟩
theorem yk_J1_indexOfChar_4cfef : vx_yS yJ1_indexOfChar_4cfef cJ1_indexOfChar_4cfef 6 (some .int) 4 := ⟨(tm_7 (List.mem_of_getElem? (i := 22) rfl)), (tm_7 (List.mem_of_getElem? (i := 8) rfl)), by decide +kernel, (tm_7 (List.mem_of_getElem? (i := 21) rfl))⟩
theorem yk_J1_indexOf_4cfef : vx_yS yJ1_indexOf_4cfef cJ1_indexOf_4cfef 4 (some .int) 4 := ⟨(tm_7 (List.mem_of_getElem? (i := 9) rfl)), (tm_7 (List.mem_of_getElem? (i := 8) rfl)), by decide +kernel, (tm_7 (List.mem_of_getElem? (i := 7) rfl))⟩
theorem yk_J0_indexOf_7cf53 : vx_yV yJ0_indexOf_7cf53 cJ0_indexOf_7cf53 3 (some .int) 2 := ⟨(tm_6 (List.mem_of_getElem? (i := 14) rfl)), (tm_6 (List.mem_of_getElem? (i := 9) rfl)), by decide +kernel, (tm_6 (List.mem_of_getElem? (i := 12) rfl)), (tm_6 (List.mem_of_getElem? (i := 13) rfl))⟩
theorem yk_J0_indexOf_0f7a4 : vx_yV yJ0_indexOf_0f7a4 cJ0_indexOf_0f7a4 2 (some .int) 1 := ⟨(tm_6 (List.mem_of_getElem? (i := 10) rfl)), (tm_6 (List.mem_of_getElem? (i := 9) rfl)), by decide +kernel, (tm_6 (List.mem_of_getElem? (i := 7) rfl)), (tm_6 (List.mem_of_getElem? (i := 8) rfl))⟩
theorem yk_J6_bitCount_0f7a4 : vx_yS yJ6_bitCount_0f7a4 cJ6_bitCount_0f7a4 1 (some .int) 1 := ⟨(tm_22 (List.mem_of_getElem? (i := 2) rfl)), (tm_22 (List.mem_of_getElem? (i := 1) rfl)), by decide +kernel, (tm_22 (List.mem_of_getElem? (i := 0) rfl))⟩
set_option maxHeartbeats 4000000 in
set_option maxRecDepth 100000 in
theorem kk_J0_coder_7d493 (l : Launch) (g : vx_G) (S : vx_St)  : vx_M l g yJ0_coder_7d493 cJ0_coder_7d493 1 (some .byte) (vx_R 0 0) [.ref (g.2.2.2.1 0)] S (vx_pf (0) S) := by
  refine vx_M.intro (by decide) (Nat.le_of_ble_eq_true rfl) ?_
  intro p e s m args below meth c C
  refine vv_cs C dJ0_coder_7d493_0 ?_
  refine vv_if_eq (tgt := 13) C dJ0_coder_7d493_3 (by decide) (fun h => absurd h (by decide)) (fun _ => ?_)
  refine vv_aload_n C dJ0_coder_7d493_6 rfl 0 rfl ?_
  refine vv_sc C dJ0_coder_7d493_7 ?_
  refine vv_goto (tgt := 14) C dJ0_coder_7d493_10 (by decide) ?_
  exact vv_ftret C dJ0_coder_7d493_14 rfl rfl
set_option maxHeartbeats 4000000 in
set_option maxRecDepth 100000 in
theorem kk_J0_isLatin1_aae02 (l : Launch) (g : vx_G) (S : vx_St)  : vx_M l g yJ0_isLatin1_aae02 cJ0_isLatin1_aae02 1 (some .boolean) (vx_R 0 0) [.ref (g.2.2.2.1 0)] S (vx_pf (1) S) := by
  refine vx_M.intro (by decide) (Nat.le_of_ble_eq_true rfl) ?_
  intro p e s m args below meth c C
  refine vv_cs C dJ0_isLatin1_aae02_0 ?_
  refine vv_if_eq (tgt := 17) C dJ0_isLatin1_aae02_3 (by decide) (fun h => absurd h (by decide)) (fun _ => ?_)
  refine vv_aload_n C dJ0_isLatin1_aae02_6 rfl 0 rfl ?_
  refine vv_sc C dJ0_isLatin1_aae02_7 ?_
  refine vv_if_ne (tgt := 17) C dJ0_isLatin1_aae02_10 (by decide) (fun h => absurd rfl h) (fun _ => ?_)
  refine vv_iconst (v := 1) C dJ0_isLatin1_aae02_13 (by decide) ?_
  refine vv_goto (tgt := 18) C dJ0_isLatin1_aae02_14 (by decide) ?_
  exact vv_fzret C dJ0_isLatin1_aae02_18 rfl rfl
set_option maxHeartbeats 4000000 in
set_option maxRecDepth 100000 in
theorem kk_J0_length_8abf5 (l : Launch) (g : vx_G) (S : vx_St)  : vx_M l g yJ0_length_8abf5 cJ0_length_8abf5 1 (some .int) (vx_R 1 20) [.ref (g.2.2.2.1 0)] S (vx_pf (nI 5) S) := by
  refine vx_M.intro (by decide) (Nat.le_of_ble_eq_true rfl) ?_
  intro p e s m args below meth c C
  refine vv_aload_n C dJ0_length_8abf5_0 rfl 0 rfl ?_
  refine vv_sv C dJ0_length_8abf5_1 ?_
  refine vv_sl C dJ0_length_8abf5_4 ?_
  refine vv_aload_n C dJ0_length_8abf5_5 rfl 0 rfl ?_
  refine vv_cJ C (kk_J0_coder_7d493 l g S) yk_J0_coder_7d493 (tm_7 (List.mem_of_getElem? (i := 2) rfl)) rfl (by decide) rfl (Nat.le_of_ble_eq_true rfl) rfl dJ0_length_8abf5_6 ?_
  refine vv_ishr C dJ0_length_8abf5_9 ?_
  exact vv_fret C dJ0_length_8abf5_10 (by decide)
set_option maxHeartbeats 4000000 in
set_option maxRecDepth 100000 in
theorem kk_J1_canEncode_9a6ad (l : Launch) (g : vx_G) (S : vx_St) (x : Int32) : vx_M l g yJ1_canEncode_9a6ad cJ1_canEncode_9a6ad 1 (some .boolean) (vx_R 0 0) [.int x] S (vx_pf (vx_i (decide (0 ≤ x) && decide (x ≤ 255))) S) := by
  refine vx_M.intro (by decide) (Nat.le_of_ble_eq_true rfl) ?_
  intro p e s m args below meth c C
  refine vv_iload_n C dJ1_canEncode_9a6ad_0 rfl 0 rfl ?_
  refine vv_if_lt (tgt := 15) C dJ1_canEncode_9a6ad_1 (by decide) (fun h1 => ?_) (fun h1 => ?_)
  · have g1 := pu_lt h1
    refine vv_iconst (v := 0) C dJ1_canEncode_9a6ad_15 (by decide) ?_
    exact vv_fzret C dJ1_canEncode_9a6ad_16 rfl (by simp [vx_i, g1])
  · have g1 := pu_nlt h1
    refine vv_iload_n C dJ1_canEncode_9a6ad_4 rfl 0 rfl ?_
    refine vv_sipush (v := 255) C dJ1_canEncode_9a6ad_5 (by decide) ?_
    refine vv_icmp_gt (tgt := 15) C dJ1_canEncode_9a6ad_8 (by decide) (fun h8 => ?_) (fun h8 => ?_)
    · have g8 := pu_lt h8
      refine vv_iconst (v := 0) C dJ1_canEncode_9a6ad_15 (by decide) ?_
      exact vv_fzret C dJ1_canEncode_9a6ad_16 rfl (by simp [vx_i, g8])
    · have g8 := pu_nlt h8
      refine vv_iconst (v := 1) C dJ1_canEncode_9a6ad_11 (by decide) ?_
      refine vv_goto (tgt := 16) C dJ1_canEncode_9a6ad_12 (by decide) ?_
      exact vv_fzret C dJ1_canEncode_9a6ad_16 rfl (by simp [vx_i, g1, g8])
theorem pu_ix_at : ∀ (c : Int32) (i : Nat), i < 5 → pu_ixL c (pu_by.drop i) i = if pu_by.getD i 0 = c then nI i else pu_ixL c (pu_by.drop (i + 1)) (i + 1) := by
  intro c i hi
  rcases (show i = 0 ∨ i = 1 ∨ i = 2 ∨ i = 3 ∨ i = 4 by omega) with rfl | rfl | rfl | rfl | rfl <;> rfl
set_option maxHeartbeats 4000000 in
set_option maxRecDepth 100000 in
theorem kk_J1_indexOfChar_4cfef (l : Launch) (g : vx_G) (S : vx_St) (x : Int32) : vx_M l g yJ1_indexOfChar_4cfef cJ1_indexOfChar_4cfef 6 (some .int) (vx_R 0 0) [.ref (g.2.2.2.2 0), .int x, .int (nI 0), .int (nI 5)] S (vx_pf (pu_ixL x.toInt8.toInt32 pu_by 0) S) := by
  refine vx_M.intro (by decide) (Nat.le_of_ble_eq_true rfl) ?_
  intro p e s m args below meth c C
  have lp : ∀ (fu i : Nat), 5 - i < fu ∧ i ≤ 5 ∧ pu_ixL x.toInt8.toInt32 pu_by 0 = pu_ixL x.toInt8.toInt32 (pu_by.drop i) i → vx_V p l e (vx_R 0 0) s m args below meth c (MQ below (vx_Q g (vx_pf (pu_ixL x.toInt8.toInt32 pu_by 0) S)) args s 0 0 (vx_A g)) g 6 7 [(0, .ref (g.2.2.2.2 0)), (3, .int (nI 5)), (4, .int x.toInt8.toInt32), (5, .int (nI i))] [] S := by
    intro fu
    induction fu with
    | zero => intro i h; exact absurd h.1 (by omega)
    | succ fu ih =>
      intro i h
      obtain ⟨h1, h2, h3⟩ := h
      refine vv_iload C dJ1_indexOfChar_4cfef_7 3 rfl ?_
      refine vv_iload_n C dJ1_indexOfChar_4cfef_9 rfl 1 rfl ?_
      refine vv_icmp_ge (tgt := 31) C dJ1_indexOfChar_4cfef_10 (by decide) (fun h10 => ?_) (fun h10 => ?_)
      · have hge := pu_geT rfl (by omega) (by omega) h10
        obtain rfl : 5 = i := by omega
        refine vv_iconst (v := -1) C dJ1_indexOfChar_4cfef_31 (by decide) ?_
        exact vv_fret C dJ1_indexOfChar_4cfef_32 (by rw [h3]; rfl)
      · have hlt := pu_geF rfl (by omega) (by omega) h10
        rw [pu_ix_at _ _ hlt] at h3
        refine vv_aload_n C dJ1_indexOfChar_4cfef_13 rfl 0 rfl ?_
        refine vv_iload C dJ1_indexOfChar_4cfef_14 3 rfl ?_
        refine vv_sb C hlt dJ1_indexOfChar_4cfef_16 ?_
        refine vv_iload C dJ1_indexOfChar_4cfef_17 2 rfl ?_
        refine vv_icmp_ne (tgt := 25) C dJ1_indexOfChar_4cfef_19 (by decide) (fun h19 => ?_) (fun h19 => ?_)
        · rw [if_neg h19] at h3
          refine vv_iincN (L' := [_, _, _, _]) (j := 3) C dJ1_indexOfChar_4cfef_25 rfl (by decide) rfl ?_
          refine vv_goto (tgt := 7) C dJ1_indexOfChar_4cfef_28 (by decide) ?_
          refine vv_sub (L' := [_, _, _, _]) [1, 2, 3, 0] rfl ?_
          exact ih (i + 1) ⟨by omega, by omega, h3⟩
        · rw [if_pos h19] at h3
          refine vv_iload C dJ1_indexOfChar_4cfef_22 3 rfl ?_
          exact vv_fret C dJ1_indexOfChar_4cfef_24 h3.symm
  refine vv_iload_n C dJ1_indexOfChar_4cfef_0 rfl 1 rfl ?_
  refine vv_i2b C dJ1_indexOfChar_4cfef_1 ?_
  refine vv_istore (L' := [_, _, _, _, _]) C dJ1_indexOfChar_4cfef_2 (by decide) rfl ?_
  refine vv_iload_n C dJ1_indexOfChar_4cfef_4 rfl 3 rfl ?_
  refine vv_istore (L' := [_, _, _, _, _, _]) C dJ1_indexOfChar_4cfef_5 (by decide) rfl ?_
  refine vv_sub (L' := [_, _, _, _]) [2, 5, 1, 0] rfl ?_
  exact lp 6 0 ⟨by omega, by omega, rfl⟩
set_option maxHeartbeats 4000000 in
set_option maxRecDepth 100000 in
theorem kk_J1_indexOf_4cfef (l : Launch) (g : vx_G) (S : vx_St) (x : Int32) : vx_M l g yJ1_indexOf_4cfef cJ1_indexOf_4cfef 4 (some .int) (vx_R 1 25) [.ref (g.2.2.2.2 0), .int x, .int (nI 0), .int (nI 5)] S (vx_pf (pu_ix x) S) := by
  refine vx_M.intro (by decide) (Nat.le_of_ble_eq_true rfl) ?_
  intro p e s m args below meth c C
  refine vv_iload_n C dJ1_indexOf_4cfef_0 rfl 1 rfl ?_
  refine vv_cS_F C (kk_J1_canEncode_9a6ad l g S x) yk_J1_canEncode_9a6ad (tm_7 (List.mem_of_getElem? (i := 17) rfl)) (by decide) rfl (Nat.le_of_ble_eq_true rfl) rfl dJ1_indexOf_4cfef_1 ?_
  refine vv_ifb_ne (tgt := 9) C dJ1_indexOf_4cfef_4 (by decide) (fun h4 => ?_) (fun h4 => ?_)
  · simp only [Bool.and_eq_true, decide_eq_true_eq] at h4
    refine vv_iload_n C dJ1_indexOf_4cfef_9 rfl 2 rfl ?_
    refine vv_iconst (v := nI 0) C dJ1_indexOf_4cfef_10 (by decide) ?_
    refine vv_mmax C (tm_7 (List.mem_of_getElem? (i := 10) rfl)) (tm_7 (List.mem_of_getElem? (i := 11) rfl)) (tm_7 (List.mem_of_getElem? (i := 12) rfl)) (tm_7 (List.mem_of_getElem? (i := 13) rfl)) (by decide) (Nat.le_of_ble_eq_true rfl) dJ1_indexOf_4cfef_11 ?_
    rw [show (if nI 0 < nI 0 then nI 0 else nI 0) = nI 0 from by decide]
    refine vv_istore_n (i := 2) (L' := [_, _, _, _]) C dJ1_indexOf_4cfef_14 rfl (by decide) rfl ?_
    refine vv_iload_n C dJ1_indexOf_4cfef_15 rfl 3 rfl ?_
    refine vv_aload_n C dJ1_indexOf_4cfef_16 rfl 1 rfl ?_
    refine vv_sl C dJ1_indexOf_4cfef_17 ?_
    refine vv_mmin C (tm_7 (List.mem_of_getElem? (i := 14) rfl)) (tm_7 (List.mem_of_getElem? (i := 15) rfl)) (tm_7 (List.mem_of_getElem? (i := 12) rfl)) (tm_7 (List.mem_of_getElem? (i := 16) rfl)) (by decide) (Nat.le_of_ble_eq_true rfl) dJ1_indexOf_4cfef_18 ?_
    rw [show (if nI 5 < nI 5 then nI 5 else nI 5) = nI 5 from by decide]
    refine vv_istore_n (i := 3) (L' := [_, _, _, _]) C dJ1_indexOf_4cfef_21 rfl (by decide) rfl ?_
    refine vv_iload_n C dJ1_indexOf_4cfef_22 rfl 1 rfl ?_
    refine vv_iload_n C dJ1_indexOf_4cfef_23 rfl 0 rfl ?_
    refine vv_icmp_lt (tgt := 29) C dJ1_indexOf_4cfef_24 (by decide) (fun _ => ?_) (fun h => absurd (by decide) h)
    refine vv_aload_n C dJ1_indexOf_4cfef_29 rfl 2 rfl ?_
    refine vv_iload_n C dJ1_indexOf_4cfef_30 rfl 3 rfl ?_
    refine vv_iload_n C dJ1_indexOf_4cfef_31 rfl 1 rfl ?_
    refine vv_iload_n C dJ1_indexOf_4cfef_32 rfl 0 rfl ?_
    refine vv_cS_F C (kk_J1_indexOfChar_4cfef l g S x) yk_J1_indexOfChar_4cfef (tm_7 (List.mem_of_getElem? (i := 20) rfl)) (by decide) rfl (Nat.le_of_ble_eq_true rfl) rfl dJ1_indexOf_4cfef_33 ?_
    exact vv_fret C dJ1_indexOf_4cfef_36 (by rw [pu_ix, if_pos h4])
  · refine vv_iconst (v := -1) C dJ1_indexOf_4cfef_7 (by decide) ?_
    exact vv_fret C dJ1_indexOf_4cfef_8 (by rw [pu_ix, if_neg (by simpa using h4)])
set_option maxHeartbeats 4000000 in
set_option maxRecDepth 100000 in
theorem kk_J0_indexOf_7cf53 (l : Launch) (g : vx_G) (S : vx_St) (x : Int32) : vx_M l g yJ0_indexOf_7cf53 cJ0_indexOf_7cf53 3 (some .int) (vx_R 2 48) [.ref (g.2.2.2.1 0), .int x, .int (nI 0)] S (vx_pf (pu_ix x) S) := by
  refine vx_M.intro (by decide) (Nat.le_of_ble_eq_true rfl) ?_
  intro p e s m args below meth c C
  refine vv_aload_n C dJ0_indexOf_7cf53_0 rfl 0 rfl ?_
  refine vv_cJ C (kk_J0_isLatin1_aae02 l g S) yk_J0_isLatin1_aae02 (tm_6 (List.mem_of_getElem? (i := 16) rfl)) rfl (by decide) rfl (Nat.le_of_ble_eq_true rfl) rfl dJ0_indexOf_7cf53_1 ?_
  refine vv_if_eq (tgt := 23) C dJ0_indexOf_7cf53_4 (by decide) (fun h => absurd h (by decide)) (fun _ => ?_)
  refine vv_aload_n C dJ0_indexOf_7cf53_7 rfl 0 rfl ?_
  refine vv_sv C dJ0_indexOf_7cf53_8 ?_
  refine vv_iload_n C dJ0_indexOf_7cf53_11 rfl 1 rfl ?_
  refine vv_iload_n C dJ0_indexOf_7cf53_12 rfl 2 rfl ?_
  refine vv_aload_n C dJ0_indexOf_7cf53_13 rfl 0 rfl ?_
  refine vv_cJ C (kk_J0_length_8abf5 l g S) yk_J0_length_8abf5 (tm_6 (List.mem_of_getElem? (i := 22) rfl)) rfl (by decide) rfl (Nat.le_of_ble_eq_true rfl) rfl dJ0_indexOf_7cf53_14 ?_
  refine vv_cS_F C (kk_J1_indexOf_4cfef l g S x) yk_J1_indexOf_4cfef (tm_7 (List.mem_of_getElem? (i := 6) rfl)) (by decide) rfl (Nat.le_of_ble_eq_true rfl) rfl dJ0_indexOf_7cf53_17 ?_
  refine vv_goto (tgt := 36) C dJ0_indexOf_7cf53_20 (by decide) ?_
  exact vv_fret C dJ0_indexOf_7cf53_36 rfl
set_option maxHeartbeats 4000000 in
set_option maxRecDepth 100000 in
theorem kk_J0_indexOf_0f7a4 (l : Launch) (g : vx_G) (S : vx_St) (x : Int32) : vx_M l g yJ0_indexOf_0f7a4 cJ0_indexOf_0f7a4 2 (some .int) (vx_R 3 70) [.ref (g.2.2.2.1 0), .int x] S (vx_pf (pu_ix x) S) := by
  refine vx_M.intro (by decide) (Nat.le_of_ble_eq_true rfl) ?_
  intro p e s m args below meth c C
  refine vv_aload_n C dJ0_indexOf_0f7a4_0 rfl 0 rfl ?_
  refine vv_iload_n C dJ0_indexOf_0f7a4_1 rfl 1 rfl ?_
  refine vv_iconst (v := nI 0) C dJ0_indexOf_0f7a4_2 (by decide) ?_
  refine vv_cJ C (kk_J0_indexOf_7cf53 l g S x) yk_J0_indexOf_7cf53 (tm_6 (List.mem_of_getElem? (i := 11) rfl)) rfl (by decide) rfl (Nat.le_of_ble_eq_true rfl) rfl dJ0_indexOf_0f7a4_3 ?_
  exact vv_fret C dJ0_indexOf_0f7a4_6 rfl
set_option maxHeartbeats 4000000 in
set_option maxRecDepth 100000 in
theorem kk_J6_bitCount_0f7a4 (l : Launch) (g : vx_G) (S : vx_St) (x : Int32) : vx_M l g yJ6_bitCount_0f7a4 cJ6_bitCount_0f7a4 1 (some .int) (vx_R 0 0) [.int x] S (vx_pf (pu_bc x) S) := by
  refine vx_M.intro (by decide) (Nat.le_of_ble_eq_true rfl) ?_
  intro p e s m args below meth c C
  refine vv_iload_n C dJ6_bitCount_0f7a4_0 rfl 0 rfl ?_
  refine vv_iload_n C dJ6_bitCount_0f7a4_1 rfl 0 rfl ?_
  refine vv_iconst (v := 1) C dJ6_bitCount_0f7a4_2 (by decide) ?_
  refine vv_iushr C dJ6_bitCount_0f7a4_3 ?_
  refine vv_ldcw C (tm_22 (List.mem_of_getElem? (i := 3) rfl)) dJ6_bitCount_0f7a4_4 ?_
  refine vv_iand C dJ6_bitCount_0f7a4_7 ?_
  refine vv_isub C dJ6_bitCount_0f7a4_8 ?_
  refine vv_istore_n (i := 0) (L' := [_]) C dJ6_bitCount_0f7a4_9 rfl (by decide) rfl ?_
  refine vv_iload_n C dJ6_bitCount_0f7a4_10 rfl 0 rfl ?_
  refine vv_ldcw C (tm_22 (List.mem_of_getElem? (i := 4) rfl)) dJ6_bitCount_0f7a4_11 ?_
  refine vv_iand C dJ6_bitCount_0f7a4_14 ?_
  refine vv_iload_n C dJ6_bitCount_0f7a4_15 rfl 0 rfl ?_
  refine vv_iconst (v := 2) C dJ6_bitCount_0f7a4_16 (by decide) ?_
  refine vv_iushr C dJ6_bitCount_0f7a4_17 ?_
  refine vv_ldcw C (tm_22 (List.mem_of_getElem? (i := 4) rfl)) dJ6_bitCount_0f7a4_18 ?_
  refine vv_iand C dJ6_bitCount_0f7a4_21 ?_
  refine vv_iadd C dJ6_bitCount_0f7a4_22 ?_
  refine vv_istore_n (i := 0) (L' := [_]) C dJ6_bitCount_0f7a4_23 rfl (by decide) rfl ?_
  refine vv_iload_n C dJ6_bitCount_0f7a4_24 rfl 0 rfl ?_
  refine vv_iload_n C dJ6_bitCount_0f7a4_25 rfl 0 rfl ?_
  refine vv_iconst (v := 4) C dJ6_bitCount_0f7a4_26 (by decide) ?_
  refine vv_iushr C dJ6_bitCount_0f7a4_27 ?_
  refine vv_iadd C dJ6_bitCount_0f7a4_28 ?_
  refine vv_ldcw C (tm_22 (List.mem_of_getElem? (i := 5) rfl)) dJ6_bitCount_0f7a4_29 ?_
  refine vv_iand C dJ6_bitCount_0f7a4_32 ?_
  refine vv_istore_n (i := 0) (L' := [_]) C dJ6_bitCount_0f7a4_33 rfl (by decide) rfl ?_
  refine vv_iload_n C dJ6_bitCount_0f7a4_34 rfl 0 rfl ?_
  refine vv_iload_n C dJ6_bitCount_0f7a4_35 rfl 0 rfl ?_
  refine vv_bipush (v := 8) C dJ6_bitCount_0f7a4_36 (by decide) ?_
  refine vv_iushr C dJ6_bitCount_0f7a4_38 ?_
  refine vv_iadd C dJ6_bitCount_0f7a4_39 ?_
  refine vv_istore_n (i := 0) (L' := [_]) C dJ6_bitCount_0f7a4_40 rfl (by decide) rfl ?_
  refine vv_iload_n C dJ6_bitCount_0f7a4_41 rfl 0 rfl ?_
  refine vv_iload_n C dJ6_bitCount_0f7a4_42 rfl 0 rfl ?_
  refine vv_bipush (v := 16) C dJ6_bitCount_0f7a4_43 (by decide) ?_
  refine vv_iushr C dJ6_bitCount_0f7a4_45 ?_
  refine vv_iadd C dJ6_bitCount_0f7a4_46 ?_
  refine vv_istore_n (i := 0) (L' := [_]) C dJ6_bitCount_0f7a4_47 rfl (by decide) rfl ?_
  refine vv_iload_n C dJ6_bitCount_0f7a4_48 rfl 0 rfl ?_
  refine vv_bipush (v := 63) C dJ6_bitCount_0f7a4_49 (by decide) ?_
  refine vv_iand C dJ6_bitCount_0f7a4_51 ?_
  exact vv_fret C dJ6_bitCount_0f7a4_52 rfl
