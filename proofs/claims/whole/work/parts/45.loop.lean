def R_law : String := "TownOnWeightLaw"
def lw_P (b : Addr) (xs : List Int32) (args : Array Value) (s : State) : Prop := args = #[.ref b] ∧ s.IntsAt b xs ∧ xs.length ≤ 1536 ∧ (Jvm.Cond.and given_1 narrow_1).before args s = true
def lw_Q (_ : Array Value) (s : State) (o : Outcome) (t : State) : Prop := o = .returned (some (.int 1)) ∧ Framed s o t [] 52 466
def lw_Z (below : List Frame) (a : Array Value) (s : State) : State → Prop := fun t => ∃ o, t.status = .running ∧ Ended t below o ∧ lw_Q a s o t
/-- the law's own end, with 1 on the stack, nothing written that was there before, its room as the claim has it -/
theorem lw_ret {p : Program} {l : Launch} {e : Env} {s : State} {m : MethodId} {below : List Frame} {meth : Method} {c : Code} {b : Nat} (hx : p.tables.exec = Jvm.exec) (hb : c.code = code) (hr : meth.sig.returnType = ret) (hlocks : meth.locks = false) {pc : Nat} {H : Heap} {ls : Array Slot} (hdg : decode code pc = .ok (.ireturn, 1)) : W p l e room_1 s m #[Value.ref b] below meth c H [] 52 466 (lw_Z below #[Value.ref b] s) (F0 m pc ls [.int 1]) := by
  intro T hT X
  obtain ⟨fs, hret, hrun, hended, hW, hframe⟩ := X.leave (v := some (.int 1)) (hlocks := hlocks) (fun h => by rw [hr] at h; cases h)
  have hmeth' : T.vm.method? m = some meth := X.method'
  refine ⟨T.setFrames fs, ?_, .returned (some (.int 1)), hrun, hended, rfl, ⟨_, rfl⟩, hW, hframe⟩
  jvm_step X.here [X.here.top, hx, hb, hdg, hmeth', hr, ret, narrow_b1]
  (try refine ⟨rfl, ?_⟩); (try refine ⟨rfl, ?_⟩)
  first | (intro acts; rw [hret _ acts rfl rfl rfl]) | rw [hret _ _ rfl rfl rfl]
  exact Steps.refl _
/-- what holds at the law's entry: the machine, the code, the tables' words (any of lw_tbl by 'hts w (by decide +kernel)'), the script of L ints xs at the cell b, what the Statement gives of the start (any of its parts by flat_of_before) -/
def lw_At (p : Program) (s : State) (m : MethodId) (meth : Method) (c : Code) (b L : Nat) (xs : Nat → Int32) : Prop :=
  p.tables.exec = Jvm.exec ∧ c.code = code ∧ meth.sig.returnType = ret ∧ c.maxLocals = 4 ∧ s.vm.findClass R_law = some m.cls ∧ (∀ w ∈ lw_tbl, w.before #[Value.ref b] s = true) ∧ va_X b L xs s s.heap ∧ b < s.heap.size ∧ meth.locks = false ∧ (Jvm.Cond.and given_1 narrow_1).before #[Value.ref b] s = true
section LE
variable {p : Program} {l : Launch} {e : Env} {s : State} {m : MethodId} {below : List Frame} {meth : Method} {c : Code} {g : vx_G} {b LL : Nat} {xs : Nat → Int32}
theorem la_end {i : Nat} {S : vx_St} (B : la_B p s m #[Value.ref b] meth c g b LL xs) : vl_V p l e room_1 s m #[Value.ref b] below meth c (lw_Z below #[Value.ref b] s) g 4 813 (la_L g b i) [] S := by
  obtain ⟨C, hg, hX, hbl, hL⟩ := B
  refine vl_iconst (v := 1) C dL_law_813 (by decide) ?_
  intro ls H locs hl hP hS
  exact va_forget (fun q hq => hS.2.2 q hq) (lw_ret C.1 C.2.1 C.2.2.2.2.2.1 C.2.2.2.2.2.2.1 dL_law_814)
set_option maxRecDepth 100000 in
set_option maxHeartbeats 4000000 in
theorem la_step {i : Nat} {S : vx_St} (B : la_B p s m #[Value.ref b] meth c g b LL xs) (hiL : i ≤ LL) (j : ivz S) (ih : i + 2 < LL → ∀ S2, ivz S2 → vl_V p l e room_1 s m #[Value.ref b] below meth c (lw_Z below #[Value.ref b] s) g 4 18 (la_L g b (i + 3)) [] S2) : vl_V p l e room_1 s m #[Value.ref b] below meth c (lw_Z below #[Value.ref b] s) g 4 18 (la_L g b i) [] S := by
  obtain ⟨C, hg, hX, hbl, hL⟩ := id B
  refine vl_iload_n C dL_law_18 rfl 0 rfl ?_
  refine vl_aload_n C dL_law_19 rfl 3 rfl ?_
  refine vl_slen C hX hbl dL_law_20 ?_
  refine vl_iconst (v := 3) C dL_law_21 (by decide) ?_
  refine vl_isub C dL_law_22 ?_
  refine vl_icmp_gt (tgt := 813) C dL_law_23 (by decide) (fun _ => la_end B) (fun h => ?_)
  have hi : i + 2 < LL := by
    rw [Int32.lt_iff_toInt_lt, show (3 : Int32) = nI 3 from rfl, pk_sub_toInt (by omega) (by omega), nI_toInt (by omega)] at h
    omega
  refine vl_aload_n C dL_law_26 rfl 3 rfl ?_
  refine vl_iload_n C dL_law_27 rfl 0 rfl ?_
  refine vl_sld C hX hbl (i := i) (by omega) hL dL_law_28 ?_
  refine vl_bipush (v := 31) C dL_law_29 (by decide) ?_
  refine vl_iand C dL_law_31 ?_
  have kk : ∀ S2, ivz S2 → vl_V p l e room_1 s m #[Value.ref b] below meth c (lw_Z below #[Value.ref b] s) g 4 807 (la_L g b i) [] S2 := fun S2 j2 => by
    refine vl_iinc (j := 0) (v := nI (i + 3)) (L' := la_L g b (i + 3)) C dL_law_807 rfl (by rw [show Int32.ofInt 3 = nI 3 from by decide, nI_add]) (by decide) rfl ?_
    exact vl_goto (tgt := 18) C dL_law_810 (by decide) (ih hi S2 j2)
  obtain ⟨q, hq, e1⟩ := pk_andE (xs i) (m := 31) 5 (by decide)
  rw [e1]
  by_cases h27 : q ≤ 27
  · rcases (show q = 0 ∨ q = 1 ∨ q = 2 ∨ q = 3 ∨ q = 4 ∨ q = 5 ∨ q = 6 ∨ q = 7 ∨ q = 8 ∨ q = 9 ∨ q = 10 ∨ q = 11 ∨ q = 12 ∨ q = 13 ∨ q = 14 ∨ q = 15 ∨ q = 16 ∨ q = 17 ∨ q = 18 ∨ q = 19 ∨ q = 20 ∨ q = 21 ∨ q = 22 ∨ q = 23 ∨ q = 24 ∨ q = 25 ∨ q = 26 ∨ q = 27 by omega) with rfl | rfl | rfl | rfl | rfl | rfl | rfl | rfl | rfl | rfl | rfl | rfl | rfl | rfl | rfl | rfl | rfl | rfl | rfl | rfl | rfl | rfl | rfl | rfl | rfl | rfl | rfl | rfl
    · exact vl_tableIn (off := 128) (tgt := 160) C dL_law_32 (by decide) (by decide) rfl (by decide) (la_letters B hi j kk)
    · exact vl_tableIn (off := 181) (tgt := 213) C dL_law_32 (by decide) (by decide) rfl (by decide) (la_blank B hi j kk)
    · exact vl_tableIn (off := 194) (tgt := 226) C dL_law_32 (by decide) (by decide) rfl (by decide) (la_fault B hi j kk)
    · exact vl_tableIn (off := 207) (tgt := 239) C dL_law_32 (by decide) (by decide) rfl (by decide) (la_house B hi j kk)
    · exact vl_tableIn (off := 220) (tgt := 252) C dL_law_32 (by decide) (by decide) rfl (by decide) (la_about B hi j kk)
    · exact vl_tableIn (off := 253) (tgt := 285) C dL_law_32 (by decide) (by decide) rfl (by decide) (la_as B hi j kk)
    · exact vl_tableIn (off := 286) (tgt := 318) C dL_law_32 (by decide) (by decide) rfl (by decide) (la_length B hi j kk)
    · exact vl_tableIn (off := 309) (tgt := 341) C dL_law_32 (by decide) (by decide) rfl (by decide) (la_brake B hi j kk)
    · exact vl_tableIn (off := 358) (tgt := 390) C dL_law_32 (by decide) (by decide) rfl (by decide) (la_rain B hi j kk)
    · exact vl_tableIn (off := 397) (tgt := 429) C dL_law_32 (by decide) (by decide) rfl (by decide) (la_wants B hi j kk)
    · exact vl_tableIn (off := 420) (tgt := 452) C dL_law_32 (by decide) (by decide) rfl (by decide) (la_goes B hi j kk)
    · exact vl_tableIn (off := 443) (tgt := 475) C dL_law_32 (by decide) (by decide) rfl (by decide) (la_hour B hi j kk)
    · exact vl_tableIn (off := 456) (tgt := 488) C dL_law_32 (by decide) (by decide) rfl (by decide) (la_worked B hi j kk)
    · exact vl_tableIn (off := 469) (tgt := 501) C dL_law_32 (by decide) (by decide) rfl (by decide) (la_part B hi j kk)
    · exact vl_tableIn (off := 492) (tgt := 524) C dL_law_32 (by decide) (by decide) rfl (by decide) (la_night B hi j kk)
    · exact vl_tableIn (off := 505) (tgt := 537) C dL_law_32 (by decide) (by decide) rfl (by decide) (la_plan B hi j kk)
    · exact vl_tableIn (off := 528) (tgt := 560) C dL_law_32 (by decide) (by decide) rfl (by decide) (la_more B hi j kk)
    · exact vl_tableIn (off := 551) (tgt := 583) C dL_law_32 (by decide) (by decide) rfl (by decide) (la_missing B hi j kk)
    · exact vl_tableIn (off := 584) (tgt := 616) C dL_law_32 (by decide) (by decide) rfl (by decide) (la_rest B hi j kk)
    · exact vl_tableIn (off := 617) (tgt := 649) C dL_law_32 (by decide) (by decide) rfl (by decide) (la_read B hi j kk)
    · exact vl_tableIn (off := 650) (tgt := 682) C dL_law_32 (by decide) (by decide) rfl (by decide) (la_wipe B hi j kk)
    · exact vl_tableIn (off := 663) (tgt := 695) C dL_law_32 (by decide) (by decide) rfl (by decide) (la_leaks B hi j kk)
    · exact vl_tableIn (off := 676) (tgt := 708) C dL_law_32 (by decide) (by decide) rfl (by decide) (la_leak B hi j kk)
    · exact vl_tableIn (off := 699) (tgt := 731) C dL_law_32 (by decide) (by decide) rfl (by decide) (la_look B hi j kk)
    · exact vl_tableIn (off := 712) (tgt := 744) C dL_law_32 (by decide) (by decide) rfl (by decide) (la_image B hi j kk)
    · exact vl_tableIn (off := 725) (tgt := 757) C dL_law_32 (by decide) (by decide) rfl (by decide) (la_restore B hi j kk)
    · exact vl_tableIn (off := 738) (tgt := 770) C dL_law_32 (by decide) (by decide) rfl (by decide) (la_count B hi j kk)
    · exact vl_tableIn (off := 761) (tgt := 793) C dL_law_32 (by decide) (by decide) rfl (by decide) (la_digest B hi j kk)
  · exact vl_tableOut (tgt := 807) C dL_law_32 (Or.inr (by rw [nI_toInt (by omega)]; omega)) (by decide) (kk S j)
theorem la_loop (B : la_B p s m #[Value.ref b] meth c g b LL xs) : ∀ k i S, LL ≤ i + k → i ≤ LL → ivz S → vl_V p l e room_1 s m #[Value.ref b] below meth c (lw_Z below #[Value.ref b] s) g 4 18 (la_L g b i) [] S
  | 0, i, S, h1, h2, j => la_step B h2 j (fun h => absurd h (by omega))
  | k + 1, i, S, h1, h2, j => la_step B h2 j (fun h S2 j2 => la_loop B k (i + 3) S2 (by omega) (by omega) j2)
end LE
