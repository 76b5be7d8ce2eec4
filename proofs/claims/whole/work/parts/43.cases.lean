/-! ===== the law's cases ===== -/
abbrev la_L (g : vx_G) (b i : Nat) : List (Nat × Value) := [(3, .int (nI i)), (2, .ref (g.2.2.1 35)), (1, .ref (g.2.2.1 0)), (0, .ref b)]
def la_B (p : Program) (s : State) (m : MethodId) (args : Array Value) (meth : Method) (c : Code) (g : vx_G) (b LL : Nat) (xs : Nat → Int32) : Prop :=
  vx_C p s m args meth c RL cL_law 4 ret g ∧ (∀ q, vx_A g q → s.heap.size ≤ q) ∧ va_X b LL xs s s.heap ∧ b < s.heap.size ∧ LL ≤ 1536
section LA
variable {p : Program} {l : Launch} {e : Env} {s : State} {m : MethodId} {args : Array Value} {below : List Frame} {meth : Method} {c : Code} {Q : State → Prop} {g : vx_G} {S : vx_St} {b LL : Nat} {xs : Nat → Int32} {i : Nat}
theorem la_arg (B : la_B p s m args meth c g b LL xs) {pc k : Nat} {n : Int} {st : List Value} (hi : i + k < LL) (hk : Int32.ofInt n = nI k) (d0 : decode cL_law pc = .ok (.aload_n 0, 1)) (d1 : decode cL_law (pc + 1) = .ok (.iload_n 3, 1)) (d2 : decode cL_law (pc + 1 + 1) = .ok (.iconst n, 1)) (d3 : decode cL_law (pc + 1 + 1 + 1) = .ok (.iadd, 1)) (d4 : decode cL_law (pc + 1 + 1 + 1 + 1) = .ok (.iaload, 1))
    (kk : vl_V p l e room_1 s m args below meth c Q g 4 (pc + 1 + 1 + 1 + 1 + 1) (la_L g b i) (.int (xs (i + k)) :: st) S) : vl_V p l e room_1 s m args below meth c Q g 4 pc (la_L g b i) st S := by
  obtain ⟨C, hg, hX, hbl, hL⟩ := B
  refine vl_aload_n C d0 rfl 3 rfl ?_
  refine vl_iload_n C d1 rfl 0 rfl ?_
  refine vl_iconst (v := nI k) C d2 hk ?_
  refine vl_iadd C d3 ?_
  rw [nI_add]
  exact vl_sld C hX hbl hi hL d4 kk
set_option maxRecDepth 100000 in
theorem la_letters (B : la_B p s m args meth c g b LL xs) (hi : i + 2 < LL) (j : ivz S) (kk : ∀ S2, ivz S2 → vl_V p l e room_1 s m args below meth c Q g 4 807 (la_L g b i) [] S2) : vl_V p l e room_1 s m args below meth c Q g 4 160 (la_L g b i) [] S := by
  obtain ⟨C, hg, -⟩ := id B
  obtain ⟨P1, M1, K1⟩ := pr_letters l g j ((xs (i + 1)).toInt64 <<< ((32 : Int32).toInt64 &&& 63) ||| (xs (i + 2)).toInt64 &&& 4294967295)
  refine vl_aload_n C dL_law_160 rfl 2 rfl ?_
  refine la_arg B (k := 1) (by omega) (by decide) dL_law_161 dL_law_162 dL_law_163 dL_law_164 dL_law_165 ?_
  refine vl_i2l C dL_law_166 ?_
  refine vl_bipush (v := 32) C dL_law_167 (by decide) ?_
  refine vl_lshl C dL_law_169 ?_
  refine la_arg B (k := 2) (by omega) (by decide) dL_law_170 dL_law_171 dL_law_172 dL_law_173 dL_law_174 ?_
  refine vl_i2l C dL_law_175 ?_
  refine vl_ldc2 C (tm_1 (List.mem_of_getElem? (i := 6) rfl)) dL_law_176 ?_
  refine vl_land C dL_law_179 ?_
  refine vl_lor C dL_law_180 ?_
  refine vl_cV_i (As := [.long ((xs (i + 1)).toInt64 <<< ((32 : Int32).toInt64 &&& 63) ||| (xs (i + 2)).toInt64 &&& 4294967295)]) (rest := []) C hg M1 yk_X4_letters (tm_4 (List.mem_of_getElem? (i := 13) rfl)) rfl rfl rfl ⟨Nat.le_of_ble_eq_true rfl, Nat.le_of_ble_eq_true rfl⟩ ⟨Nat.le_of_ble_eq_true rfl, Nat.le_of_ble_eq_true rfl⟩ rfl (Nat.le_of_ble_eq_true rfl) rfl dL_law_181 (fun r1 S1 h1 => ?_)
  obtain ⟨P2, M2, K2⟩ := K1 r1 S1 h1
  refine vl_aload_n C dL_law_184 rfl 1 rfl ?_
  refine la_arg B (k := 1) (by omega) (by decide) dL_law_185 dL_law_186 dL_law_187 dL_law_188 dL_law_189 ?_
  refine vl_i2l C dL_law_190 ?_
  refine vl_bipush (v := 32) C dL_law_191 (by decide) ?_
  refine vl_lshl C dL_law_193 ?_
  refine la_arg B (k := 2) (by omega) (by decide) dL_law_194 dL_law_195 dL_law_196 dL_law_197 dL_law_198 ?_
  refine vl_i2l C dL_law_199 ?_
  refine vl_ldc2 C (tm_1 (List.mem_of_getElem? (i := 6) rfl)) dL_law_200 ?_
  refine vl_land C dL_law_203 ?_
  refine vl_lor C dL_law_204 ?_
  refine vl_cV_i (As := [.long ((xs (i + 1)).toInt64 <<< ((32 : Int32).toInt64 &&& 63) ||| (xs (i + 2)).toInt64 &&& 4294967295)]) (rest := [.int r1]) C hg M2 yk_X5_letters (tm_5 (List.mem_of_getElem? (i := 2) rfl)) rfl rfl rfl ⟨Nat.le_of_ble_eq_true rfl, Nat.le_of_ble_eq_true rfl⟩ ⟨Nat.le_of_ble_eq_true rfl, Nat.le_of_ble_eq_true rfl⟩ rfl (Nat.le_of_ble_eq_true rfl) rfl dL_law_205 (fun r2 S2 h2 => ?_)
  obtain ⟨e1, j2⟩ := K2 r2 S2 h2
  exact vl_icmp_eq (tgt := 807) C dL_law_208 (by decide) (fun _ => kk S2 j2) (fun q => absurd e1 q)
set_option maxRecDepth 100000 in
theorem la_blank (B : la_B p s m args meth c g b LL xs) (hi : i + 2 < LL) (j : ivz S) (kk : ∀ S2, ivz S2 → vl_V p l e room_1 s m args below meth c Q g 4 807 (la_L g b i) [] S2) : vl_V p l e room_1 s m args below meth c Q g 4 213 (la_L g b i) [] S := by
  obtain ⟨C, hg, -⟩ := id B
  obtain ⟨P1, M1, K1⟩ := pr_blank l g j
  refine vl_aload_n C dL_law_213 rfl 2 rfl ?_
  refine vl_cV_i (As := []) (rest := []) C hg M1 yk_X4_blank (tm_5 (List.mem_of_getElem? (i := 8) rfl)) rfl rfl rfl ⟨Nat.le_of_ble_eq_true rfl, Nat.le_of_ble_eq_true rfl⟩ ⟨Nat.le_of_ble_eq_true rfl, Nat.le_of_ble_eq_true rfl⟩ rfl (Nat.le_of_ble_eq_true rfl) rfl dL_law_214 (fun r1 S1 h1 => ?_)
  obtain ⟨P2, M2, K2⟩ := K1 r1 S1 h1
  refine vl_aload_n C dL_law_217 rfl 1 rfl ?_
  refine vl_cV_i (As := []) (rest := [.int r1]) C hg M2 yk_X5_blank (tm_5 (List.mem_of_getElem? (i := 12) rfl)) rfl rfl rfl ⟨Nat.le_of_ble_eq_true rfl, Nat.le_of_ble_eq_true rfl⟩ ⟨Nat.le_of_ble_eq_true rfl, Nat.le_of_ble_eq_true rfl⟩ rfl (Nat.le_of_ble_eq_true rfl) rfl dL_law_218 (fun r2 S2 h2 => ?_)
  obtain ⟨e1, j2⟩ := K2 r2 S2 h2
  exact vl_icmp_eq (tgt := 807) C dL_law_221 (by decide) (fun _ => kk S2 j2) (fun q => absurd e1 q)
set_option maxRecDepth 100000 in
theorem la_fault (B : la_B p s m args meth c g b LL xs) (hi : i + 2 < LL) (j : ivz S) (kk : ∀ S2, ivz S2 → vl_V p l e room_1 s m args below meth c Q g 4 807 (la_L g b i) [] S2) : vl_V p l e room_1 s m args below meth c Q g 4 226 (la_L g b i) [] S := by
  obtain ⟨C, hg, -⟩ := id B
  obtain ⟨P1, M1, K1⟩ := pr_fault l g j
  refine vl_aload_n C dL_law_226 rfl 2 rfl ?_
  refine vl_cV_i (As := []) (rest := []) C hg M1 yk_X4_fault (tm_5 (List.mem_of_getElem? (i := 16) rfl)) rfl rfl rfl ⟨Nat.le_of_ble_eq_true rfl, Nat.le_of_ble_eq_true rfl⟩ ⟨Nat.le_of_ble_eq_true rfl, Nat.le_of_ble_eq_true rfl⟩ rfl (Nat.le_of_ble_eq_true rfl) rfl dL_law_227 (fun r1 S1 h1 => ?_)
  obtain ⟨P2, M2, K2⟩ := K1 r1 S1 h1
  refine vl_aload_n C dL_law_230 rfl 1 rfl ?_
  refine vl_cV_i (As := []) (rest := [.int r1]) C hg M2 yk_X5_fault (tm_10 (List.mem_of_getElem? (i := 6) rfl)) rfl rfl rfl ⟨Nat.le_of_ble_eq_true rfl, Nat.le_of_ble_eq_true rfl⟩ ⟨Nat.le_of_ble_eq_true rfl, Nat.le_of_ble_eq_true rfl⟩ rfl (Nat.le_of_ble_eq_true rfl) rfl dL_law_231 (fun r2 S2 h2 => ?_)
  obtain ⟨e1, j2⟩ := K2 r2 S2 h2
  exact vl_icmp_eq (tgt := 807) C dL_law_234 (by decide) (fun _ => kk S2 j2) (fun q => absurd e1 q)
set_option maxRecDepth 100000 in
theorem la_house (B : la_B p s m args meth c g b LL xs) (hi : i + 2 < LL) (j : ivz S) (kk : ∀ S2, ivz S2 → vl_V p l e room_1 s m args below meth c Q g 4 807 (la_L g b i) [] S2) : vl_V p l e room_1 s m args below meth c Q g 4 239 (la_L g b i) [] S := by
  obtain ⟨C, hg, -⟩ := id B
  obtain ⟨P1, M1, K1⟩ := pr_house l g j
  refine vl_aload_n C dL_law_239 rfl 2 rfl ?_
  refine vl_cV_i (As := []) (rest := []) C hg M1 yk_X4_house (tm_11 (List.mem_of_getElem? (i := 1) rfl)) rfl rfl rfl ⟨Nat.le_of_ble_eq_true rfl, Nat.le_of_ble_eq_true rfl⟩ ⟨Nat.le_of_ble_eq_true rfl, Nat.le_of_ble_eq_true rfl⟩ rfl (Nat.le_of_ble_eq_true rfl) rfl dL_law_240 (fun r1 S1 h1 => ?_)
  obtain ⟨P2, M2, K2⟩ := K1 r1 S1 h1
  refine vl_aload_n C dL_law_243 rfl 1 rfl ?_
  refine vl_cV_i (As := []) (rest := [.int r1]) C hg M2 yk_X5_house (tm_11 (List.mem_of_getElem? (i := 23) rfl)) rfl rfl rfl ⟨Nat.le_of_ble_eq_true rfl, Nat.le_of_ble_eq_true rfl⟩ ⟨Nat.le_of_ble_eq_true rfl, Nat.le_of_ble_eq_true rfl⟩ rfl (Nat.le_of_ble_eq_true rfl) rfl dL_law_244 (fun r2 S2 h2 => ?_)
  obtain ⟨e1, j2⟩ := K2 r2 S2 h2
  exact vl_icmp_eq (tgt := 807) C dL_law_247 (by decide) (fun _ => kk S2 j2) (fun q => absurd e1 q)
set_option maxRecDepth 100000 in
theorem la_about (B : la_B p s m args meth c g b LL xs) (hi : i + 2 < LL) (j : ivz S) (kk : ∀ S2, ivz S2 → vl_V p l e room_1 s m args below meth c Q g 4 807 (la_L g b i) [] S2) : vl_V p l e room_1 s m args below meth c Q g 4 252 (la_L g b i) [] S := by
  obtain ⟨C, hg, -⟩ := id B
  obtain ⟨P1, M1, K1⟩ := pr_about l g j (xs (i + 1)) (xs (i + 2))
  refine vl_aload_n C dL_law_252 rfl 2 rfl ?_
  refine la_arg B (k := 1) (by omega) (by decide) dL_law_253 dL_law_254 dL_law_255 dL_law_256 dL_law_257 ?_
  refine la_arg B (k := 2) (by omega) (by decide) dL_law_258 dL_law_259 dL_law_260 dL_law_261 dL_law_262 ?_
  refine vl_cV_i (As := [.int (xs (i + 1)), .int (xs (i + 2))]) (rest := []) C hg M1 yk_X4_about (tm_12 (List.mem_of_getElem? (i := 5) rfl)) rfl rfl rfl ⟨Nat.le_of_ble_eq_true rfl, Nat.le_of_ble_eq_true rfl⟩ ⟨Nat.le_of_ble_eq_true rfl, Nat.le_of_ble_eq_true rfl⟩ rfl (Nat.le_of_ble_eq_true rfl) rfl dL_law_263 (fun r1 S1 h1 => ?_)
  obtain ⟨P2, M2, K2⟩ := K1 r1 S1 h1
  refine vl_aload_n C dL_law_266 rfl 1 rfl ?_
  refine la_arg B (k := 1) (by omega) (by decide) dL_law_267 dL_law_268 dL_law_269 dL_law_270 dL_law_271 ?_
  refine la_arg B (k := 2) (by omega) (by decide) dL_law_272 dL_law_273 dL_law_274 dL_law_275 dL_law_276 ?_
  refine vl_cV_i (As := [.int (xs (i + 1)), .int (xs (i + 2))]) (rest := [.int r1]) C hg M2 yk_X5_about (tm_12 (List.mem_of_getElem? (i := 15) rfl)) rfl rfl rfl ⟨Nat.le_of_ble_eq_true rfl, Nat.le_of_ble_eq_true rfl⟩ ⟨Nat.le_of_ble_eq_true rfl, Nat.le_of_ble_eq_true rfl⟩ rfl (Nat.le_of_ble_eq_true rfl) rfl dL_law_277 (fun r2 S2 h2 => ?_)
  obtain ⟨e1, j2⟩ := K2 r2 S2 h2
  exact vl_icmp_eq (tgt := 807) C dL_law_280 (by decide) (fun _ => kk S2 j2) (fun q => absurd e1 q)
set_option maxRecDepth 100000 in
theorem la_as (B : la_B p s m args meth c g b LL xs) (hi : i + 2 < LL) (j : ivz S) (kk : ∀ S2, ivz S2 → vl_V p l e room_1 s m args below meth c Q g 4 807 (la_L g b i) [] S2) : vl_V p l e room_1 s m args below meth c Q g 4 285 (la_L g b i) [] S := by
  obtain ⟨C, hg, -⟩ := id B
  obtain ⟨P1, M1, K1⟩ := pr_as l g j (xs (i + 1)) (xs (i + 2))
  refine vl_aload_n C dL_law_285 rfl 2 rfl ?_
  refine la_arg B (k := 1) (by omega) (by decide) dL_law_286 dL_law_287 dL_law_288 dL_law_289 dL_law_290 ?_
  refine la_arg B (k := 2) (by omega) (by decide) dL_law_291 dL_law_292 dL_law_293 dL_law_294 dL_law_295 ?_
  refine vl_cV_i (As := [.int (xs (i + 1)), .int (xs (i + 2))]) (rest := []) C hg M1 yk_X4_as (tm_13 (List.mem_of_getElem? (i := 6) rfl)) rfl rfl rfl ⟨Nat.le_of_ble_eq_true rfl, Nat.le_of_ble_eq_true rfl⟩ ⟨Nat.le_of_ble_eq_true rfl, Nat.le_of_ble_eq_true rfl⟩ rfl (Nat.le_of_ble_eq_true rfl) rfl dL_law_296 (fun r1 S1 h1 => ?_)
  obtain ⟨P2, M2, K2⟩ := K1 r1 S1 h1
  refine vl_aload_n C dL_law_299 rfl 1 rfl ?_
  refine la_arg B (k := 1) (by omega) (by decide) dL_law_300 dL_law_301 dL_law_302 dL_law_303 dL_law_304 ?_
  refine la_arg B (k := 2) (by omega) (by decide) dL_law_305 dL_law_306 dL_law_307 dL_law_308 dL_law_309 ?_
  refine vl_cV_i (As := [.int (xs (i + 1)), .int (xs (i + 2))]) (rest := [.int r1]) C hg M2 yk_X5_as (tm_13 (List.mem_of_getElem? (i := 14) rfl)) rfl rfl rfl ⟨Nat.le_of_ble_eq_true rfl, Nat.le_of_ble_eq_true rfl⟩ ⟨Nat.le_of_ble_eq_true rfl, Nat.le_of_ble_eq_true rfl⟩ rfl (Nat.le_of_ble_eq_true rfl) rfl dL_law_310 (fun r2 S2 h2 => ?_)
  obtain ⟨e1, j2⟩ := K2 r2 S2 h2
  exact vl_icmp_eq (tgt := 807) C dL_law_313 (by decide) (fun _ => kk S2 j2) (fun q => absurd e1 q)
set_option maxRecDepth 100000 in
theorem la_length (B : la_B p s m args meth c g b LL xs) (hi : i + 2 < LL) (j : ivz S) (kk : ∀ S2, ivz S2 → vl_V p l e room_1 s m args below meth c Q g 4 807 (la_L g b i) [] S2) : vl_V p l e room_1 s m args below meth c Q g 4 318 (la_L g b i) [] S := by
  obtain ⟨C, hg, -⟩ := id B
  obtain ⟨P1, M1, K1⟩ := pr_length l g j (xs (i + 1))
  refine vl_aload_n C dL_law_318 rfl 2 rfl ?_
  refine la_arg B (k := 1) (by omega) (by decide) dL_law_319 dL_law_320 dL_law_321 dL_law_322 dL_law_323 ?_
  refine vl_cV_i (As := [.int (xs (i + 1))]) (rest := []) C hg M1 yk_X4_length (tm_13 (List.mem_of_getElem? (i := 18) rfl)) rfl rfl rfl ⟨Nat.le_of_ble_eq_true rfl, Nat.le_of_ble_eq_true rfl⟩ ⟨Nat.le_of_ble_eq_true rfl, Nat.le_of_ble_eq_true rfl⟩ rfl (Nat.le_of_ble_eq_true rfl) rfl dL_law_324 (fun r1 S1 h1 => ?_)
  obtain ⟨P2, M2, K2⟩ := K1 r1 S1 h1
  refine vl_aload_n C dL_law_327 rfl 1 rfl ?_
  refine la_arg B (k := 1) (by omega) (by decide) dL_law_328 dL_law_329 dL_law_330 dL_law_331 dL_law_332 ?_
  refine vl_cV_i (As := [.int (xs (i + 1))]) (rest := [.int r1]) C hg M2 yk_X5_length (tm_13 (List.mem_of_getElem? (i := 22) rfl)) rfl rfl rfl ⟨Nat.le_of_ble_eq_true rfl, Nat.le_of_ble_eq_true rfl⟩ ⟨Nat.le_of_ble_eq_true rfl, Nat.le_of_ble_eq_true rfl⟩ rfl (Nat.le_of_ble_eq_true rfl) rfl dL_law_333 (fun r2 S2 h2 => ?_)
  obtain ⟨e1, j2⟩ := K2 r2 S2 h2
  exact vl_icmp_eq (tgt := 807) C dL_law_336 (by decide) (fun _ => kk S2 j2) (fun q => absurd e1 q)
set_option maxRecDepth 100000 in
theorem la_brake (B : la_B p s m args meth c g b LL xs) (hi : i + 2 < LL) (j : ivz S) (kk : ∀ S2, ivz S2 → vl_V p l e room_1 s m args below meth c Q g 4 807 (la_L g b i) [] S2) : vl_V p l e room_1 s m args below meth c Q g 4 341 (la_L g b i) [] S := by
  obtain ⟨C, hg, -⟩ := id B
  by_cases hb : xs (i + 2) = 0
  · obtain ⟨P1, M1, K1⟩ := pr_brake l g j (xs (i + 1)) 0
    refine vl_aload_n C dL_law_341 rfl 2 rfl ?_
    refine la_arg B (k := 1) (by omega) (by decide) dL_law_342 dL_law_343 dL_law_344 dL_law_345 dL_law_346 ?_
    refine la_arg B (k := 2) (by omega) (by decide) dL_law_347 dL_law_348 dL_law_349 dL_law_350 dL_law_351 ?_
    refine vl_if_eq (tgt := 359) C dL_law_352 (by decide) (fun _ => ?_) (fun q => absurd hb q)
    refine vl_iconst (v := 0) C dL_law_359 (by decide) ?_
    refine vl_cV_i (As := [.int (xs (i + 1)), .int 0]) (rest := []) C hg M1 yk_X4_brake (tm_14 (List.mem_of_getElem? (i := 2) rfl)) rfl rfl rfl ⟨Nat.le_of_ble_eq_true rfl, Nat.le_of_ble_eq_true rfl⟩ ⟨Nat.le_of_ble_eq_true rfl, Nat.le_of_ble_eq_true rfl⟩ rfl (Nat.le_of_ble_eq_true rfl) rfl dL_law_360 (fun r1 S1 h1 => ?_)
    obtain ⟨P2, M2, K2⟩ := K1 r1 S1 h1
    refine vl_aload_n C dL_law_363 rfl 1 rfl ?_
    refine la_arg B (k := 1) (by omega) (by decide) dL_law_364 dL_law_365 dL_law_366 dL_law_367 dL_law_368 ?_
    refine la_arg B (k := 2) (by omega) (by decide) dL_law_369 dL_law_370 dL_law_371 dL_law_372 dL_law_373 ?_
    refine vl_if_eq (tgt := 381) C dL_law_374 (by decide) (fun _ => ?_) (fun q => absurd hb q)
    refine vl_iconst (v := 0) C dL_law_381 (by decide) ?_
    refine vl_cV_i (As := [.int (xs (i + 1)), .int 0]) (rest := [.int r1]) C hg M2 yk_X5_brake (tm_14 (List.mem_of_getElem? (i := 7) rfl)) rfl rfl rfl ⟨Nat.le_of_ble_eq_true rfl, Nat.le_of_ble_eq_true rfl⟩ ⟨Nat.le_of_ble_eq_true rfl, Nat.le_of_ble_eq_true rfl⟩ rfl (Nat.le_of_ble_eq_true rfl) rfl dL_law_382 (fun r2 S2 h2 => ?_)
    obtain ⟨e1, j2⟩ := K2 r2 S2 h2
    exact vl_icmp_eq (tgt := 807) C dL_law_385 (by decide) (fun _ => kk S2 j2) (fun q => absurd e1 q)
  · obtain ⟨P1, M1, K1⟩ := pr_brake l g j (xs (i + 1)) 1
    refine vl_aload_n C dL_law_341 rfl 2 rfl ?_
    refine la_arg B (k := 1) (by omega) (by decide) dL_law_342 dL_law_343 dL_law_344 dL_law_345 dL_law_346 ?_
    refine la_arg B (k := 2) (by omega) (by decide) dL_law_347 dL_law_348 dL_law_349 dL_law_350 dL_law_351 ?_
    refine vl_if_eq (tgt := 359) C dL_law_352 (by decide) (fun q => absurd q hb) (fun _ => ?_)
    refine vl_iconst (v := 1) C dL_law_355 (by decide) ?_
    refine vl_goto (tgt := 360) C dL_law_356 (by decide) ?_
    refine vl_cV_i (As := [.int (xs (i + 1)), .int 1]) (rest := []) C hg M1 yk_X4_brake (tm_14 (List.mem_of_getElem? (i := 2) rfl)) rfl rfl rfl ⟨Nat.le_of_ble_eq_true rfl, Nat.le_of_ble_eq_true rfl⟩ ⟨Nat.le_of_ble_eq_true rfl, Nat.le_of_ble_eq_true rfl⟩ rfl (Nat.le_of_ble_eq_true rfl) rfl dL_law_360 (fun r1 S1 h1 => ?_)
    obtain ⟨P2, M2, K2⟩ := K1 r1 S1 h1
    refine vl_aload_n C dL_law_363 rfl 1 rfl ?_
    refine la_arg B (k := 1) (by omega) (by decide) dL_law_364 dL_law_365 dL_law_366 dL_law_367 dL_law_368 ?_
    refine la_arg B (k := 2) (by omega) (by decide) dL_law_369 dL_law_370 dL_law_371 dL_law_372 dL_law_373 ?_
    refine vl_if_eq (tgt := 381) C dL_law_374 (by decide) (fun q => absurd q hb) (fun _ => ?_)
    refine vl_iconst (v := 1) C dL_law_377 (by decide) ?_
    refine vl_goto (tgt := 382) C dL_law_378 (by decide) ?_
    refine vl_cV_i (As := [.int (xs (i + 1)), .int 1]) (rest := [.int r1]) C hg M2 yk_X5_brake (tm_14 (List.mem_of_getElem? (i := 7) rfl)) rfl rfl rfl ⟨Nat.le_of_ble_eq_true rfl, Nat.le_of_ble_eq_true rfl⟩ ⟨Nat.le_of_ble_eq_true rfl, Nat.le_of_ble_eq_true rfl⟩ rfl (Nat.le_of_ble_eq_true rfl) rfl dL_law_382 (fun r2 S2 h2 => ?_)
    obtain ⟨e1, j2⟩ := K2 r2 S2 h2
    exact vl_icmp_eq (tgt := 807) C dL_law_385 (by decide) (fun _ => kk S2 j2) (fun q => absurd e1 q)
set_option maxRecDepth 100000 in
theorem la_rain (B : la_B p s m args meth c g b LL xs) (hi : i + 2 < LL) (j : ivz S) (kk : ∀ S2, ivz S2 → vl_V p l e room_1 s m args below meth c Q g 4 807 (la_L g b i) [] S2) : vl_V p l e room_1 s m args below meth c Q g 4 390 (la_L g b i) [] S := by
  obtain ⟨C, hg, -⟩ := id B
  by_cases hb : xs (i + 1) = 0
  · obtain ⟨P1, M1, K1⟩ := pr_rain l g j 0 (by decide)
    refine vl_aload_n C dL_law_390 rfl 2 rfl ?_
    refine la_arg B (k := 1) (by omega) (by decide) dL_law_391 dL_law_392 dL_law_393 dL_law_394 dL_law_395 ?_
    refine vl_if_eq (tgt := 403) C dL_law_396 (by decide) (fun _ => ?_) (fun q => absurd hb q)
    refine vl_iconst (v := 0) C dL_law_403 (by decide) ?_
    refine vl_cV_i (As := [.int 0]) (rest := []) C hg M1 yk_X4_rain (tm_14 (List.mem_of_getElem? (i := 11) rfl)) rfl rfl rfl ⟨Nat.le_of_ble_eq_true rfl, Nat.le_of_ble_eq_true rfl⟩ ⟨Nat.le_of_ble_eq_true rfl, Nat.le_of_ble_eq_true rfl⟩ rfl (Nat.le_of_ble_eq_true rfl) rfl dL_law_404 (fun r1 S1 h1 => ?_)
    obtain ⟨P2, M2, K2⟩ := K1 r1 S1 h1
    refine vl_aload_n C dL_law_407 rfl 1 rfl ?_
    refine la_arg B (k := 1) (by omega) (by decide) dL_law_408 dL_law_409 dL_law_410 dL_law_411 dL_law_412 ?_
    refine vl_if_eq (tgt := 420) C dL_law_413 (by decide) (fun _ => ?_) (fun q => absurd hb q)
    refine vl_iconst (v := 0) C dL_law_420 (by decide) ?_
    refine vl_cV_i (As := [.int 0]) (rest := [.int r1]) C hg M2 yk_X5_rain (tm_14 (List.mem_of_getElem? (i := 15) rfl)) rfl rfl rfl ⟨Nat.le_of_ble_eq_true rfl, Nat.le_of_ble_eq_true rfl⟩ ⟨Nat.le_of_ble_eq_true rfl, Nat.le_of_ble_eq_true rfl⟩ rfl (Nat.le_of_ble_eq_true rfl) rfl dL_law_421 (fun r2 S2 h2 => ?_)
    obtain ⟨e1, j2⟩ := K2 r2 S2 h2
    exact vl_icmp_eq (tgt := 807) C dL_law_424 (by decide) (fun _ => kk S2 j2) (fun q => absurd e1 q)
  · obtain ⟨P1, M1, K1⟩ := pr_rain l g j 1 (by decide)
    refine vl_aload_n C dL_law_390 rfl 2 rfl ?_
    refine la_arg B (k := 1) (by omega) (by decide) dL_law_391 dL_law_392 dL_law_393 dL_law_394 dL_law_395 ?_
    refine vl_if_eq (tgt := 403) C dL_law_396 (by decide) (fun q => absurd q hb) (fun _ => ?_)
    refine vl_iconst (v := 1) C dL_law_399 (by decide) ?_
    refine vl_goto (tgt := 404) C dL_law_400 (by decide) ?_
    refine vl_cV_i (As := [.int 1]) (rest := []) C hg M1 yk_X4_rain (tm_14 (List.mem_of_getElem? (i := 11) rfl)) rfl rfl rfl ⟨Nat.le_of_ble_eq_true rfl, Nat.le_of_ble_eq_true rfl⟩ ⟨Nat.le_of_ble_eq_true rfl, Nat.le_of_ble_eq_true rfl⟩ rfl (Nat.le_of_ble_eq_true rfl) rfl dL_law_404 (fun r1 S1 h1 => ?_)
    obtain ⟨P2, M2, K2⟩ := K1 r1 S1 h1
    refine vl_aload_n C dL_law_407 rfl 1 rfl ?_
    refine la_arg B (k := 1) (by omega) (by decide) dL_law_408 dL_law_409 dL_law_410 dL_law_411 dL_law_412 ?_
    refine vl_if_eq (tgt := 420) C dL_law_413 (by decide) (fun q => absurd q hb) (fun _ => ?_)
    refine vl_iconst (v := 1) C dL_law_416 (by decide) ?_
    refine vl_goto (tgt := 421) C dL_law_417 (by decide) ?_
    refine vl_cV_i (As := [.int 1]) (rest := [.int r1]) C hg M2 yk_X5_rain (tm_14 (List.mem_of_getElem? (i := 15) rfl)) rfl rfl rfl ⟨Nat.le_of_ble_eq_true rfl, Nat.le_of_ble_eq_true rfl⟩ ⟨Nat.le_of_ble_eq_true rfl, Nat.le_of_ble_eq_true rfl⟩ rfl (Nat.le_of_ble_eq_true rfl) rfl dL_law_421 (fun r2 S2 h2 => ?_)
    obtain ⟨e1, j2⟩ := K2 r2 S2 h2
    exact vl_icmp_eq (tgt := 807) C dL_law_424 (by decide) (fun _ => kk S2 j2) (fun q => absurd e1 q)
set_option maxRecDepth 100000 in
theorem la_wants (B : la_B p s m args meth c g b LL xs) (hi : i + 2 < LL) (j : ivz S) (kk : ∀ S2, ivz S2 → vl_V p l e room_1 s m args below meth c Q g 4 807 (la_L g b i) [] S2) : vl_V p l e room_1 s m args below meth c Q g 4 429 (la_L g b i) [] S := by
  obtain ⟨C, hg, -⟩ := id B
  obtain ⟨P1, M1, K1⟩ := pr_wants l g j (xs (i + 1))
  refine vl_aload_n C dL_law_429 rfl 2 rfl ?_
  refine la_arg B (k := 1) (by omega) (by decide) dL_law_430 dL_law_431 dL_law_432 dL_law_433 dL_law_434 ?_
  refine vl_cV_i (As := [.int (xs (i + 1))]) (rest := []) C hg M1 yk_X4_wants (tm_14 (List.mem_of_getElem? (i := 20) rfl)) rfl rfl rfl ⟨Nat.le_of_ble_eq_true rfl, Nat.le_of_ble_eq_true rfl⟩ ⟨Nat.le_of_ble_eq_true rfl, Nat.le_of_ble_eq_true rfl⟩ rfl (Nat.le_of_ble_eq_true rfl) rfl dL_law_435 (fun r1 S1 h1 => ?_)
  obtain ⟨P2, M2, K2⟩ := K1 r1 S1 h1
  refine vl_aload_n C dL_law_438 rfl 1 rfl ?_
  refine la_arg B (k := 1) (by omega) (by decide) dL_law_439 dL_law_440 dL_law_441 dL_law_442 dL_law_443 ?_
  refine vl_cV_i (As := [.int (xs (i + 1))]) (rest := [.int r1]) C hg M2 yk_X5_wants (tm_15 (List.mem_of_getElem? (i := 8) rfl)) rfl rfl rfl ⟨Nat.le_of_ble_eq_true rfl, Nat.le_of_ble_eq_true rfl⟩ ⟨Nat.le_of_ble_eq_true rfl, Nat.le_of_ble_eq_true rfl⟩ rfl (Nat.le_of_ble_eq_true rfl) rfl dL_law_444 (fun r2 S2 h2 => ?_)
  obtain ⟨e1, j2⟩ := K2 r2 S2 h2
  exact vl_icmp_eq (tgt := 807) C dL_law_447 (by decide) (fun _ => kk S2 j2) (fun q => absurd e1 q)
set_option maxRecDepth 100000 in
theorem la_goes (B : la_B p s m args meth c g b LL xs) (hi : i + 2 < LL) (j : ivz S) (kk : ∀ S2, ivz S2 → vl_V p l e room_1 s m args below meth c Q g 4 807 (la_L g b i) [] S2) : vl_V p l e room_1 s m args below meth c Q g 4 452 (la_L g b i) [] S := by
  obtain ⟨C, hg, -⟩ := id B
  obtain ⟨P1, M1, K1⟩ := pr_goes l g j (xs (i + 1))
  refine vl_aload_n C dL_law_452 rfl 2 rfl ?_
  refine la_arg B (k := 1) (by omega) (by decide) dL_law_453 dL_law_454 dL_law_455 dL_law_456 dL_law_457 ?_
  refine vl_cV_i (As := [.int (xs (i + 1))]) (rest := []) C hg M1 yk_X4_goes (tm_15 (List.mem_of_getElem? (i := 21) rfl)) rfl rfl rfl ⟨Nat.le_of_ble_eq_true rfl, Nat.le_of_ble_eq_true rfl⟩ ⟨Nat.le_of_ble_eq_true rfl, Nat.le_of_ble_eq_true rfl⟩ rfl (Nat.le_of_ble_eq_true rfl) rfl dL_law_458 (fun r1 S1 h1 => ?_)
  obtain ⟨P2, M2, K2⟩ := K1 r1 S1 h1
  refine vl_aload_n C dL_law_461 rfl 1 rfl ?_
  refine la_arg B (k := 1) (by omega) (by decide) dL_law_462 dL_law_463 dL_law_464 dL_law_465 dL_law_466 ?_
  refine vl_cV_i (As := [.int (xs (i + 1))]) (rest := [.int r1]) C hg M2 yk_X5_goes (tm_16 (List.mem_of_getElem? (i := 19) rfl)) rfl rfl rfl ⟨Nat.le_of_ble_eq_true rfl, Nat.le_of_ble_eq_true rfl⟩ ⟨Nat.le_of_ble_eq_true rfl, Nat.le_of_ble_eq_true rfl⟩ rfl (Nat.le_of_ble_eq_true rfl) rfl dL_law_467 (fun r2 S2 h2 => ?_)
  obtain ⟨e1, j2⟩ := K2 r2 S2 h2
  exact vl_icmp_eq (tgt := 807) C dL_law_470 (by decide) (fun _ => kk S2 j2) (fun q => absurd e1 q)
set_option maxRecDepth 100000 in
theorem la_hour (B : la_B p s m args meth c g b LL xs) (hi : i + 2 < LL) (j : ivz S) (kk : ∀ S2, ivz S2 → vl_V p l e room_1 s m args below meth c Q g 4 807 (la_L g b i) [] S2) : vl_V p l e room_1 s m args below meth c Q g 4 475 (la_L g b i) [] S := by
  obtain ⟨C, hg, -⟩ := id B
  obtain ⟨P1, M1, K1⟩ := pr_hour l g j
  refine vl_aload_n C dL_law_475 rfl 2 rfl ?_
  refine vl_cV_i (As := []) (rest := []) C hg M1 yk_X4_hour (tm_17 (List.mem_of_getElem? (i := 19) rfl)) rfl rfl rfl ⟨Nat.le_of_ble_eq_true rfl, Nat.le_of_ble_eq_true rfl⟩ ⟨Nat.le_of_ble_eq_true rfl, Nat.le_of_ble_eq_true rfl⟩ rfl (Nat.le_of_ble_eq_true rfl) rfl dL_law_476 (fun r1 S1 h1 => ?_)
  obtain ⟨P2, M2, K2⟩ := K1 r1 S1 h1
  refine vl_aload_n C dL_law_479 rfl 1 rfl ?_
  refine vl_cV_i (As := []) (rest := [.int r1]) C hg M2 yk_X5_hour (tm_18 (List.mem_of_getElem? (i := 14) rfl)) rfl rfl rfl ⟨Nat.le_of_ble_eq_true rfl, Nat.le_of_ble_eq_true rfl⟩ ⟨Nat.le_of_ble_eq_true rfl, Nat.le_of_ble_eq_true rfl⟩ rfl (Nat.le_of_ble_eq_true rfl) rfl dL_law_480 (fun r2 S2 h2 => ?_)
  obtain ⟨e1, j2⟩ := K2 r2 S2 h2
  exact vl_icmp_eq (tgt := 807) C dL_law_483 (by decide) (fun _ => kk S2 j2) (fun q => absurd e1 q)
set_option maxRecDepth 100000 in
theorem la_worked (B : la_B p s m args meth c g b LL xs) (hi : i + 2 < LL) (j : ivz S) (kk : ∀ S2, ivz S2 → vl_V p l e room_1 s m args below meth c Q g 4 807 (la_L g b i) [] S2) : vl_V p l e room_1 s m args below meth c Q g 4 488 (la_L g b i) [] S := by
  obtain ⟨C, hg, -⟩ := id B
  obtain ⟨P1, M1, K1⟩ := pr_worked l g j
  refine vl_aload_n C dL_law_488 rfl 2 rfl ?_
  refine vl_cV_i (As := []) (rest := []) C hg M1 yk_X4_worked (tm_19 (List.mem_of_getElem? (i := 8) rfl)) rfl rfl rfl ⟨Nat.le_of_ble_eq_true rfl, Nat.le_of_ble_eq_true rfl⟩ ⟨Nat.le_of_ble_eq_true rfl, Nat.le_of_ble_eq_true rfl⟩ rfl (Nat.le_of_ble_eq_true rfl) rfl dL_law_489 (fun r1 S1 h1 => ?_)
  obtain ⟨P2, M2, K2⟩ := K1 r1 S1 h1
  refine vl_aload_n C dL_law_492 rfl 1 rfl ?_
  refine vl_cV_i (As := []) (rest := [.int r1]) C hg M2 yk_X5_worked (tm_19 (List.mem_of_getElem? (i := 12) rfl)) rfl rfl rfl ⟨Nat.le_of_ble_eq_true rfl, Nat.le_of_ble_eq_true rfl⟩ ⟨Nat.le_of_ble_eq_true rfl, Nat.le_of_ble_eq_true rfl⟩ rfl (Nat.le_of_ble_eq_true rfl) rfl dL_law_493 (fun r2 S2 h2 => ?_)
  obtain ⟨e1, j2⟩ := K2 r2 S2 h2
  exact vl_icmp_eq (tgt := 807) C dL_law_496 (by decide) (fun _ => kk S2 j2) (fun q => absurd e1 q)
set_option maxRecDepth 100000 in
theorem la_part (B : la_B p s m args meth c g b LL xs) (hi : i + 2 < LL) (j : ivz S) (kk : ∀ S2, ivz S2 → vl_V p l e room_1 s m args below meth c Q g 4 807 (la_L g b i) [] S2) : vl_V p l e room_1 s m args below meth c Q g 4 501 (la_L g b i) [] S := by
  obtain ⟨C, hg, -⟩ := id B
  obtain ⟨P1, M1, K1⟩ := pr_part l g j (xs (i + 1))
  refine vl_aload_n C dL_law_501 rfl 2 rfl ?_
  refine la_arg B (k := 1) (by omega) (by decide) dL_law_502 dL_law_503 dL_law_504 dL_law_505 dL_law_506 ?_
  refine vl_cV_i (As := [.int (xs (i + 1))]) (rest := []) C hg M1 yk_X4_part (tm_19 (List.mem_of_getElem? (i := 16) rfl)) rfl rfl rfl ⟨Nat.le_of_ble_eq_true rfl, Nat.le_of_ble_eq_true rfl⟩ ⟨Nat.le_of_ble_eq_true rfl, Nat.le_of_ble_eq_true rfl⟩ rfl (Nat.le_of_ble_eq_true rfl) rfl dL_law_507 (fun r1 S1 h1 => ?_)
  obtain ⟨P2, M2, K2⟩ := K1 r1 S1 h1
  refine vl_aload_n C dL_law_510 rfl 1 rfl ?_
  refine la_arg B (k := 1) (by omega) (by decide) dL_law_511 dL_law_512 dL_law_513 dL_law_514 dL_law_515 ?_
  refine vl_cV_i (As := [.int (xs (i + 1))]) (rest := [.int r1]) C hg M2 yk_X5_part (tm_20 (List.mem_of_getElem? (i := 3) rfl)) rfl rfl rfl ⟨Nat.le_of_ble_eq_true rfl, Nat.le_of_ble_eq_true rfl⟩ ⟨Nat.le_of_ble_eq_true rfl, Nat.le_of_ble_eq_true rfl⟩ rfl (Nat.le_of_ble_eq_true rfl) rfl dL_law_516 (fun r2 S2 h2 => ?_)
  obtain ⟨e1, j2⟩ := K2 r2 S2 h2
  exact vl_icmp_eq (tgt := 807) C dL_law_519 (by decide) (fun _ => kk S2 j2) (fun q => absurd e1 q)
set_option maxRecDepth 100000 in
theorem la_night (B : la_B p s m args meth c g b LL xs) (hi : i + 2 < LL) (j : ivz S) (kk : ∀ S2, ivz S2 → vl_V p l e room_1 s m args below meth c Q g 4 807 (la_L g b i) [] S2) : vl_V p l e room_1 s m args below meth c Q g 4 524 (la_L g b i) [] S := by
  obtain ⟨C, hg, -⟩ := id B
  obtain ⟨P1, M1, K1⟩ := pr_night l g j
  refine vl_aload_n C dL_law_524 rfl 2 rfl ?_
  refine vl_cV_i (As := []) (rest := []) C hg M1 yk_X4_night (tm_20 (List.mem_of_getElem? (i := 15) rfl)) rfl rfl rfl ⟨Nat.le_of_ble_eq_true rfl, Nat.le_of_ble_eq_true rfl⟩ ⟨Nat.le_of_ble_eq_true rfl, Nat.le_of_ble_eq_true rfl⟩ rfl (Nat.le_of_ble_eq_true rfl) rfl dL_law_525 (fun r1 S1 h1 => ?_)
  obtain ⟨P2, M2, K2⟩ := K1 r1 S1 h1
  refine vl_aload_n C dL_law_528 rfl 1 rfl ?_
  refine vl_cV_i (As := []) (rest := [.int r1]) C hg M2 yk_X5_night (tm_21 (List.mem_of_getElem? (i := 0) rfl)) rfl rfl rfl ⟨Nat.le_of_ble_eq_true rfl, Nat.le_of_ble_eq_true rfl⟩ ⟨Nat.le_of_ble_eq_true rfl, Nat.le_of_ble_eq_true rfl⟩ rfl (Nat.le_of_ble_eq_true rfl) rfl dL_law_529 (fun r2 S2 h2 => ?_)
  obtain ⟨e1, j2⟩ := K2 r2 S2 h2
  exact vl_icmp_eq (tgt := 807) C dL_law_532 (by decide) (fun _ => kk S2 j2) (fun q => absurd e1 q)
set_option maxRecDepth 100000 in
theorem la_plan (B : la_B p s m args meth c g b LL xs) (hi : i + 2 < LL) (j : ivz S) (kk : ∀ S2, ivz S2 → vl_V p l e room_1 s m args below meth c Q g 4 807 (la_L g b i) [] S2) : vl_V p l e room_1 s m args below meth c Q g 4 537 (la_L g b i) [] S := by
  obtain ⟨C, hg, -⟩ := id B
  obtain ⟨P1, M1, K1⟩ := pr_plan l g j (xs (i + 1))
  refine vl_aload_n C dL_law_537 rfl 2 rfl ?_
  refine la_arg B (k := 1) (by omega) (by decide) dL_law_538 dL_law_539 dL_law_540 dL_law_541 dL_law_542 ?_
  refine vl_cV_i (As := [.int (xs (i + 1))]) (rest := []) C hg M1 yk_X4_plan (tm_21 (List.mem_of_getElem? (i := 4) rfl)) rfl rfl rfl ⟨Nat.le_of_ble_eq_true rfl, Nat.le_of_ble_eq_true rfl⟩ ⟨Nat.le_of_ble_eq_true rfl, Nat.le_of_ble_eq_true rfl⟩ rfl (Nat.le_of_ble_eq_true rfl) rfl dL_law_543 (fun r1 S1 h1 => ?_)
  obtain ⟨P2, M2, K2⟩ := K1 r1 S1 h1
  refine vl_aload_n C dL_law_546 rfl 1 rfl ?_
  refine la_arg B (k := 1) (by omega) (by decide) dL_law_547 dL_law_548 dL_law_549 dL_law_550 dL_law_551 ?_
  refine vl_cV_i (As := [.int (xs (i + 1))]) (rest := [.int r1]) C hg M2 yk_X5_plan (tm_22 (List.mem_of_getElem? (i := 6) rfl)) rfl rfl rfl ⟨Nat.le_of_ble_eq_true rfl, Nat.le_of_ble_eq_true rfl⟩ ⟨Nat.le_of_ble_eq_true rfl, Nat.le_of_ble_eq_true rfl⟩ rfl (Nat.le_of_ble_eq_true rfl) rfl dL_law_552 (fun r2 S2 h2 => ?_)
  obtain ⟨e1, j2⟩ := K2 r2 S2 h2
  exact vl_icmp_eq (tgt := 807) C dL_law_555 (by decide) (fun _ => kk S2 j2) (fun q => absurd e1 q)
set_option maxRecDepth 100000 in
theorem la_more (B : la_B p s m args meth c g b LL xs) (hi : i + 2 < LL) (j : ivz S) (kk : ∀ S2, ivz S2 → vl_V p l e room_1 s m args below meth c Q g 4 807 (la_L g b i) [] S2) : vl_V p l e room_1 s m args below meth c Q g 4 560 (la_L g b i) [] S := by
  obtain ⟨C, hg, -⟩ := id B
  obtain ⟨P1, M1, K1⟩ := pr_more l g j (xs (i + 1))
  refine vl_aload_n C dL_law_560 rfl 2 rfl ?_
  refine la_arg B (k := 1) (by omega) (by decide) dL_law_561 dL_law_562 dL_law_563 dL_law_564 dL_law_565 ?_
  refine vl_cV_i (As := [.int (xs (i + 1))]) (rest := []) C hg M1 yk_X4_more (tm_23 (List.mem_of_getElem? (i := 12) rfl)) rfl rfl rfl ⟨Nat.le_of_ble_eq_true rfl, Nat.le_of_ble_eq_true rfl⟩ ⟨Nat.le_of_ble_eq_true rfl, Nat.le_of_ble_eq_true rfl⟩ rfl (Nat.le_of_ble_eq_true rfl) rfl dL_law_566 (fun r1 S1 h1 => ?_)
  obtain ⟨P2, M2, K2⟩ := K1 r1 S1 h1
  refine vl_aload_n C dL_law_569 rfl 1 rfl ?_
  refine la_arg B (k := 1) (by omega) (by decide) dL_law_570 dL_law_571 dL_law_572 dL_law_573 dL_law_574 ?_
  refine vl_cV_i (As := [.int (xs (i + 1))]) (rest := [.int r1]) C hg M2 yk_X5_more (tm_23 (List.mem_of_getElem? (i := 16) rfl)) rfl rfl rfl ⟨Nat.le_of_ble_eq_true rfl, Nat.le_of_ble_eq_true rfl⟩ ⟨Nat.le_of_ble_eq_true rfl, Nat.le_of_ble_eq_true rfl⟩ rfl (Nat.le_of_ble_eq_true rfl) rfl dL_law_575 (fun r2 S2 h2 => ?_)
  obtain ⟨e1, j2⟩ := K2 r2 S2 h2
  exact vl_icmp_eq (tgt := 807) C dL_law_578 (by decide) (fun _ => kk S2 j2) (fun q => absurd e1 q)
set_option maxRecDepth 100000 in
theorem la_missing (B : la_B p s m args meth c g b LL xs) (hi : i + 2 < LL) (j : ivz S) (kk : ∀ S2, ivz S2 → vl_V p l e room_1 s m args below meth c Q g 4 807 (la_L g b i) [] S2) : vl_V p l e room_1 s m args below meth c Q g 4 583 (la_L g b i) [] S := by
  obtain ⟨C, hg, -⟩ := id B
  obtain ⟨P1, M1, K1⟩ := pr_missing l g j (xs (i + 1)) (xs (i + 2))
  refine vl_aload_n C dL_law_583 rfl 2 rfl ?_
  refine la_arg B (k := 1) (by omega) (by decide) dL_law_584 dL_law_585 dL_law_586 dL_law_587 dL_law_588 ?_
  refine la_arg B (k := 2) (by omega) (by decide) dL_law_589 dL_law_590 dL_law_591 dL_law_592 dL_law_593 ?_
  refine vl_cV_i (As := [.int (xs (i + 1)), .int (xs (i + 2))]) (rest := []) C hg M1 yk_X4_missing (tm_24 (List.mem_of_getElem? (i := 0) rfl)) rfl rfl rfl ⟨Nat.le_of_ble_eq_true rfl, Nat.le_of_ble_eq_true rfl⟩ ⟨Nat.le_of_ble_eq_true rfl, Nat.le_of_ble_eq_true rfl⟩ rfl (Nat.le_of_ble_eq_true rfl) rfl dL_law_594 (fun r1 S1 h1 => ?_)
  obtain ⟨P2, M2, K2⟩ := K1 r1 S1 h1
  refine vl_aload_n C dL_law_597 rfl 1 rfl ?_
  refine la_arg B (k := 1) (by omega) (by decide) dL_law_598 dL_law_599 dL_law_600 dL_law_601 dL_law_602 ?_
  refine la_arg B (k := 2) (by omega) (by decide) dL_law_603 dL_law_604 dL_law_605 dL_law_606 dL_law_607 ?_
  refine vl_cV_i (As := [.int (xs (i + 1)), .int (xs (i + 2))]) (rest := [.int r1]) C hg M2 yk_X5_missing (tm_24 (List.mem_of_getElem? (i := 11) rfl)) rfl rfl rfl ⟨Nat.le_of_ble_eq_true rfl, Nat.le_of_ble_eq_true rfl⟩ ⟨Nat.le_of_ble_eq_true rfl, Nat.le_of_ble_eq_true rfl⟩ rfl (Nat.le_of_ble_eq_true rfl) rfl dL_law_608 (fun r2 S2 h2 => ?_)
  obtain ⟨e1, j2⟩ := K2 r2 S2 h2
  exact vl_icmp_eq (tgt := 807) C dL_law_611 (by decide) (fun _ => kk S2 j2) (fun q => absurd e1 q)
set_option maxRecDepth 100000 in
theorem la_rest (B : la_B p s m args meth c g b LL xs) (hi : i + 2 < LL) (j : ivz S) (kk : ∀ S2, ivz S2 → vl_V p l e room_1 s m args below meth c Q g 4 807 (la_L g b i) [] S2) : vl_V p l e room_1 s m args below meth c Q g 4 616 (la_L g b i) [] S := by
  obtain ⟨C, hg, -⟩ := id B
  obtain ⟨P1, M1, K1⟩ := pr_rest l g j (xs (i + 1)) (xs (i + 2))
  refine vl_aload_n C dL_law_616 rfl 2 rfl ?_
  refine la_arg B (k := 1) (by omega) (by decide) dL_law_617 dL_law_618 dL_law_619 dL_law_620 dL_law_621 ?_
  refine la_arg B (k := 2) (by omega) (by decide) dL_law_622 dL_law_623 dL_law_624 dL_law_625 dL_law_626 ?_
  refine vl_cV_i (As := [.int (xs (i + 1)), .int (xs (i + 2))]) (rest := []) C hg M1 yk_X4_rest (tm_24 (List.mem_of_getElem? (i := 19) rfl)) rfl rfl rfl ⟨Nat.le_of_ble_eq_true rfl, Nat.le_of_ble_eq_true rfl⟩ ⟨Nat.le_of_ble_eq_true rfl, Nat.le_of_ble_eq_true rfl⟩ rfl (Nat.le_of_ble_eq_true rfl) rfl dL_law_627 (fun r1 S1 h1 => ?_)
  obtain ⟨P2, M2, K2⟩ := K1 r1 S1 h1
  refine vl_aload_n C dL_law_630 rfl 1 rfl ?_
  refine la_arg B (k := 1) (by omega) (by decide) dL_law_631 dL_law_632 dL_law_633 dL_law_634 dL_law_635 ?_
  refine la_arg B (k := 2) (by omega) (by decide) dL_law_636 dL_law_637 dL_law_638 dL_law_639 dL_law_640 ?_
  refine vl_cV_i (As := [.int (xs (i + 1)), .int (xs (i + 2))]) (rest := [.int r1]) C hg M2 yk_X5_rest (tm_25 (List.mem_of_getElem? (i := 6) rfl)) rfl rfl rfl ⟨Nat.le_of_ble_eq_true rfl, Nat.le_of_ble_eq_true rfl⟩ ⟨Nat.le_of_ble_eq_true rfl, Nat.le_of_ble_eq_true rfl⟩ rfl (Nat.le_of_ble_eq_true rfl) rfl dL_law_641 (fun r2 S2 h2 => ?_)
  obtain ⟨e1, j2⟩ := K2 r2 S2 h2
  exact vl_icmp_eq (tgt := 807) C dL_law_644 (by decide) (fun _ => kk S2 j2) (fun q => absurd e1 q)
set_option maxRecDepth 100000 in
theorem la_read (B : la_B p s m args meth c g b LL xs) (hi : i + 2 < LL) (j : ivz S) (kk : ∀ S2, ivz S2 → vl_V p l e room_1 s m args below meth c Q g 4 807 (la_L g b i) [] S2) : vl_V p l e room_1 s m args below meth c Q g 4 649 (la_L g b i) [] S := by
  obtain ⟨C, hg, -⟩ := id B
  obtain ⟨P1, M1, K1⟩ := pr_read l g j (xs (i + 1)) (xs (i + 2))
  refine vl_aload_n C dL_law_649 rfl 2 rfl ?_
  refine la_arg B (k := 1) (by omega) (by decide) dL_law_650 dL_law_651 dL_law_652 dL_law_653 dL_law_654 ?_
  refine la_arg B (k := 2) (by omega) (by decide) dL_law_655 dL_law_656 dL_law_657 dL_law_658 dL_law_659 ?_
  refine vl_cV_i (As := [.int (xs (i + 1)), .int (xs (i + 2))]) (rest := []) C hg M1 yk_X4_read (tm_25 (List.mem_of_getElem? (i := 19) rfl)) rfl rfl rfl ⟨Nat.le_of_ble_eq_true rfl, Nat.le_of_ble_eq_true rfl⟩ ⟨Nat.le_of_ble_eq_true rfl, Nat.le_of_ble_eq_true rfl⟩ rfl (Nat.le_of_ble_eq_true rfl) rfl dL_law_660 (fun r1 S1 h1 => ?_)
  obtain ⟨P2, M2, K2⟩ := K1 r1 S1 h1
  refine vl_aload_n C dL_law_663 rfl 1 rfl ?_
  refine la_arg B (k := 1) (by omega) (by decide) dL_law_664 dL_law_665 dL_law_666 dL_law_667 dL_law_668 ?_
  refine la_arg B (k := 2) (by omega) (by decide) dL_law_669 dL_law_670 dL_law_671 dL_law_672 dL_law_673 ?_
  refine vl_cV_i (As := [.int (xs (i + 1)), .int (xs (i + 2))]) (rest := [.int r1]) C hg M2 yk_X5_read (tm_26 (List.mem_of_getElem? (i := 9) rfl)) rfl rfl rfl ⟨Nat.le_of_ble_eq_true rfl, Nat.le_of_ble_eq_true rfl⟩ ⟨Nat.le_of_ble_eq_true rfl, Nat.le_of_ble_eq_true rfl⟩ rfl (Nat.le_of_ble_eq_true rfl) rfl dL_law_674 (fun r2 S2 h2 => ?_)
  obtain ⟨e1, j2⟩ := K2 r2 S2 h2
  exact vl_icmp_eq (tgt := 807) C dL_law_677 (by decide) (fun _ => kk S2 j2) (fun q => absurd e1 q)
set_option maxRecDepth 100000 in
theorem la_wipe (B : la_B p s m args meth c g b LL xs) (hi : i + 2 < LL) (j : ivz S) (kk : ∀ S2, ivz S2 → vl_V p l e room_1 s m args below meth c Q g 4 807 (la_L g b i) [] S2) : vl_V p l e room_1 s m args below meth c Q g 4 682 (la_L g b i) [] S := by
  obtain ⟨C, hg, -⟩ := id B
  obtain ⟨P1, M1, K1⟩ := pr_wipe l g j
  refine vl_aload_n C dL_law_682 rfl 2 rfl ?_
  refine vl_cV_i (As := []) (rest := []) C hg M1 yk_X4_wipe (tm_26 (List.mem_of_getElem? (i := 14) rfl)) rfl rfl rfl ⟨Nat.le_of_ble_eq_true rfl, Nat.le_of_ble_eq_true rfl⟩ ⟨Nat.le_of_ble_eq_true rfl, Nat.le_of_ble_eq_true rfl⟩ rfl (Nat.le_of_ble_eq_true rfl) rfl dL_law_683 (fun r1 S1 h1 => ?_)
  obtain ⟨P2, M2, K2⟩ := K1 r1 S1 h1
  refine vl_aload_n C dL_law_686 rfl 1 rfl ?_
  refine vl_cV_i (As := []) (rest := [.int r1]) C hg M2 yk_X5_wipe (tm_26 (List.mem_of_getElem? (i := 18) rfl)) rfl rfl rfl ⟨Nat.le_of_ble_eq_true rfl, Nat.le_of_ble_eq_true rfl⟩ ⟨Nat.le_of_ble_eq_true rfl, Nat.le_of_ble_eq_true rfl⟩ rfl (Nat.le_of_ble_eq_true rfl) rfl dL_law_687 (fun r2 S2 h2 => ?_)
  obtain ⟨e1, j2⟩ := K2 r2 S2 h2
  exact vl_icmp_eq (tgt := 807) C dL_law_690 (by decide) (fun _ => kk S2 j2) (fun q => absurd e1 q)
set_option maxRecDepth 100000 in
theorem la_leaks (B : la_B p s m args meth c g b LL xs) (hi : i + 2 < LL) (j : ivz S) (kk : ∀ S2, ivz S2 → vl_V p l e room_1 s m args below meth c Q g 4 807 (la_L g b i) [] S2) : vl_V p l e room_1 s m args below meth c Q g 4 695 (la_L g b i) [] S := by
  obtain ⟨C, hg, -⟩ := id B
  obtain ⟨P1, M1, K1⟩ := pr_leaks l g j
  refine vl_aload_n C dL_law_695 rfl 2 rfl ?_
  refine vl_cV_i (As := []) (rest := []) C hg M1 yk_X4_leaks (tm_26 (List.mem_of_getElem? (i := 22) rfl)) rfl rfl rfl ⟨Nat.le_of_ble_eq_true rfl, Nat.le_of_ble_eq_true rfl⟩ ⟨Nat.le_of_ble_eq_true rfl, Nat.le_of_ble_eq_true rfl⟩ rfl (Nat.le_of_ble_eq_true rfl) rfl dL_law_696 (fun r1 S1 h1 => ?_)
  obtain ⟨P2, M2, K2⟩ := K1 r1 S1 h1
  refine vl_aload_n C dL_law_699 rfl 1 rfl ?_
  refine vl_cV_i (As := []) (rest := [.int r1]) C hg M2 yk_X5_leaks (tm_27 (List.mem_of_getElem? (i := 9) rfl)) rfl rfl rfl ⟨Nat.le_of_ble_eq_true rfl, Nat.le_of_ble_eq_true rfl⟩ ⟨Nat.le_of_ble_eq_true rfl, Nat.le_of_ble_eq_true rfl⟩ rfl (Nat.le_of_ble_eq_true rfl) rfl dL_law_700 (fun r2 S2 h2 => ?_)
  obtain ⟨e1, j2⟩ := K2 r2 S2 h2
  exact vl_icmp_eq (tgt := 807) C dL_law_703 (by decide) (fun _ => kk S2 j2) (fun q => absurd e1 q)
set_option maxRecDepth 100000 in
theorem la_leak (B : la_B p s m args meth c g b LL xs) (hi : i + 2 < LL) (j : ivz S) (kk : ∀ S2, ivz S2 → vl_V p l e room_1 s m args below meth c Q g 4 807 (la_L g b i) [] S2) : vl_V p l e room_1 s m args below meth c Q g 4 708 (la_L g b i) [] S := by
  obtain ⟨C, hg, -⟩ := id B
  obtain ⟨P1, M1, K1⟩ := pr_leak l g j (xs (i + 1))
  refine vl_aload_n C dL_law_708 rfl 2 rfl ?_
  refine la_arg B (k := 1) (by omega) (by decide) dL_law_709 dL_law_710 dL_law_711 dL_law_712 dL_law_713 ?_
  refine vl_cV_i (As := [.int (xs (i + 1))]) (rest := []) C hg M1 yk_X4_leak (tm_28 (List.mem_of_getElem? (i := 1) rfl)) rfl rfl rfl ⟨Nat.le_of_ble_eq_true rfl, Nat.le_of_ble_eq_true rfl⟩ ⟨Nat.le_of_ble_eq_true rfl, Nat.le_of_ble_eq_true rfl⟩ rfl (Nat.le_of_ble_eq_true rfl) rfl dL_law_714 (fun r1 S1 h1 => ?_)
  obtain ⟨P2, M2, K2⟩ := K1 r1 S1 h1
  refine vl_aload_n C dL_law_717 rfl 1 rfl ?_
  refine la_arg B (k := 1) (by omega) (by decide) dL_law_718 dL_law_719 dL_law_720 dL_law_721 dL_law_722 ?_
  refine vl_cV_i (As := [.int (xs (i + 1))]) (rest := [.int r1]) C hg M2 yk_X5_leak (tm_28 (List.mem_of_getElem? (i := 5) rfl)) rfl rfl rfl ⟨Nat.le_of_ble_eq_true rfl, Nat.le_of_ble_eq_true rfl⟩ ⟨Nat.le_of_ble_eq_true rfl, Nat.le_of_ble_eq_true rfl⟩ rfl (Nat.le_of_ble_eq_true rfl) rfl dL_law_723 (fun r2 S2 h2 => ?_)
  obtain ⟨e1, j2⟩ := K2 r2 S2 h2
  exact vl_icmp_eq (tgt := 807) C dL_law_726 (by decide) (fun _ => kk S2 j2) (fun q => absurd e1 q)
set_option maxRecDepth 100000 in
theorem la_look (B : la_B p s m args meth c g b LL xs) (hi : i + 2 < LL) (j : ivz S) (kk : ∀ S2, ivz S2 → vl_V p l e room_1 s m args below meth c Q g 4 807 (la_L g b i) [] S2) : vl_V p l e room_1 s m args below meth c Q g 4 731 (la_L g b i) [] S := by
  obtain ⟨C, hg, -⟩ := id B
  obtain ⟨P1, M1, K1⟩ := pr_look l g j
  refine vl_aload_n C dL_law_731 rfl 2 rfl ?_
  refine vl_cV_i (As := []) (rest := []) C hg M1 yk_X4_look (tm_28 (List.mem_of_getElem? (i := 9) rfl)) rfl rfl rfl ⟨Nat.le_of_ble_eq_true rfl, Nat.le_of_ble_eq_true rfl⟩ ⟨Nat.le_of_ble_eq_true rfl, Nat.le_of_ble_eq_true rfl⟩ rfl (Nat.le_of_ble_eq_true rfl) rfl dL_law_732 (fun r1 S1 h1 => ?_)
  obtain ⟨P2, M2, K2⟩ := K1 r1 S1 h1
  refine vl_aload_n C dL_law_735 rfl 1 rfl ?_
  refine vl_cV_i (As := []) (rest := [.int r1]) C hg M2 yk_X5_look (tm_28 (List.mem_of_getElem? (i := 15) rfl)) rfl rfl rfl ⟨Nat.le_of_ble_eq_true rfl, Nat.le_of_ble_eq_true rfl⟩ ⟨Nat.le_of_ble_eq_true rfl, Nat.le_of_ble_eq_true rfl⟩ rfl (Nat.le_of_ble_eq_true rfl) rfl dL_law_736 (fun r2 S2 h2 => ?_)
  obtain ⟨e1, j2⟩ := K2 r2 S2 h2
  exact vl_icmp_eq (tgt := 807) C dL_law_739 (by decide) (fun _ => kk S2 j2) (fun q => absurd e1 q)
set_option maxRecDepth 100000 in
theorem la_image (B : la_B p s m args meth c g b LL xs) (hi : i + 2 < LL) (j : ivz S) (kk : ∀ S2, ivz S2 → vl_V p l e room_1 s m args below meth c Q g 4 807 (la_L g b i) [] S2) : vl_V p l e room_1 s m args below meth c Q g 4 744 (la_L g b i) [] S := by
  obtain ⟨C, hg, -⟩ := id B
  obtain ⟨P1, M1, K1⟩ := pr_image l g j
  refine vl_aload_n C dL_law_744 rfl 2 rfl ?_
  refine vl_cV_i (As := []) (rest := []) C hg M1 yk_X4_image (tm_28 (List.mem_of_getElem? (i := 23) rfl)) rfl rfl rfl ⟨Nat.le_of_ble_eq_true rfl, Nat.le_of_ble_eq_true rfl⟩ ⟨Nat.le_of_ble_eq_true rfl, Nat.le_of_ble_eq_true rfl⟩ rfl (Nat.le_of_ble_eq_true rfl) rfl dL_law_745 (fun r1 S1 h1 => ?_)
  obtain ⟨P2, M2, K2⟩ := K1 r1 S1 h1
  refine vl_aload_n C dL_law_748 rfl 1 rfl ?_
  refine vl_cV_i (As := []) (rest := [.int r1]) C hg M2 yk_X5_image (tm_29 (List.mem_of_getElem? (i := 9) rfl)) rfl rfl rfl ⟨Nat.le_of_ble_eq_true rfl, Nat.le_of_ble_eq_true rfl⟩ ⟨Nat.le_of_ble_eq_true rfl, Nat.le_of_ble_eq_true rfl⟩ rfl (Nat.le_of_ble_eq_true rfl) rfl dL_law_749 (fun r2 S2 h2 => ?_)
  obtain ⟨e1, j2⟩ := K2 r2 S2 h2
  exact vl_icmp_eq (tgt := 807) C dL_law_752 (by decide) (fun _ => kk S2 j2) (fun q => absurd e1 q)
set_option maxRecDepth 100000 in
theorem la_restore (B : la_B p s m args meth c g b LL xs) (hi : i + 2 < LL) (j : ivz S) (kk : ∀ S2, ivz S2 → vl_V p l e room_1 s m args below meth c Q g 4 807 (la_L g b i) [] S2) : vl_V p l e room_1 s m args below meth c Q g 4 757 (la_L g b i) [] S := by
  obtain ⟨C, hg, -⟩ := id B
  obtain ⟨P1, M1, K1⟩ := pr_restore l g j
  refine vl_aload_n C dL_law_757 rfl 2 rfl ?_
  refine vl_cV_i (As := []) (rest := []) C hg M1 yk_X4_restore (tm_30 (List.mem_of_getElem? (i := 0) rfl)) rfl rfl rfl ⟨Nat.le_of_ble_eq_true rfl, Nat.le_of_ble_eq_true rfl⟩ ⟨Nat.le_of_ble_eq_true rfl, Nat.le_of_ble_eq_true rfl⟩ rfl (Nat.le_of_ble_eq_true rfl) rfl dL_law_758 (fun r1 S1 h1 => ?_)
  obtain ⟨P2, M2, K2⟩ := K1 r1 S1 h1
  refine vl_aload_n C dL_law_761 rfl 1 rfl ?_
  refine vl_cV_i (As := []) (rest := [.int r1]) C hg M2 yk_X5_restore (tm_30 (List.mem_of_getElem? (i := 4) rfl)) rfl rfl rfl ⟨Nat.le_of_ble_eq_true rfl, Nat.le_of_ble_eq_true rfl⟩ ⟨Nat.le_of_ble_eq_true rfl, Nat.le_of_ble_eq_true rfl⟩ rfl (Nat.le_of_ble_eq_true rfl) rfl dL_law_762 (fun r2 S2 h2 => ?_)
  obtain ⟨e1, j2⟩ := K2 r2 S2 h2
  exact vl_icmp_eq (tgt := 807) C dL_law_765 (by decide) (fun _ => kk S2 j2) (fun q => absurd e1 q)
set_option maxRecDepth 100000 in
theorem la_count (B : la_B p s m args meth c g b LL xs) (hi : i + 2 < LL) (j : ivz S) (kk : ∀ S2, ivz S2 → vl_V p l e room_1 s m args below meth c Q g 4 807 (la_L g b i) [] S2) : vl_V p l e room_1 s m args below meth c Q g 4 770 (la_L g b i) [] S := by
  obtain ⟨C, hg, -⟩ := id B
  obtain ⟨P1, M1, K1⟩ := pr_count l g j (xs (i + 1))
  refine vl_aload_n C dL_law_770 rfl 2 rfl ?_
  refine la_arg B (k := 1) (by omega) (by decide) dL_law_771 dL_law_772 dL_law_773 dL_law_774 dL_law_775 ?_
  refine vl_cV_i (As := [.int (xs (i + 1))]) (rest := []) C hg M1 yk_X4_count (tm_30 (List.mem_of_getElem? (i := 8) rfl)) rfl rfl rfl ⟨Nat.le_of_ble_eq_true rfl, Nat.le_of_ble_eq_true rfl⟩ ⟨Nat.le_of_ble_eq_true rfl, Nat.le_of_ble_eq_true rfl⟩ rfl (Nat.le_of_ble_eq_true rfl) rfl dL_law_776 (fun r1 S1 h1 => ?_)
  obtain ⟨P2, M2, K2⟩ := K1 r1 S1 h1
  refine vl_aload_n C dL_law_779 rfl 1 rfl ?_
  refine la_arg B (k := 1) (by omega) (by decide) dL_law_780 dL_law_781 dL_law_782 dL_law_783 dL_law_784 ?_
  refine vl_cV_i (As := [.int (xs (i + 1))]) (rest := [.int r1]) C hg M2 yk_X5_count (tm_30 (List.mem_of_getElem? (i := 12) rfl)) rfl rfl rfl ⟨Nat.le_of_ble_eq_true rfl, Nat.le_of_ble_eq_true rfl⟩ ⟨Nat.le_of_ble_eq_true rfl, Nat.le_of_ble_eq_true rfl⟩ rfl (Nat.le_of_ble_eq_true rfl) rfl dL_law_785 (fun r2 S2 h2 => ?_)
  obtain ⟨e1, j2⟩ := K2 r2 S2 h2
  exact vl_icmp_eq (tgt := 807) C dL_law_788 (by decide) (fun _ => kk S2 j2) (fun q => absurd e1 q)
set_option maxRecDepth 100000 in
theorem la_digest (B : la_B p s m args meth c g b LL xs) (hi : i + 2 < LL) (j : ivz S) (kk : ∀ S2, ivz S2 → vl_V p l e room_1 s m args below meth c Q g 4 807 (la_L g b i) [] S2) : vl_V p l e room_1 s m args below meth c Q g 4 793 (la_L g b i) [] S := by
  obtain ⟨C, hg, -⟩ := id B
  obtain ⟨P1, M1, K1⟩ := pr_digest l g j
  refine vl_aload_n C dL_law_793 rfl 2 rfl ?_
  refine vl_cV_l (As := []) (rest := []) C hg M1 yk_X4_digest (tm_30 (List.mem_of_getElem? (i := 20) rfl)) rfl rfl rfl ⟨Nat.le_of_ble_eq_true rfl, Nat.le_of_ble_eq_true rfl⟩ ⟨Nat.le_of_ble_eq_true rfl, Nat.le_of_ble_eq_true rfl⟩ rfl (Nat.le_of_ble_eq_true rfl) rfl dL_law_794 (fun r1 S1 h1 => ?_)
  obtain ⟨P2, M2, K2⟩ := K1 r1 S1 h1
  refine vl_aload_n C dL_law_797 rfl 1 rfl ?_
  refine vl_cV_l (As := []) (rest := [.long r1]) C hg M2 yk_X5_digest (tm_31 (List.mem_of_getElem? (i := 15) rfl)) rfl rfl rfl ⟨Nat.le_of_ble_eq_true rfl, Nat.le_of_ble_eq_true rfl⟩ ⟨Nat.le_of_ble_eq_true rfl, Nat.le_of_ble_eq_true rfl⟩ rfl (Nat.le_of_ble_eq_true rfl) rfl dL_law_798 (fun r2 S2 h2 => ?_)
  obtain ⟨e1, j2⟩ := K2 r2 S2 h2
  refine vl_lcmp C dL_law_801 ?_
  exact vl_if_eq (tgt := 807) C dL_law_802 (by decide) (fun _ => kk S2 j2) (fun q => absurd ((lg_cmp_eq r1 r2).mpr e1) q)
end LA
