/-! THE LAW'S CASES (by program: wip/tools/mklaw.py) -/
abbrev lw_L (s : State) (n b i : Nat) : List (Nat × Value) := [(4, .int (nI i)), (3, .ref (lw_oa s n)), (2, .ref (lw_m0 s n)), (1, .ref s.heap.size), (0, .ref b)]
section LWC
variable {p : Program} {l : Launch} {e : Env} {s : State} {m : MethodId} {below : List Frame} {meth : Method} {c : Code} {b L n : Nat} {xs : Nat → Int32} {D : va_G} {K : Nat → ClassId} {KL : ClassId} {sa : Nat → Nat}
variable {σ ρ : vv_S} {w : Int64} {cells slots i : Nat}
theorem lw_c_members (C : lw_C p l s m meth c b L xs n D K KL sa) (hcs : cells ≤ room_1.cells ∧ slots ≤ room_1.slots) (hi : i + 5 ≤ L) (h : pr_Rel n σ ρ) (next : ∀ σ ρ w, pr_Rel n σ ρ → lw_V p l e s m below meth c b n D K KL σ ρ w 754 (lw_L s n b i) [] cells slots) : lw_V p l e s m below meth c b n D K KL σ ρ w 140 (lw_L s n b i) [] cells slots := by
  have hn3 := C.2.2.2.1.1
  have hn6 := C.2.2.2.1.2
  have hYc : pc_sys (lw_yc s n D K) n := pc_Y_sys hn3 hn6 (by omega)
  have hYm : pm_sys (lw_ym s n D K) n := pm_Y_sys hn3 hn6 (by omega)
  refine lw_aload C dL_law_140 rfl 3 rfl rfl ?_
  refine lw_callC (na := 0) (As := []) (st := []) (q := 144) C (cm_X3_members _ _ n hYc σ) gL_law_X3_members rfl (by decide +kernel) dL_law_141 rfl rfl hcs rfl ?_
  refine lw_aload C dL_law_144 rfl 2 rfl rfl ?_
  refine lw_callM (na := 0) (As := []) (st := [.int (nI n)]) (q := 148) C (cm_X4_members _ _ n hYm ρ) gL_law_X4_members rfl (by decide +kernel) dL_law_145 rfl rfl hcs rfl ?_
  exact lw_icmpeq C dL_law_148 (tgt := 754) rfl rfl (next _ _ _ h)
theorem lw_c_place (C : lw_C p l s m meth c b L xs n D K KL sa) (hcs : cells ≤ room_1.cells ∧ slots ≤ room_1.slots) (hi : i + 5 ≤ L) (h : pr_Rel n σ ρ) (next : ∀ σ ρ w, pr_Rel n σ ρ → lw_V p l e s m below meth c b n D K KL σ ρ w 754 (lw_L s n b i) [] cells slots) : lw_V p l e s m below meth c b n D K KL σ ρ w 153 (lw_L s n b i) [] cells slots := by
  have hn3 := C.2.2.2.1.1
  have hn6 := C.2.2.2.1.2
  have hYc : pc_sys (lw_yc s n D K) n := pc_Y_sys hn3 hn6 (by omega)
  have hYm : pm_sys (lw_ym s n D K) n := pm_Y_sys hn3 hn6 (by omega)
  refine lw_aload C dL_law_153 rfl 3 rfl rfl ?_
  refine lw_arg C i 1 4 0 rfl rfl (by omega) (by decide) dL_law_154 dL_law_155 dL_law_157 dL_law_158 dL_law_159 rfl ?_
  refine lw_arg C i 2 4 0 rfl rfl (by omega) (by decide) dL_law_160 dL_law_161 dL_law_163 dL_law_164 dL_law_165 rfl ?_
  refine lw_callC (na := 2) (As := [.int (xs (i + 1)), .int (xs (i + 2))]) (st := []) (q := 169) C (cm_X3_place _ _ n hYc σ (xs (i + 1)) (xs (i + 2))) gL_law_X3_place rfl (by decide +kernel) dL_law_166 rfl rfl hcs rfl ?_
  refine lw_aload C dL_law_169 rfl 2 rfl rfl ?_
  refine lw_arg C i 1 4 0 rfl rfl (by omega) (by decide) dL_law_170 dL_law_171 dL_law_173 dL_law_174 dL_law_175 rfl ?_
  refine lw_arg C i 2 4 0 rfl rfl (by omega) (by decide) dL_law_176 dL_law_177 dL_law_179 dL_law_180 dL_law_181 rfl ?_
  refine lw_callM (na := 2) (As := [.int (xs (i + 1)), .int (xs (i + 2))]) (st := [.int (pc_place n (xs (i + 1)) (xs (i + 2)))]) (q := 185) C (cm_X4_place _ _ n hYm ρ (xs (i + 1)) (xs (i + 2))) gL_law_X4_place rfl (by decide +kernel) dL_law_182 rfl rfl hcs rfl ?_
  exact lw_icmpeq C dL_law_185 (tgt := 754) rfl rfl (next _ _ _ h)
theorem lw_c_write (C : lw_C p l s m meth c b L xs n D K KL sa) (hcs : cells ≤ room_1.cells ∧ slots ≤ room_1.slots) (hi : i + 5 ≤ L) (h : pr_Rel n σ ρ) (next : ∀ σ ρ w, pr_Rel n σ ρ → lw_V p l e s m below meth c b n D K KL σ ρ w 754 (lw_L s n b i) [] cells slots) : lw_V p l e s m below meth c b n D K KL σ ρ w 190 (lw_L s n b i) [] cells slots := by
  have hn3 := C.2.2.2.1.1
  have hn6 := C.2.2.2.1.2
  have hYc : pc_sys (lw_yc s n D K) n := pc_Y_sys hn3 hn6 (by omega)
  have hYm : pm_sys (lw_ym s n D K) n := pm_Y_sys hn3 hn6 (by omega)
  have A := pr_write h hn3 hn6 (b := (xs (i + 1))) (c := (xs (i + 2))) (v := (xs (i + 3)))
  refine lw_aload C dL_law_190 rfl 3 rfl rfl ?_
  refine lw_arg C i 1 4 0 rfl rfl (by omega) (by decide) dL_law_191 dL_law_192 dL_law_194 dL_law_195 dL_law_196 rfl ?_
  refine lw_arg C i 2 4 0 rfl rfl (by omega) (by decide) dL_law_197 dL_law_198 dL_law_200 dL_law_201 dL_law_202 rfl ?_
  refine lw_arg C i 3 4 0 rfl rfl (by omega) (by decide) dL_law_203 dL_law_204 dL_law_206 dL_law_207 dL_law_208 rfl ?_
  refine lw_callC (na := 3) (As := [.int (xs (i + 1)), .int (xs (i + 2)), .int (xs (i + 3))]) (st := []) (q := 212) C (cm_X3_write _ _ n hYc σ (xs (i + 1)) (xs (i + 2)) (xs (i + 3)) h.I) gL_law_X3_write rfl (by decide +kernel) dL_law_209 rfl rfl hcs rfl ?_
  refine lw_aload C dL_law_212 rfl 2 rfl rfl ?_
  refine lw_arg C i 1 4 0 rfl rfl (by omega) (by decide) dL_law_213 dL_law_214 dL_law_216 dL_law_217 dL_law_218 rfl ?_
  refine lw_arg C i 2 4 0 rfl rfl (by omega) (by decide) dL_law_219 dL_law_220 dL_law_222 dL_law_223 dL_law_224 rfl ?_
  refine lw_arg C i 3 4 0 rfl rfl (by omega) (by decide) dL_law_225 dL_law_226 dL_law_228 dL_law_229 dL_law_230 rfl ?_
  refine lw_callM (na := 3) (As := [.int (xs (i + 1)), .int (xs (i + 2)), .int (xs (i + 3))]) (st := [.int ((pc_write σ n (xs (i + 1)) (xs (i + 2)) (xs (i + 3))).1)]) (q := 234) C (cm_X4_write _ _ n hYm ρ (xs (i + 1)) (xs (i + 2)) (xs (i + 3)) (pr_wk h hn3 hn6)) gL_law_X4_write rfl (by decide +kernel) dL_law_231 rfl rfl hcs rfl ?_
  exact lw_icmpeq C dL_law_234 (tgt := 754) rfl A.1 (next _ _ _ A.2)
theorem lw_c_look (C : lw_C p l s m meth c b L xs n D K KL sa) (hcs : cells ≤ room_1.cells ∧ slots ≤ room_1.slots) (hi : i + 5 ≤ L) (h : pr_Rel n σ ρ) (next : ∀ σ ρ w, pr_Rel n σ ρ → lw_V p l e s m below meth c b n D K KL σ ρ w 754 (lw_L s n b i) [] cells slots) : lw_V p l e s m below meth c b n D K KL σ ρ w 239 (lw_L s n b i) [] cells slots := by
  have hn3 := C.2.2.2.1.1
  have hn6 := C.2.2.2.1.2
  have hYc : pc_sys (lw_yc s n D K) n := pc_Y_sys hn3 hn6 (by omega)
  have hYm : pm_sys (lw_ym s n D K) n := pm_Y_sys hn3 hn6 (by omega)
  have A := pr_look h hn3 hn6 (b := (xs (i + 1)))
  refine lw_aload C dL_law_239 rfl 3 rfl rfl ?_
  refine lw_arg C i 1 4 0 rfl rfl (by omega) (by decide) dL_law_240 dL_law_241 dL_law_243 dL_law_244 dL_law_245 rfl ?_
  refine lw_callC (na := 1) (As := [.int (xs (i + 1))]) (st := []) (q := 249) C (cm_X3_look _ _ n hYc σ (xs (i + 1)) h.I.1) gL_law_X3_look rfl (by decide +kernel) dL_law_246 rfl rfl hcs rfl ?_
  refine lw_aload C dL_law_249 rfl 2 rfl rfl ?_
  refine lw_arg C i 1 4 0 rfl rfl (by omega) (by decide) dL_law_250 dL_law_251 dL_law_253 dL_law_254 dL_law_255 rfl ?_
  refine lw_callM (na := 1) (As := [.int (xs (i + 1))]) (st := [.int (pc_look σ n (xs (i + 1)))]) (q := 259) C (cm_X4_look _ _ n hYm ρ (pm_r ρ) (xs (i + 1)) (pr_hr h).1 (pr_hr h).2) gL_law_X4_look rfl (by decide +kernel) dL_law_256 rfl rfl hcs rfl ?_
  exact lw_icmpeq C dL_law_259 (tgt := 754) rfl A.symm (next _ _ _ h)
theorem lw_c_drain (C : lw_C p l s m meth c b L xs n D K KL sa) (hcs : cells ≤ room_1.cells ∧ slots ≤ room_1.slots) (hi : i + 5 ≤ L) (h : pr_Rel n σ ρ) (next : ∀ σ ρ w, pr_Rel n σ ρ → lw_V p l e s m below meth c b n D K KL σ ρ w 754 (lw_L s n b i) [] cells slots) : lw_V p l e s m below meth c b n D K KL σ ρ w 332 (lw_L s n b i) [] cells slots := by
  have hn3 := C.2.2.2.1.1
  have hn6 := C.2.2.2.1.2
  have hYc : pc_sys (lw_yc s n D K) n := pc_Y_sys hn3 hn6 (by omega)
  have hYm : pm_sys (lw_ym s n D K) n := pm_Y_sys hn3 hn6 (by omega)
  have A := pr_drain h hn3 hn6 (x := (xs (i + 1)))
  refine lw_aload C dL_law_332 rfl 3 rfl rfl ?_
  refine lw_arg C i 1 4 0 rfl rfl (by omega) (by decide) dL_law_333 dL_law_334 dL_law_336 dL_law_337 dL_law_338 rfl ?_
  refine lw_callC (na := 1) (As := [.int (xs (i + 1))]) (st := []) (q := 342) C (cm_X3_drain _ _ n hYc σ (xs (i + 1)) h.I.1) gL_law_X3_drain rfl (by decide +kernel) dL_law_339 rfl rfl hcs rfl ?_
  refine lw_aload C dL_law_342 rfl 2 rfl rfl ?_
  refine lw_arg C i 1 4 0 rfl rfl (by omega) (by decide) dL_law_343 dL_law_344 dL_law_346 dL_law_347 dL_law_348 rfl ?_
  refine lw_callM (na := 1) (As := [.int (xs (i + 1))]) (st := [.int ((pc_drain σ n (xs (i + 1))).1)]) (q := 352) C (cm_X4_drain _ _ n hYm ρ (xs (i + 1)) h.J) gL_law_X4_drain rfl (by decide +kernel) dL_law_349 rfl rfl hcs rfl ?_
  exact lw_icmpeq C dL_law_352 (tgt := 754) rfl A.1 (next _ _ _ A.2)
theorem lw_c_lose (C : lw_C p l s m meth c b L xs n D K KL sa) (hcs : cells ≤ room_1.cells ∧ slots ≤ room_1.slots) (hi : i + 5 ≤ L) (h : pr_Rel n σ ρ) (next : ∀ σ ρ w, pr_Rel n σ ρ → lw_V p l e s m below meth c b n D K KL σ ρ w 754 (lw_L s n b i) [] cells slots) : lw_V p l e s m below meth c b n D K KL σ ρ w 357 (lw_L s n b i) [] cells slots := by
  have hn3 := C.2.2.2.1.1
  have hn6 := C.2.2.2.1.2
  have hYc : pc_sys (lw_yc s n D K) n := pc_Y_sys hn3 hn6 (by omega)
  have hYm : pm_sys (lw_ym s n D K) n := pm_Y_sys hn3 hn6 (by omega)
  have A := pr_lose h hn3 hn6 (x := (xs (i + 1)))
  refine lw_aload C dL_law_357 rfl 3 rfl rfl ?_
  refine lw_arg C i 1 4 0 rfl rfl (by omega) (by decide) dL_law_358 dL_law_359 dL_law_361 dL_law_362 dL_law_363 rfl ?_
  refine lw_callC (na := 1) (As := [.int (xs (i + 1))]) (st := []) (q := 367) C (cm_X3_lose _ _ n hYc σ (xs (i + 1))) gL_law_X3_lose rfl (by decide +kernel) dL_law_364 rfl rfl hcs rfl ?_
  refine lw_aload C dL_law_367 rfl 2 rfl rfl ?_
  refine lw_arg C i 1 4 0 rfl rfl (by omega) (by decide) dL_law_368 dL_law_369 dL_law_371 dL_law_372 dL_law_373 rfl ?_
  refine lw_callM (na := 1) (As := [.int (xs (i + 1))]) (st := [.int ((pc_lose σ n (xs (i + 1))).1)]) (q := 377) C (cm_X4_lose _ _ n hYm ρ (xs (i + 1))) gL_law_X4_lose rfl (by decide +kernel) dL_law_374 rfl rfl hcs rfl ?_
  exact lw_icmpeq C dL_law_377 (tgt := 754) rfl A.1 (next _ _ _ A.2)
theorem lw_c_spare (C : lw_C p l s m meth c b L xs n D K KL sa) (hcs : cells ≤ room_1.cells ∧ slots ≤ room_1.slots) (hi : i + 5 ≤ L) (h : pr_Rel n σ ρ) (next : ∀ σ ρ w, pr_Rel n σ ρ → lw_V p l e s m below meth c b n D K KL σ ρ w 754 (lw_L s n b i) [] cells slots) : lw_V p l e s m below meth c b n D K KL σ ρ w 382 (lw_L s n b i) [] cells slots := by
  have hn3 := C.2.2.2.1.1
  have hn6 := C.2.2.2.1.2
  have hYc : pc_sys (lw_yc s n D K) n := pc_Y_sys hn3 hn6 (by omega)
  have hYm : pm_sys (lw_ym s n D K) n := pm_Y_sys hn3 hn6 (by omega)
  have A := pr_spare h hn3 hn6
  refine lw_aload C dL_law_382 rfl 3 rfl rfl ?_
  refine lw_callC (na := 0) (As := []) (st := []) (q := 386) C (cm_X3_spare _ _ n hYc σ) gL_law_X3_spare rfl (by decide +kernel) dL_law_383 rfl rfl hcs rfl ?_
  refine lw_aload C dL_law_386 rfl 2 rfl rfl ?_
  refine lw_callM (na := 0) (As := []) (st := [.int ((pc_spare σ n).1)]) (q := 390) C (cm_X4_spare _ _ n hYm ρ) gL_law_X4_spare rfl (by decide +kernel) dL_law_387 rfl rfl hcs rfl ?_
  exact lw_icmpeq C dL_law_390 (tgt := 754) rfl A.1 (next _ _ _ A.2)
theorem lw_c_build (C : lw_C p l s m meth c b L xs n D K KL sa) (hcs : cells ≤ room_1.cells ∧ slots ≤ room_1.slots) (hi : i + 5 ≤ L) (h : pr_Rel n σ ρ) (next : ∀ σ ρ w, pr_Rel n σ ρ → lw_V p l e s m below meth c b n D K KL σ ρ w 754 (lw_L s n b i) [] cells slots) : lw_V p l e s m below meth c b n D K KL σ ρ w 395 (lw_L s n b i) [] cells slots := by
  have hn3 := C.2.2.2.1.1
  have hn6 := C.2.2.2.1.2
  have hYc : pc_sys (lw_yc s n D K) n := pc_Y_sys hn3 hn6 (by omega)
  have hYm : pm_sys (lw_ym s n D K) n := pm_Y_sys hn3 hn6 (by omega)
  have A := pr_build h hn3 hn6 (x := (xs (i + 1)))
  refine lw_aload C dL_law_395 rfl 3 rfl rfl ?_
  refine lw_arg C i 1 4 0 rfl rfl (by omega) (by decide) dL_law_396 dL_law_397 dL_law_399 dL_law_400 dL_law_401 rfl ?_
  refine lw_callC (na := 1) (As := [.int (xs (i + 1))]) (st := []) (q := 405) C (cm_X3_build _ _ n hYc σ (xs (i + 1)) h.I.1 (fun m hm => pr_hB h hm)) gL_law_X3_build rfl (by decide +kernel) dL_law_402 rfl rfl hcs rfl ?_
  refine lw_aload C dL_law_405 rfl 2 rfl rfl ?_
  refine lw_arg C i 1 4 0 rfl rfl (by omega) (by decide) dL_law_406 dL_law_407 dL_law_409 dL_law_410 dL_law_411 rfl ?_
  refine lw_callM (na := 1) (As := [.int (xs (i + 1))]) (st := [.int ((pc_build σ n (xs (i + 1))).1)]) (q := 415) C (cm_X4_build _ _ n hYm ρ (xs (i + 1)) (pr_bok h hn3 hn6)) gL_law_X4_build rfl (by decide +kernel) dL_law_412 rfl rfl hcs rfl ?_
  exact lw_icmpeq C dL_law_415 (tgt := 754) rfl A.1 (next _ _ _ A.2)
theorem lw_c_scrub (C : lw_C p l s m meth c b L xs n D K KL sa) (hcs : cells ≤ room_1.cells ∧ slots ≤ room_1.slots) (hi : i + 5 ≤ L) (h : pr_Rel n σ ρ) (next : ∀ σ ρ w, pr_Rel n σ ρ → lw_V p l e s m below meth c b n D K KL σ ρ w 754 (lw_L s n b i) [] cells slots) : lw_V p l e s m below meth c b n D K KL σ ρ w 420 (lw_L s n b i) [] cells slots := by
  have hn3 := C.2.2.2.1.1
  have hn6 := C.2.2.2.1.2
  have hYc : pc_sys (lw_yc s n D K) n := pc_Y_sys hn3 hn6 (by omega)
  have hYm : pm_sys (lw_ym s n D K) n := pm_Y_sys hn3 hn6 (by omega)
  have A := pr_scrub h hn3 hn6 (x := (xs (i + 1)))
  refine lw_aload C dL_law_420 rfl 3 rfl rfl ?_
  refine lw_arg C i 1 4 0 rfl rfl (by omega) (by decide) dL_law_421 dL_law_422 dL_law_424 dL_law_425 dL_law_426 rfl ?_
  refine lw_callC (na := 1) (As := [.int (xs (i + 1))]) (st := []) (q := 430) C (cm_X3_scrub _ _ n hYc σ (xs (i + 1)) (pr_z h).1) gL_law_X3_scrub rfl (by decide +kernel) dL_law_427 rfl rfl hcs rfl ?_
  refine lw_aload C dL_law_430 rfl 2 rfl rfl ?_
  refine lw_arg C i 1 4 0 rfl rfl (by omega) (by decide) dL_law_431 dL_law_432 dL_law_434 dL_law_435 dL_law_436 rfl ?_
  refine lw_callM (na := 1) (As := [.int (xs (i + 1))]) (st := [.int ((pc_scrub σ n (xs (i + 1))).1)]) (q := 440) C (cm_X4_scrub _ _ n hYm ρ (xs (i + 1)) h.J (pr_z h).2) gL_law_X4_scrub rfl (by decide +kernel) dL_law_437 rfl rfl hcs rfl ?_
  exact lw_icmpeq C dL_law_440 (tgt := 754) rfl A.1 (next _ _ _ A.2)
theorem lw_c_rot (C : lw_C p l s m meth c b L xs n D K KL sa) (hcs : cells ≤ room_1.cells ∧ slots ≤ room_1.slots) (hi : i + 5 ≤ L) (h : pr_Rel n σ ρ) (next : ∀ σ ρ w, pr_Rel n σ ρ → lw_V p l e s m below meth c b n D K KL σ ρ w 754 (lw_L s n b i) [] cells slots) : lw_V p l e s m below meth c b n D K KL σ ρ w 445 (lw_L s n b i) [] cells slots := by
  have hn3 := C.2.2.2.1.1
  have hn6 := C.2.2.2.1.2
  have hYc : pc_sys (lw_yc s n D K) n := pc_Y_sys hn3 hn6 (by omega)
  have hYm : pm_sys (lw_ym s n D K) n := pm_Y_sys hn3 hn6 (by omega)
  have A := pr_rot h hn3 hn6 (a := (xs (i + 1))) (s := (xs (i + 2))) (i := (xs (i + 3))) (x := (xs (i + 4)))
  refine lw_aload C dL_law_445 rfl 3 rfl rfl ?_
  refine lw_arg C i 1 4 0 rfl rfl (by omega) (by decide) dL_law_446 dL_law_447 dL_law_449 dL_law_450 dL_law_451 rfl ?_
  refine lw_arg C i 2 4 0 rfl rfl (by omega) (by decide) dL_law_452 dL_law_453 dL_law_455 dL_law_456 dL_law_457 rfl ?_
  refine lw_arg C i 3 4 0 rfl rfl (by omega) (by decide) dL_law_458 dL_law_459 dL_law_461 dL_law_462 dL_law_463 rfl ?_
  refine lw_arg C i 4 4 0 rfl rfl (by omega) (by decide) dL_law_464 dL_law_465 dL_law_467 dL_law_468 dL_law_469 rfl ?_
  refine lw_callC (na := 4) (As := [.int (xs (i + 1)), .int (xs (i + 2)), .int (xs (i + 3)), .int (xs (i + 4))]) (st := []) (q := 473) C (cm_X3_rot _ _ n hYc σ (xs (i + 1)) (xs (i + 2)) (xs (i + 3)) (xs (i + 4))) gL_law_X3_rot rfl (by decide +kernel) dL_law_470 rfl rfl hcs rfl ?_
  refine lw_aload C dL_law_473 rfl 2 rfl rfl ?_
  refine lw_arg C i 1 4 0 rfl rfl (by omega) (by decide) dL_law_474 dL_law_475 dL_law_477 dL_law_478 dL_law_479 rfl ?_
  refine lw_arg C i 2 4 0 rfl rfl (by omega) (by decide) dL_law_480 dL_law_481 dL_law_483 dL_law_484 dL_law_485 rfl ?_
  refine lw_arg C i 3 4 0 rfl rfl (by omega) (by decide) dL_law_486 dL_law_487 dL_law_489 dL_law_490 dL_law_491 rfl ?_
  refine lw_arg C i 4 4 0 rfl rfl (by omega) (by decide) dL_law_492 dL_law_493 dL_law_495 dL_law_496 dL_law_497 rfl ?_
  refine lw_callM (na := 4) (As := [.int (xs (i + 1)), .int (xs (i + 2)), .int (xs (i + 3)), .int (xs (i + 4))]) (st := [.int ((pc_rot σ n (xs (i + 1)) (xs (i + 2)) (xs (i + 3)) (xs (i + 4))).1)]) (q := 501) C (cm_X4_rot _ _ n hYm ρ (xs (i + 1)) (xs (i + 2)) (xs (i + 3)) (xs (i + 4))) gL_law_X4_rot rfl (by decide +kernel) dL_law_498 rfl rfl hcs rfl ?_
  exact lw_icmpeq C dL_law_501 (tgt := 754) rfl A.1 (next _ _ _ A.2)
theorem lw_c_cut (C : lw_C p l s m meth c b L xs n D K KL sa) (hcs : cells ≤ room_1.cells ∧ slots ≤ room_1.slots) (hi : i + 5 ≤ L) (h : pr_Rel n σ ρ) (next : ∀ σ ρ w, pr_Rel n σ ρ → lw_V p l e s m below meth c b n D K KL σ ρ w 754 (lw_L s n b i) [] cells slots) : lw_V p l e s m below meth c b n D K KL σ ρ w 506 (lw_L s n b i) [] cells slots := by
  have hn3 := C.2.2.2.1.1
  have hn6 := C.2.2.2.1.2
  have hYc : pc_sys (lw_yc s n D K) n := pc_Y_sys hn3 hn6 (by omega)
  have hYm : pm_sys (lw_ym s n D K) n := pm_Y_sys hn3 hn6 (by omega)
  have A := pr_cut h (x := (xs (i + 1))) (t := (xs (i + 2)))
  refine lw_aload C dL_law_506 rfl 3 rfl rfl ?_
  refine lw_arg C i 1 4 0 rfl rfl (by omega) (by decide) dL_law_507 dL_law_508 dL_law_510 dL_law_511 dL_law_512 rfl ?_
  refine lw_arg C i 2 4 0 rfl rfl (by omega) (by decide) dL_law_513 dL_law_514 dL_law_516 dL_law_517 dL_law_518 rfl ?_
  refine lw_callC (na := 2) (As := [.int (xs (i + 1)), .int (xs (i + 2))]) (st := []) (q := 522) C (cm_X3_cut _ _ n hYc σ (xs (i + 1)) (xs (i + 2))) gL_law_X3_cut rfl (by decide +kernel) dL_law_519 rfl rfl hcs rfl ?_
  refine lw_aload C dL_law_522 rfl 2 rfl rfl ?_
  refine lw_arg C i 1 4 0 rfl rfl (by omega) (by decide) dL_law_523 dL_law_524 dL_law_526 dL_law_527 dL_law_528 rfl ?_
  refine lw_arg C i 2 4 0 rfl rfl (by omega) (by decide) dL_law_529 dL_law_530 dL_law_532 dL_law_533 dL_law_534 rfl ?_
  refine lw_callM (na := 2) (As := [.int (xs (i + 1)), .int (xs (i + 2))]) (st := [.int ((pc_cut σ (xs (i + 1)) (xs (i + 2))).1)]) (q := 538) C (cm_X4_cut _ _ n hYm ρ (xs (i + 1)) (xs (i + 2))) gL_law_X4_cut rfl (by decide +kernel) dL_law_535 rfl rfl hcs rfl ?_
  exact lw_icmpeq C dL_law_538 (tgt := 754) rfl A.1 (next _ _ _ A.2)
theorem lw_c_start (C : lw_C p l s m meth c b L xs n D K KL sa) (hcs : cells ≤ room_1.cells ∧ slots ≤ room_1.slots) (hi : i + 5 ≤ L) (h : pr_Rel n σ ρ) (next : ∀ σ ρ w, pr_Rel n σ ρ → lw_V p l e s m below meth c b n D K KL σ ρ w 754 (lw_L s n b i) [] cells slots) : lw_V p l e s m below meth c b n D K KL σ ρ w 543 (lw_L s n b i) [] cells slots := by
  have hn3 := C.2.2.2.1.1
  have hn6 := C.2.2.2.1.2
  have hYc : pc_sys (lw_yc s n D K) n := pc_Y_sys hn3 hn6 (by omega)
  have hYm : pm_sys (lw_ym s n D K) n := pm_Y_sys hn3 hn6 (by omega)
  have A := pr_start h hn3 hn6 (x := (xs (i + 1)))
  refine lw_aload C dL_law_543 rfl 3 rfl rfl ?_
  refine lw_arg C i 1 4 0 rfl rfl (by omega) (by decide) dL_law_544 dL_law_545 dL_law_547 dL_law_548 dL_law_549 rfl ?_
  refine lw_callC (na := 1) (As := [.int (xs (i + 1))]) (st := []) (q := 553) C (cm_X3_start _ _ n hYc σ (xs (i + 1)) h.I.1) gL_law_X3_start rfl (by decide +kernel) dL_law_550 rfl rfl hcs rfl ?_
  refine lw_aload C dL_law_553 rfl 2 rfl rfl ?_
  refine lw_arg C i 1 4 0 rfl rfl (by omega) (by decide) dL_law_554 dL_law_555 dL_law_557 dL_law_558 dL_law_559 rfl ?_
  refine lw_callM (na := 1) (As := [.int (xs (i + 1))]) (st := [.int ((pc_start σ n (xs (i + 1))).1)]) (q := 563) C (cm_X4_start _ _ n hYm ρ (xs (i + 1)) h.J) gL_law_X4_start rfl (by decide +kernel) dL_law_560 rfl rfl hcs rfl ?_
  exact lw_icmpeq C dL_law_563 (tgt := 754) rfl A.1 (next _ _ _ A.2)
theorem lw_c_chunk (C : lw_C p l s m meth c b L xs n D K KL sa) (hcs : cells ≤ room_1.cells ∧ slots ≤ room_1.slots) (hi : i + 5 ≤ L) (h : pr_Rel n σ ρ) (next : ∀ σ ρ w, pr_Rel n σ ρ → lw_V p l e s m below meth c b n D K KL σ ρ w 754 (lw_L s n b i) [] cells slots) : lw_V p l e s m below meth c b n D K KL σ ρ w 568 (lw_L s n b i) [] cells slots := by
  have hn3 := C.2.2.2.1.1
  have hn6 := C.2.2.2.1.2
  have hYc : pc_sys (lw_yc s n D K) n := pc_Y_sys hn3 hn6 (by omega)
  have hYm : pm_sys (lw_ym s n D K) n := pm_Y_sys hn3 hn6 (by omega)
  have A := pr_chunk h hn6 (a := (xs (i + 1))) (s := (xs (i + 2))) (i := (xs (i + 3)))
  refine lw_aload C dL_law_568 rfl 3 rfl rfl ?_
  refine lw_arg C i 1 4 0 rfl rfl (by omega) (by decide) dL_law_569 dL_law_570 dL_law_572 dL_law_573 dL_law_574 rfl ?_
  refine lw_arg C i 2 4 0 rfl rfl (by omega) (by decide) dL_law_575 dL_law_576 dL_law_578 dL_law_579 dL_law_580 rfl ?_
  refine lw_arg C i 3 4 0 rfl rfl (by omega) (by decide) dL_law_581 dL_law_582 dL_law_584 dL_law_585 dL_law_586 rfl ?_
  refine lw_callC (na := 3) (As := [.int (xs (i + 1)), .int (xs (i + 2)), .int (xs (i + 3))]) (st := []) (q := 590) C (cm_X3_chunk _ _ n hYc σ (xs (i + 1)) (xs (i + 2)) (xs (i + 3))) gL_law_X3_chunk rfl (by decide +kernel) dL_law_587 rfl rfl hcs rfl ?_
  refine lw_aload C dL_law_590 rfl 2 rfl rfl ?_
  refine lw_arg C i 1 4 0 rfl rfl (by omega) (by decide) dL_law_591 dL_law_592 dL_law_594 dL_law_595 dL_law_596 rfl ?_
  refine lw_arg C i 2 4 0 rfl rfl (by omega) (by decide) dL_law_597 dL_law_598 dL_law_600 dL_law_601 dL_law_602 rfl ?_
  refine lw_arg C i 3 4 0 rfl rfl (by omega) (by decide) dL_law_603 dL_law_604 dL_law_606 dL_law_607 dL_law_608 rfl ?_
  refine lw_callM (na := 3) (As := [.int (xs (i + 1)), .int (xs (i + 2)), .int (xs (i + 3))]) (st := [.int (pc_chunk σ n (xs (i + 1)) (xs (i + 2)) (xs (i + 3)))]) (q := 612) C (cm_X4_chunk _ _ n hYm ρ (xs (i + 1)) (xs (i + 2)) (xs (i + 3))) gL_law_X4_chunk rfl (by decide +kernel) dL_law_609 rfl rfl hcs rfl ?_
  exact lw_icmpeq C dL_law_612 (tgt := 754) rfl A.symm (next _ _ _ h)
theorem lw_c_member (C : lw_C p l s m meth c b L xs n D K KL sa) (hcs : cells ≤ room_1.cells ∧ slots ≤ room_1.slots) (hi : i + 5 ≤ L) (h : pr_Rel n σ ρ) (next : ∀ σ ρ w, pr_Rel n σ ρ → lw_V p l e s m below meth c b n D K KL σ ρ w 754 (lw_L s n b i) [] cells slots) : lw_V p l e s m below meth c b n D K KL σ ρ w 617 (lw_L s n b i) [] cells slots := by
  have hn3 := C.2.2.2.1.1
  have hn6 := C.2.2.2.1.2
  have hYc : pc_sys (lw_yc s n D K) n := pc_Y_sys hn3 hn6 (by omega)
  have hYm : pm_sys (lw_ym s n D K) n := pm_Y_sys hn3 hn6 (by omega)
  have A := pr_member h hn6 (a := (xs (i + 1))) (x := (xs (i + 2)))
  refine lw_aload C dL_law_617 rfl 3 rfl rfl ?_
  refine lw_arg C i 1 4 0 rfl rfl (by omega) (by decide) dL_law_618 dL_law_619 dL_law_621 dL_law_622 dL_law_623 rfl ?_
  refine lw_arg C i 2 4 0 rfl rfl (by omega) (by decide) dL_law_624 dL_law_625 dL_law_627 dL_law_628 dL_law_629 rfl ?_
  refine lw_callC (na := 2) (As := [.int (xs (i + 1)), .int (xs (i + 2))]) (st := []) (q := 633) C (cm_X3_member _ _ n hYc σ (xs (i + 1)) (xs (i + 2))) gL_law_X3_member rfl (by decide +kernel) dL_law_630 rfl rfl hcs rfl ?_
  refine lw_aload C dL_law_633 rfl 2 rfl rfl ?_
  refine lw_arg C i 1 4 0 rfl rfl (by omega) (by decide) dL_law_634 dL_law_635 dL_law_637 dL_law_638 dL_law_639 rfl ?_
  refine lw_arg C i 2 4 0 rfl rfl (by omega) (by decide) dL_law_640 dL_law_641 dL_law_643 dL_law_644 dL_law_645 rfl ?_
  refine lw_callM (na := 2) (As := [.int (xs (i + 1)), .int (xs (i + 2))]) (st := [.int (pc_member σ n (xs (i + 1)) (xs (i + 2)))]) (q := 649) C (cm_X4_member _ _ n hYm ρ (xs (i + 1)) (xs (i + 2))) gL_law_X4_member rfl (by decide +kernel) dL_law_646 rfl rfl hcs rfl ?_
  exact lw_icmpeq C dL_law_649 (tgt := 754) rfl A.symm (next _ _ _ h)
theorem lw_c_journal (C : lw_C p l s m meth c b L xs n D K KL sa) (hcs : cells ≤ room_1.cells ∧ slots ≤ room_1.slots) (hi : i + 5 ≤ L) (h : pr_Rel n σ ρ) (next : ∀ σ ρ w, pr_Rel n σ ρ → lw_V p l e s m below meth c b n D K KL σ ρ w 754 (lw_L s n b i) [] cells slots) : lw_V p l e s m below meth c b n D K KL σ ρ w 654 (lw_L s n b i) [] cells slots := by
  have hn3 := C.2.2.2.1.1
  have hn6 := C.2.2.2.1.2
  have hYc : pc_sys (lw_yc s n D K) n := pc_Y_sys hn3 hn6 (by omega)
  have hYm : pm_sys (lw_ym s n D K) n := pm_Y_sys hn3 hn6 (by omega)
  have A := pr_journal h hn3 hn6 (x := (xs (i + 1)))
  refine lw_aload C dL_law_654 rfl 3 rfl rfl ?_
  refine lw_arg C i 1 4 0 rfl rfl (by omega) (by decide) dL_law_655 dL_law_656 dL_law_658 dL_law_659 dL_law_660 rfl ?_
  refine lw_callC (na := 1) (As := [.int (xs (i + 1))]) (st := []) (q := 664) C (cm_X3_journal _ _ n hYc σ (xs (i + 1))) gL_law_X3_journal rfl (by decide +kernel) dL_law_661 rfl rfl hcs rfl ?_
  refine lw_aload C dL_law_664 rfl 2 rfl rfl ?_
  refine lw_arg C i 1 4 0 rfl rfl (by omega) (by decide) dL_law_665 dL_law_666 dL_law_668 dL_law_669 dL_law_670 rfl ?_
  refine lw_callM (na := 1) (As := [.int (xs (i + 1))]) (st := [.int (pc_journal σ (xs (i + 1)))]) (q := 674) C (cm_X4_journal _ _ n hYm ρ (pm_r ρ) (xs (i + 1)) (pr_hr h).1 (pr_hr h).2) gL_law_X4_journal rfl (by decide +kernel) dL_law_671 rfl rfl hcs rfl ?_
  exact lw_icmpeq C dL_law_674 (tgt := 754) rfl A.symm (next _ _ _ h)
theorem lw_c_record (C : lw_C p l s m meth c b L xs n D K KL sa) (hcs : cells ≤ room_1.cells ∧ slots ≤ room_1.slots) (hi : i + 5 ≤ L) (h : pr_Rel n σ ρ) (next : ∀ σ ρ w, pr_Rel n σ ρ → lw_V p l e s m below meth c b n D K KL σ ρ w 754 (lw_L s n b i) [] cells slots) : lw_V p l e s m below meth c b n D K KL σ ρ w 679 (lw_L s n b i) [] cells slots := by
  have hn3 := C.2.2.2.1.1
  have hn6 := C.2.2.2.1.2
  have hYc : pc_sys (lw_yc s n D K) n := pc_Y_sys hn3 hn6 (by omega)
  have hYm : pm_sys (lw_ym s n D K) n := pm_Y_sys hn3 hn6 (by omega)
  have A := pr_record h hn3 hn6 (k := (xs (i + 1))) (x := (xs (i + 2)))
  refine lw_aload C dL_law_679 rfl 3 rfl rfl ?_
  refine lw_arg C i 1 4 0 rfl rfl (by omega) (by decide) dL_law_680 dL_law_681 dL_law_683 dL_law_684 dL_law_685 rfl ?_
  refine lw_arg C i 2 4 0 rfl rfl (by omega) (by decide) dL_law_686 dL_law_687 dL_law_689 dL_law_690 dL_law_691 rfl ?_
  refine lw_callC (na := 2) (As := [.int (xs (i + 1)), .int (xs (i + 2))]) (st := []) (q := 695) C (cm_X3_record _ _ n hYc σ (xs (i + 1)) (xs (i + 2)) h.I.1) gL_law_X3_record rfl (by decide +kernel) dL_law_692 rfl rfl hcs rfl ?_
  refine lw_aload C dL_law_695 rfl 2 rfl rfl ?_
  refine lw_arg C i 1 4 0 rfl rfl (by omega) (by decide) dL_law_696 dL_law_697 dL_law_699 dL_law_700 dL_law_701 rfl ?_
  refine lw_arg C i 2 4 0 rfl rfl (by omega) (by decide) dL_law_702 dL_law_703 dL_law_705 dL_law_706 dL_law_707 rfl ?_
  refine lw_callM (na := 2) (As := [.int (xs (i + 1)), .int (xs (i + 2))]) (st := [.int (pc_record σ n (xs (i + 1)) (xs (i + 2)))]) (q := 711) C (cm_X4_record _ _ n hYm ρ (pm_r ρ) (xs (i + 1)) (xs (i + 2)) (pr_hr h).1 (pr_hr h).2) gL_law_X4_record rfl (by decide +kernel) dL_law_708 rfl rfl hcs rfl ?_
  exact lw_icmpeq C dL_law_711 (tgt := 754) rfl A.symm (next _ _ _ h)
theorem lw_c_count (C : lw_C p l s m meth c b L xs n D K KL sa) (hcs : cells ≤ room_1.cells ∧ slots ≤ room_1.slots) (hi : i + 5 ≤ L) (h : pr_Rel n σ ρ) (next : ∀ σ ρ w, pr_Rel n σ ρ → lw_V p l e s m below meth c b n D K KL σ ρ w 754 (lw_L s n b i) [] cells slots) : lw_V p l e s m below meth c b n D K KL σ ρ w 716 (lw_L s n b i) [] cells slots := by
  have hn3 := C.2.2.2.1.1
  have hn6 := C.2.2.2.1.2
  have hYc : pc_sys (lw_yc s n D K) n := pc_Y_sys hn3 hn6 (by omega)
  have hYm : pm_sys (lw_ym s n D K) n := pm_Y_sys hn3 hn6 (by omega)
  have A := pr_count h (x := (xs (i + 1)))
  refine lw_aload C dL_law_716 rfl 3 rfl rfl ?_
  refine lw_arg C i 1 4 0 rfl rfl (by omega) (by decide) dL_law_717 dL_law_718 dL_law_720 dL_law_721 dL_law_722 rfl ?_
  refine lw_callC (na := 1) (As := [.int (xs (i + 1))]) (st := []) (q := 726) C (cm_X3_count _ _ n hYc σ (xs (i + 1))) gL_law_X3_count rfl (by decide +kernel) dL_law_723 rfl rfl hcs rfl ?_
  refine lw_aload C dL_law_726 rfl 2 rfl rfl ?_
  refine lw_arg C i 1 4 0 rfl rfl (by omega) (by decide) dL_law_727 dL_law_728 dL_law_730 dL_law_731 dL_law_732 rfl ?_
  refine lw_callM (na := 1) (As := [.int (xs (i + 1))]) (st := [.int (pc_count σ (xs (i + 1)))]) (q := 736) C (cm_X4_count _ _ n hYm ρ (xs (i + 1))) gL_law_X4_count rfl (by decide +kernel) dL_law_733 rfl rfl hcs rfl ?_
  exact lw_icmpeq C dL_law_736 (tgt := 754) rfl A.symm (next _ _ _ h)
theorem lw_c_audit (C : lw_C p l s m meth c b L xs n D K KL sa) (hcs : cells ≤ room_1.cells ∧ slots ≤ room_1.slots) (hi : i + 5 ≤ L) (h : pr_Rel n σ ρ) (next : ∀ σ ρ w, pr_Rel n σ ρ → lw_V p l e s m below meth c b n D K KL σ ρ w 754 (lw_L s n b i) [] cells slots) : lw_V p l e s m below meth c b n D K KL σ ρ w 741 (lw_L s n b i) [] cells slots := by
  have hn3 := C.2.2.2.1.1
  have hn6 := C.2.2.2.1.2
  have hYc : pc_sys (lw_yc s n D K) n := pc_Y_sys hn3 hn6 (by omega)
  have hYm : pm_sys (lw_ym s n D K) n := pm_Y_sys hn3 hn6 (by omega)
  have A := pr_audit h hn6
  refine lw_aload C dL_law_741 rfl 3 rfl rfl ?_
  refine lw_callC (na := 0) (As := []) (st := []) (q := 745) C (cm_X3_audit _ _ n hYc σ) gL_law_X3_audit rfl (by decide +kernel) dL_law_742 rfl rfl hcs rfl ?_
  refine lw_aload C dL_law_745 rfl 2 rfl rfl ?_
  refine lw_callM (na := 0) (As := []) (st := [.int (nI (pc_aud n 24 0 0 σ).1)]) (q := 749) C (cm_X4_audit _ _ n hYm ρ) gL_law_X4_audit rfl (by decide +kernel) dL_law_746 rfl rfl hcs rfl ?_
  exact lw_icmpeq C dL_law_749 (tgt := 754) rfl (congrArg nI A.1) (next _ _ _ A.2)
end LWC
