def R_law : String := "MeasureRowsLaw"
def lw_P (b : Addr) (xs : List Int32) (args : Array Value) (s : State) : Prop := args = #[.ref b] ∧ s.IntsAt b xs ∧ xs.length ≤ 8 ∧ (Jvm.Cond.and given_1 narrow_1).before args s = true
def lw_Q (_ : Array Value) (s : State) (o : Outcome) (t : State) : Prop := o = .returned (some (.int 1)) ∧ Framed s o t [] 600002 7302231
def lw_Z (below : List Frame) (a : Array Value) (s : State) : State → Prop := fun t => ∃ o, t.status = .running ∧ Ended t below o ∧ lw_Q a s o t
/-- the law's own end, with 1 on the stack, nothing written that was there before, its room as the claim has it -/
theorem lw_ret {p : Program} {l : Launch} {e : Env} {s : State} {m : MethodId} {below : List Frame} {meth : Method} {c : Code} {b : Nat} (hx : p.tables.exec = Jvm.exec) (hb : c.code = code) (hr : meth.sig.returnType = ret) (hlocks : meth.locks = false) {pc : Nat} {H : Heap} {ls : Array Slot} (hdg : decode code pc = .ok (.ireturn, 1)) : W p l e room_1 s m #[Value.ref b] below meth c H [] 600002 7302231 (lw_Z below #[Value.ref b] s) (F0 m pc ls [.int 1]) := by
  intro T hT X
  obtain ⟨fs, hret, hrun, hended, hW, hframe⟩ := X.leave (v := some (.int 1)) (hlocks := hlocks) (fun h => by rw [hr] at h; cases h)
  have hmeth' : T.vm.method? m = some meth := X.method'
  refine ⟨T.setFrames fs, ?_, .returned (some (.int 1)), hrun, hended, rfl, ⟨_, rfl⟩, hW, hframe⟩
  jvm_step X.here [X.here.top, hx, hb, hdg, hmeth', hr, ret, narrow_b1]
  (try refine ⟨rfl, ?_⟩); (try refine ⟨rfl, ?_⟩)
  first | (intro acts; rw [hret _ acts rfl rfl rfl]) | rw [hret _ _ rfl rfl rfl]
  exact Steps.refl _
/-- what holds at the law's entry: the machine, the code, the tables' words (any of lw_tbl by 'hts w (by decide +kernel)'), the script of L ints xs at the cell b, what the Statement gives of the start (any of its parts by flat_of_before) -/
def lw_At (p : Program) (s : State) (m : MethodId) (meth : Method) (c : Code) (b L : Nat) (xs : Nat → Int32) : Prop :=
  p.tables.exec = Jvm.exec ∧ c.code = code ∧ meth.sig.returnType = ret ∧ c.maxLocals = 7 ∧ s.vm.findClass R_law = some m.cls ∧ (∀ w ∈ lw_tbl, w.before #[Value.ref b] s = true) ∧ va_X b L xs s s.heap ∧ b < s.heap.size ∧ meth.locks = false ∧ (Jvm.Cond.and given_1 narrow_1).before #[Value.ref b] s = true
theorem mw_265 : Cond.code y_M_member b_M_member 3 (some .boolean) ∈ lw_tbl := by decide +kernel
theorem mw_266 : Cond.initialized y_M_member.cls ∈ lw_tbl := by decide +kernel
theorem mw_267 : Cond.methodLink "MeasureRowsLaw" 48 y_M_member ∈ lw_tbl := by decide +kernel
theorem mw_268 : Cond.instanceMethod y_M_member ∈ lw_tbl := by decide +kernel
theorem mw_269 : Cond.selects "MeasureRows" y_M_member y_M_member ∈ lw_tbl := by decide +kernel
theorem mw_270 : Cond.code y_D_member b_D_member 3 (some .boolean) ∈ lw_tbl := by decide +kernel
theorem mw_271 : Cond.initialized y_D_member.cls ∈ lw_tbl := by decide +kernel
theorem mw_272 : Cond.methodLink "MeasureRowsLaw" 51 y_D_member ∈ lw_tbl := by decide +kernel
theorem mw_273 : Cond.instanceMethod y_D_member ∈ lw_tbl := by decide +kernel
theorem mw_274 : Cond.selects "MeasureRowsModel" y_D_member y_D_member ∈ lw_tbl := by decide +kernel
theorem mw_275 : Cond.codeWith y_L_ring b_L_ring 5 (some .int) [(0, 17, 20, 13)] ∈ lw_tbl := by decide +kernel
theorem mw_276 : Cond.initialized y_L_ring.cls ∈ lw_tbl := by decide +kernel
theorem mw_277 : Cond.methodLink "MeasureRowsLaw" 52 y_L_ring ∈ lw_tbl := by decide +kernel
theorem mw_278 : Cond.static y_L_ring ∈ lw_tbl := by decide +kernel
theorem mw_279 : Cond.code y_D_ring b_D_ring 3 (some .boolean) ∈ lw_tbl := by decide +kernel
theorem mw_280 : Cond.initialized y_D_ring.cls ∈ lw_tbl := by decide +kernel
theorem mw_281 : Cond.methodLink "MeasureRowsLaw" 57 y_D_ring ∈ lw_tbl := by decide +kernel
theorem mw_282 : Cond.instanceMethod y_D_ring ∈ lw_tbl := by decide +kernel
theorem mw_283 : Cond.selects "MeasureRowsModel" y_D_ring y_D_ring ∈ lw_tbl := by decide +kernel
theorem mw_284 : Cond.code y_D_thrown b_D_thrown 1 (some .int) ∈ lw_tbl := by decide +kernel
theorem mw_285 : Cond.initialized y_D_thrown.cls ∈ lw_tbl := by decide +kernel
theorem mw_286 : Cond.methodLink "MeasureRowsLaw" 58 y_D_thrown ∈ lw_tbl := by decide +kernel
theorem mw_287 : Cond.instanceMethod y_D_thrown ∈ lw_tbl := by decide +kernel
theorem mw_288 : Cond.selects "MeasureRowsModel" y_D_thrown y_D_thrown ∈ lw_tbl := by decide +kernel
theorem mw_289 : Cond.codeWith y_L_has b_L_has 5 (some .int) [(0, 17, 20, 13)] ∈ lw_tbl := by decide +kernel
theorem mw_290 : Cond.initialized y_L_has.cls ∈ lw_tbl := by decide +kernel
theorem mw_291 : Cond.methodLink "MeasureRowsLaw" 62 y_L_has ∈ lw_tbl := by decide +kernel
theorem mw_292 : Cond.static y_L_has ∈ lw_tbl := by decide +kernel
theorem mw_293 : Cond.code y_D_has b_D_has 3 (some .boolean) ∈ lw_tbl := by decide +kernel
theorem mw_294 : Cond.initialized y_D_has.cls ∈ lw_tbl := by decide +kernel
theorem mw_295 : Cond.methodLink "MeasureRowsLaw" 64 y_D_has ∈ lw_tbl := by decide +kernel
theorem mw_296 : Cond.instanceMethod y_D_has ∈ lw_tbl := by decide +kernel
theorem mw_297 : Cond.selects "MeasureRowsModel" y_D_has y_D_has ∈ lw_tbl := by decide +kernel
theorem mw_298 : Cond.codeWith y_L_row b_L_row 10 (some .int) [(0, 20, 23, 22), (0, 20, 27, 24)] ∈ lw_tbl := by decide +kernel
theorem mw_299 : Cond.initialized y_L_row.cls ∈ lw_tbl := by decide +kernel
theorem mw_300 : Cond.methodLink "MeasureRowsLaw" 65 y_L_row ∈ lw_tbl := by decide +kernel
theorem mw_301 : Cond.static y_L_row ∈ lw_tbl := by decide +kernel
theorem mw_302 : Cond.code y_D_row b_D_row 9 (some .int) ∈ lw_tbl := by decide +kernel
theorem mw_303 : Cond.initialized y_D_row.cls ∈ lw_tbl := by decide +kernel
theorem mw_304 : Cond.methodLink "MeasureRowsLaw" 68 y_D_row ∈ lw_tbl := by decide +kernel
theorem mw_305 : Cond.instanceMethod y_D_row ∈ lw_tbl := by decide +kernel
theorem mw_306 : Cond.selects "MeasureRowsModel" y_D_row y_D_row ∈ lw_tbl := by decide +kernel
theorem mw_307 : Cond.code y_M_exclude b_M_exclude 4 (some .boolean) ∈ lw_tbl := by decide +kernel
theorem mw_308 : Cond.initialized y_M_exclude.cls ∈ lw_tbl := by decide +kernel
theorem mw_309 : Cond.methodLink "MeasureRowsLaw" 69 y_M_exclude ∈ lw_tbl := by decide +kernel
theorem mw_310 : Cond.instanceMethod y_M_exclude ∈ lw_tbl := by decide +kernel
theorem mw_311 : Cond.selects "MeasureRows" y_M_exclude y_M_exclude ∈ lw_tbl := by decide +kernel
theorem mw_312 : Cond.code y_D_exclude b_D_exclude 3 (some .boolean) ∈ lw_tbl := by decide +kernel
theorem mw_313 : Cond.initialized y_D_exclude.cls ∈ lw_tbl := by decide +kernel
theorem mw_314 : Cond.methodLink "MeasureRowsLaw" 72 y_D_exclude ∈ lw_tbl := by decide +kernel
theorem mw_315 : Cond.instanceMethod y_D_exclude ∈ lw_tbl := by decide +kernel
theorem mw_316 : Cond.selects "MeasureRowsModel" y_D_exclude y_D_exclude ∈ lw_tbl := by decide +kernel
theorem mw_317 : Cond.code y_M_condition b_M_condition 4 (some .boolean) ∈ lw_tbl := by decide +kernel
theorem mw_318 : Cond.initialized y_M_condition.cls ∈ lw_tbl := by decide +kernel
theorem mw_319 : Cond.methodLink "MeasureRowsLaw" 73 y_M_condition ∈ lw_tbl := by decide +kernel
theorem mw_320 : Cond.instanceMethod y_M_condition ∈ lw_tbl := by decide +kernel
theorem mw_321 : Cond.selects "MeasureRows" y_M_condition y_M_condition ∈ lw_tbl := by decide +kernel
theorem mw_322 : Cond.code y_D_condition b_D_condition 3 (some .boolean) ∈ lw_tbl := by decide +kernel
theorem mw_323 : Cond.initialized y_D_condition.cls ∈ lw_tbl := by decide +kernel
theorem mw_324 : Cond.methodLink "MeasureRowsLaw" 76 y_D_condition ∈ lw_tbl := by decide +kernel
theorem mw_325 : Cond.instanceMethod y_D_condition ∈ lw_tbl := by decide +kernel
theorem mw_326 : Cond.selects "MeasureRowsModel" y_D_condition y_D_condition ∈ lw_tbl := by decide +kernel
theorem mw_327 : Cond.codeWith y_L_end b_L_end 6 (some .int) [(0, 12, 15, 13), (0, 12, 19, 22), (0, 12, 23, 24)] ∈ lw_tbl := by decide +kernel
theorem mw_328 : Cond.initialized y_L_end.cls ∈ lw_tbl := by decide +kernel
theorem mw_329 : Cond.methodLink "MeasureRowsLaw" 77 y_L_end ∈ lw_tbl := by decide +kernel
theorem mw_330 : Cond.static y_L_end ∈ lw_tbl := by decide +kernel
theorem mw_331 : Cond.code y_D_end b_D_end 4 (some .int) ∈ lw_tbl := by decide +kernel
theorem mw_332 : Cond.initialized y_D_end.cls ∈ lw_tbl := by decide +kernel
theorem mw_333 : Cond.methodLink "MeasureRowsLaw" 80 y_D_end ∈ lw_tbl := by decide +kernel
theorem mw_334 : Cond.instanceMethod y_D_end ∈ lw_tbl := by decide +kernel
theorem mw_335 : Cond.selects "MeasureRowsModel" y_D_end y_D_end ∈ lw_tbl := by decide +kernel
theorem mw_336 : Cond.code y_M_papers b_M_papers 2 none ∈ lw_tbl := by decide +kernel
theorem mw_337 : Cond.initialized y_M_papers.cls ∈ lw_tbl := by decide +kernel
theorem mw_338 : Cond.methodLink "MeasureRowsLaw" 81 y_M_papers ∈ lw_tbl := by decide +kernel
theorem mw_339 : Cond.instanceMethod y_M_papers ∈ lw_tbl := by decide +kernel
theorem mw_340 : Cond.selects "MeasureRows" y_M_papers y_M_papers ∈ lw_tbl := by decide +kernel
theorem mw_341 : Cond.code y_D_papers b_D_papers 2 none ∈ lw_tbl := by decide +kernel
theorem mw_342 : Cond.initialized y_D_papers.cls ∈ lw_tbl := by decide +kernel
theorem mw_343 : Cond.methodLink "MeasureRowsLaw" 85 y_D_papers ∈ lw_tbl := by decide +kernel
theorem mw_344 : Cond.instanceMethod y_D_papers ∈ lw_tbl := by decide +kernel
theorem mw_345 : Cond.selects "MeasureRowsModel" y_D_papers y_D_papers ∈ lw_tbl := by decide +kernel
theorem mw_346 : Cond.codeWith y_L_apply b_L_apply 7 (some .int) [(0, 14, 17, 22)] ∈ lw_tbl := by decide +kernel
theorem mw_347 : Cond.initialized y_L_apply.cls ∈ lw_tbl := by decide +kernel
theorem mw_348 : Cond.methodLink "MeasureRowsLaw" 86 y_L_apply ∈ lw_tbl := by decide +kernel
theorem mw_349 : Cond.static y_L_apply ∈ lw_tbl := by decide +kernel
theorem mw_350 : Cond.code y_D_apply b_D_apply 9 (some .int) ∈ lw_tbl := by decide +kernel
theorem mw_351 : Cond.initialized y_D_apply.cls ∈ lw_tbl := by decide +kernel
theorem mw_352 : Cond.methodLink "MeasureRowsLaw" 89 y_D_apply ∈ lw_tbl := by decide +kernel
theorem mw_353 : Cond.instanceMethod y_D_apply ∈ lw_tbl := by decide +kernel
theorem mw_354 : Cond.selects "MeasureRowsModel" y_D_apply y_D_apply ∈ lw_tbl := by decide +kernel
theorem mw_355 : Cond.code y_M_at b_M_at 2 (some .int) ∈ lw_tbl := by decide +kernel
theorem mw_356 : Cond.initialized y_M_at.cls ∈ lw_tbl := by decide +kernel
theorem mw_357 : Cond.methodLink "MeasureRowsLaw" 90 y_M_at ∈ lw_tbl := by decide +kernel
theorem mw_358 : Cond.instanceMethod y_M_at ∈ lw_tbl := by decide +kernel
theorem mw_359 : Cond.selects "MeasureRows" y_M_at y_M_at ∈ lw_tbl := by decide +kernel
theorem mw_360 : Cond.code y_D_at b_D_at 2 (some .int) ∈ lw_tbl := by decide +kernel
theorem mw_361 : Cond.initialized y_D_at.cls ∈ lw_tbl := by decide +kernel
theorem mw_362 : Cond.methodLink "MeasureRowsLaw" 94 y_D_at ∈ lw_tbl := by decide +kernel
theorem mw_363 : Cond.instanceMethod y_D_at ∈ lw_tbl := by decide +kernel
theorem mw_364 : Cond.selects "MeasureRowsModel" y_D_at y_D_at ∈ lw_tbl := by decide +kernel
theorem mw_365 : Cond.codeWith y_L_scan b_L_scan 6 (some .int) [(0, 12, 15, 22)] ∈ lw_tbl := by decide +kernel
theorem mw_366 : Cond.initialized y_L_scan.cls ∈ lw_tbl := by decide +kernel
theorem mw_367 : Cond.methodLink "MeasureRowsLaw" 95 y_L_scan ∈ lw_tbl := by decide +kernel
theorem mw_368 : Cond.static y_L_scan ∈ lw_tbl := by decide +kernel
theorem mw_369 : Cond.code y_D_scan b_D_scan 5 (some .int) ∈ lw_tbl := by decide +kernel
theorem mw_370 : Cond.initialized y_D_scan.cls ∈ lw_tbl := by decide +kernel
theorem mw_371 : Cond.methodLink "MeasureRowsLaw" 97 y_D_scan ∈ lw_tbl := by decide +kernel
theorem mw_372 : Cond.instanceMethod y_D_scan ∈ lw_tbl := by decide +kernel
theorem mw_373 : Cond.selects "MeasureRowsModel" y_D_scan y_D_scan ∈ lw_tbl := by decide +kernel
theorem mw_374 : Cond.codeWith y_L_change b_L_change 6 (some .int) [(0, 12, 15, 22)] ∈ lw_tbl := by decide +kernel
theorem mw_375 : Cond.initialized y_L_change.cls ∈ lw_tbl := by decide +kernel
theorem mw_376 : Cond.methodLink "MeasureRowsLaw" 98 y_L_change ∈ lw_tbl := by decide +kernel
theorem mw_377 : Cond.static y_L_change ∈ lw_tbl := by decide +kernel
theorem mw_378 : Cond.code y_D_change b_D_change 6 (some .int) ∈ lw_tbl := by decide +kernel
theorem mw_379 : Cond.initialized y_D_change.cls ∈ lw_tbl := by decide +kernel
theorem mw_380 : Cond.methodLink "MeasureRowsLaw" 100 y_D_change ∈ lw_tbl := by decide +kernel
theorem mw_381 : Cond.instanceMethod y_D_change ∈ lw_tbl := by decide +kernel
theorem mw_382 : Cond.selects "MeasureRowsModel" y_D_change y_D_change ∈ lw_tbl := by decide +kernel
theorem mw_383 : Cond.codeWith y_L_look b_L_look 5 (some .int) [(0, 10, 13, 13)] ∈ lw_tbl := by decide +kernel
theorem mw_384 : Cond.initialized y_L_look.cls ∈ lw_tbl := by decide +kernel
theorem mw_385 : Cond.methodLink "MeasureRowsLaw" 101 y_L_look ∈ lw_tbl := by decide +kernel
theorem mw_386 : Cond.static y_L_look ∈ lw_tbl := by decide +kernel
theorem mw_387 : Cond.code y_D_look b_D_look 3 (some .int) ∈ lw_tbl := by decide +kernel
theorem mw_388 : Cond.initialized y_D_look.cls ∈ lw_tbl := by decide +kernel
theorem mw_389 : Cond.methodLink "MeasureRowsLaw" 103 y_D_look ∈ lw_tbl := by decide +kernel
theorem mw_390 : Cond.instanceMethod y_D_look ∈ lw_tbl := by decide +kernel
theorem mw_391 : Cond.selects "MeasureRowsModel" y_D_look y_D_look ∈ lw_tbl := by decide +kernel
theorem mw_392 : Cond.code y_M_count b_M_count 2 (some .int) ∈ lw_tbl := by decide +kernel
theorem mw_393 : Cond.initialized y_M_count.cls ∈ lw_tbl := by decide +kernel
theorem mw_394 : Cond.methodLink "MeasureRowsLaw" 104 y_M_count ∈ lw_tbl := by decide +kernel
theorem mw_395 : Cond.instanceMethod y_M_count ∈ lw_tbl := by decide +kernel
theorem mw_396 : Cond.selects "MeasureRows" y_M_count y_M_count ∈ lw_tbl := by decide +kernel
theorem mw_397 : Cond.code y_D_count b_D_count 2 (some .int) ∈ lw_tbl := by decide +kernel
theorem mw_398 : Cond.initialized y_D_count.cls ∈ lw_tbl := by decide +kernel
theorem mw_399 : Cond.methodLink "MeasureRowsLaw" 107 y_D_count ∈ lw_tbl := by decide +kernel
theorem mw_400 : Cond.instanceMethod y_D_count ∈ lw_tbl := by decide +kernel
theorem mw_401 : Cond.selects "MeasureRowsModel" y_D_count y_D_count ∈ lw_tbl := by decide +kernel
set_option maxHeartbeats 4000000 in
set_option maxRecDepth 100000 in
theorem law_0 {p : Program} {l : Launch} {e : Env} {s : State} {m : MethodId} {below : List Frame} {meth : Method} {c : Code} {b : Nat} {xs : Nat → Int32} {dC : Nat → ClassId} {dI : Nat → Nat → Nat} {cI cR cL cZ : ClassId} {rx rm : Nat → Nat} {o : Nat} {fo : Nat → Int64} {A : Nat → Prop} {H : Heap} {locs : List Loc} {ls : Array Slot} (hlt : l.stackTraces = false) (C0 : lw_At p s m meth c b 8 xs) (hB : mr_B s s) (hA : ∀ q : Nat, s.heap.size ≤ q → A q) (hA0 : ∀ q : Nat, A q → s.heap.size ≤ q) (hK : va_K (dC, dI) mr_cl [(cI, .int), (cR, .object "MeasureRows$Row"), (cL, .long), (cZ, .boolean)] s) (hP : va_P (dC, dI) mr_cl [((rx 0), .inr (0, mf_M rx (nI 0) 0 0 0)), ((rx 1), .inr (1, [.ref (rx 2), .ref (rx 3)])), ((rx 2), .inl (cI, 8, .inl (fun _ => 0))), ((rx 3), .inl (cI, 8, .inl (fun _ => 0))), ((rx 4), .inl (cR, 80, .inr (.inr (.inr (.inr (fun _ => none)))))), ((rx 5), .inl (cI, 80, .inl (fun _ => 0))), ((rx 6), .inl (cI, 80, .inl (fun _ => 0))), ((rx 7), .inl (cI, 8, .inl (fun _ => 0))), ((rm 0), .inr (3, mf_D rm 0 0 0 0 0)), ((rm 1), .inl (cI, 8, .inl (fun _ => 0))), ((rm 3), .inl (cI, 81, .inl (fun _ => 0))), ((rm 4), .inl (cI, 81, .inl (fun _ => 0))), ((rm 5), .inl (cI, 81, .inl (fun _ => 0))), ((rm 6), .inl (cI, 81, .inl (fun _ => 0))), ((rm 7), .inl (cI, 81, .inl (fun _ => 0))), ((rm 8), .inl (cI, 81, .inl (fun _ => 0))), ((rm 9), .inl (cI, 81, .inl (fun _ => 0))), ((rm 10), .inl (cI, 81, .inl (fun _ => 0))), ((rm 11), .inl (cI, 81, .inl (fun _ => 0))), ((rm 12), .inl (cI, 648, .inl (fun _ => 0))), ((rm 13), .inl (cI, 648, .inl (fun _ => 0))), ((rm 16), .inl (cI, 80, .inl (fun _ => 0))), ((rm 18), .inl (cZ, 81, .inl (fun _ => 0))), (o, .inl (cL, 1, .inr (.inl fo)))] H) (hD : va_D A [((rx 0), .inr (0, mf_M rx (nI 0) 0 0 0)), ((rx 1), .inr (1, [.ref (rx 2), .ref (rx 3)])), ((rx 2), .inl (cI, 8, .inl (fun _ => 0))), ((rx 3), .inl (cI, 8, .inl (fun _ => 0))), ((rx 4), .inl (cR, 80, .inr (.inr (.inr (.inr (fun _ => none)))))), ((rx 5), .inl (cI, 80, .inl (fun _ => 0))), ((rx 6), .inl (cI, 80, .inl (fun _ => 0))), ((rx 7), .inl (cI, 8, .inl (fun _ => 0))), ((rm 0), .inr (3, mf_D rm 0 0 0 0 0)), ((rm 1), .inl (cI, 8, .inl (fun _ => 0))), ((rm 3), .inl (cI, 81, .inl (fun _ => 0))), ((rm 4), .inl (cI, 81, .inl (fun _ => 0))), ((rm 5), .inl (cI, 81, .inl (fun _ => 0))), ((rm 6), .inl (cI, 81, .inl (fun _ => 0))), ((rm 7), .inl (cI, 81, .inl (fun _ => 0))), ((rm 8), .inl (cI, 81, .inl (fun _ => 0))), ((rm 9), .inl (cI, 81, .inl (fun _ => 0))), ((rm 10), .inl (cI, 81, .inl (fun _ => 0))), ((rm 11), .inl (cI, 81, .inl (fun _ => 0))), ((rm 12), .inl (cI, 648, .inl (fun _ => 0))), ((rm 13), .inl (cI, 648, .inl (fun _ => 0))), ((rm 16), .inl (cI, 80, .inl (fun _ => 0))), ((rm 18), .inl (cZ, 81, .inl (fun _ => 0))), (o, .inl (cL, 1, .inr (.inl fo)))]) (hS : va_S A s.heap H locs) (hl : lv_has ls 7 [(4, .int 0), (3, .ref o), (2, .ref (rm 0)), (1, .ref (rx 0)), (0, .ref b)]) : W p l e room_1 s m #[Value.ref b] below meth c H locs 24 2489 (lw_Z below #[Value.ref b] s) (F0 m 112 ls []) := by
  obtain ⟨hx, hb, hr, hml, hown, hts, hX, hbl, hlocks, hgv⟩ := C0
  have hbA : ¬ A b := fun h => absurd (hA0 b h) (Nat.not_le.mpr hbl)
  have hBH := hB.at hS hA0
  refine lv_aload_n hx hb d_L_law_112 rfl (lv_at hl 3 rfl) ?_
  refine lv_aload_n hx hb d_L_law_113 rfl (lv_at hl 4 rfl) ?_
  refine lv_iload hx hb d_L_law_114 (lv_at hl 0 rfl) ?_
  refine lv_iconst (v := 1) hx hb d_L_law_116 (by decide) ?_
  refine lv_iadd hx hb d_L_law_117 ?_
  refine mr_top (y := 1) (by decide) ?_
  refine va_sld hx hb hX hbl hbA hS (i := 1) (by unfold vp_in; decide) d_L_law_118 ?_
  refine lv_aload_n hx hb d_L_law_119 rfl (lv_at hl 4 rfl) ?_
  refine lv_iload hx hb d_L_law_120 (lv_at hl 0 rfl) ?_
  refine lv_iconst (v := 2) hx hb d_L_law_122 (by decide) ?_
  refine lv_iadd hx hb d_L_law_123 ?_
  refine mr_top (y := 2) (by decide) ?_
  refine va_sld hx hb hX hbl hbA hS (i := 2) (by unfold vp_in; decide) d_L_law_124 ?_
  have hPc := hP.sub (ws' := [((rx 0), .inr (0, mf_M rx (nI 0) 0 0 0)), ((rx 1), .inr (1, [.ref (rx 2), .ref (rx 3)])), ((rx 2), .inl (cI, 8, .inl (fun _ => 0))), ((rx 3), .inl (cI, 8, .inl (fun _ => 0)))]) [0, 1, 2, 3] rfl
  have hDc := hD.sub (ws' := [((rx 0), .inr (0, mf_M rx (nI 0) 0 0 0)), ((rx 1), .inr (1, [.ref (rx 2), .ref (rx 3)])), ((rx 2), .inl (cI, 8, .inl (fun _ => 0))), ((rx 3), .inl (cI, 8, .inl (fun _ => 0)))]) [0, 1, 2, 3] (by decide) rfl
  have hFc := va_free (wc := [((rx 0), .inr (0, mf_M rx (nI 0) 0 0 0)), ((rx 1), .inr (1, [.ref (rx 2), .ref (rx 3)])), ((rx 2), .inl (cI, 8, .inl (fun _ => 0))), ((rx 3), .inl (cI, 8, .inl (fun _ => 0)))]) hD hS hA [0, 1, 2, 3] rfl
  refine va_calli (va_runV (As := [.int (xs (1 : Int32).toNatClampNeg), .int (xs (2 : Int32).toNatClampNeg)]) (rest := []) (C := R_M) ⟨hx, hb, hml, hown, hts⟩ (mc_M_member l s dC dI cI cR cL cZ rx (nI 0) 0 0 0 (fun _ => 0) (fun _ => 0) _ (xs (1 : Int32).toNatClampNeg) (xs (2 : Int32).toNatClampNeg)) ⟨(mr_cB 2 (hts (Cond.code y_M_member b_M_member 3 (some .boolean)) mw_265) (hts (Cond.initialized y_M_member.cls) mw_266) (hts (Cond.methodLink "MeasureRowsLaw" 48 y_M_member) mw_267) rfl rfl (by decide +kernel) ⟨Nat.le_of_ble_eq_true rfl, Nat.le_of_ble_eq_true rfl⟩), (hts (Cond.instanceMethod y_M_member) mw_268), (hts (Cond.selects "MeasureRows" y_M_member y_M_member) mw_269)⟩ (mr_preCV hBH hK hPc (hDc.weaken (fun _ _ _ h => hA0 _ h)) (ci := 0) (q0 := 0) rfl rfl) rfl rfl hl.1 rfl (lv_room (Nat.le_of_ble_eq_true rfl)) d_L_law_125 ⟨Nat.le_of_ble_eq_true rfl, Nat.le_of_ble_eq_true rfl⟩) hS (fun q _ h => hFc q h) hFc (fun r_1 u_2 t H1 locs ht hvm hw hB1 hz1 hk1 hS => ?_)
  obtain ⟨fm9, fi9⟩ := u_2
  obtain ⟨hP1, hK1, hD1⟩ := hB1
  rw [ht] at hP1
  obtain ⟨hP, hD⟩ := va_join (wr := [((rx 4), .inl (cR, 80, .inr (.inr (.inr (.inr (fun _ => none)))))), ((rx 5), .inl (cI, 80, .inl (fun _ => 0))), ((rx 6), .inl (cI, 80, .inl (fun _ => 0))), ((rx 7), .inl (cI, 8, .inl (fun _ => 0))), ((rm 0), .inr (3, mf_D rm 0 0 0 0 0)), ((rm 1), .inl (cI, 8, .inl (fun _ => 0))), ((rm 3), .inl (cI, 81, .inl (fun _ => 0))), ((rm 4), .inl (cI, 81, .inl (fun _ => 0))), ((rm 5), .inl (cI, 81, .inl (fun _ => 0))), ((rm 6), .inl (cI, 81, .inl (fun _ => 0))), ((rm 7), .inl (cI, 81, .inl (fun _ => 0))), ((rm 8), .inl (cI, 81, .inl (fun _ => 0))), ((rm 9), .inl (cI, 81, .inl (fun _ => 0))), ((rm 10), .inl (cI, 81, .inl (fun _ => 0))), ((rm 11), .inl (cI, 81, .inl (fun _ => 0))), ((rm 12), .inl (cI, 648, .inl (fun _ => 0))), ((rm 13), .inl (cI, 648, .inl (fun _ => 0))), ((rm 16), .inl (cI, 80, .inl (fun _ => 0))), ((rm 18), .inl (cZ, 81, .inl (fun _ => 0))), (o, .inl (cL, 1, .inr (.inl fo)))]) (w1 := [((rx 0), .inr (0, mf_M rx (nI 0) 0 0 0)), ((rx 1), .inr (1, [.ref (rx 2), .ref (rx 3)])), ((rx 2), .inl (cI, 8, .inl fm9)), ((rx 3), .inl (cI, 8, .inl fi9))]) hP hD [0, 1, 2, 3] [4, 5, 6, 7, 8, 9, 10, 11, 12, 13, 14, 15, 16, 17, 18, 19, 20, 21, 22, 23] rfl rfl (by decide) (by decide) hk1 hFc hP1 hD1
  clear hK1 hk1 hPc hDc hFc
  generalize H1 = H at hP hS ht ⊢
  have hP : va_P (dC, dI) mr_cl [((rx 4), .inl (cR, 80, .inr (.inr (.inr (.inr (fun _ => none)))))), ((rx 5), .inl (cI, 80, .inl (fun _ => 0))), ((rx 6), .inl (cI, 80, .inl (fun _ => 0))), ((rx 7), .inl (cI, 8, .inl (fun _ => 0))), ((rm 0), .inr (3, mf_D rm 0 0 0 0 0)), ((rm 1), .inl (cI, 8, .inl (fun _ => 0))), ((rm 3), .inl (cI, 81, .inl (fun _ => 0))), ((rm 4), .inl (cI, 81, .inl (fun _ => 0))), ((rm 5), .inl (cI, 81, .inl (fun _ => 0))), ((rm 6), .inl (cI, 81, .inl (fun _ => 0))), ((rm 7), .inl (cI, 81, .inl (fun _ => 0))), ((rm 8), .inl (cI, 81, .inl (fun _ => 0))), ((rm 9), .inl (cI, 81, .inl (fun _ => 0))), ((rm 10), .inl (cI, 81, .inl (fun _ => 0))), ((rm 11), .inl (cI, 81, .inl (fun _ => 0))), ((rm 12), .inl (cI, 648, .inl (fun _ => 0))), ((rm 13), .inl (cI, 648, .inl (fun _ => 0))), ((rm 16), .inl (cI, 80, .inl (fun _ => 0))), ((rm 18), .inl (cZ, 81, .inl (fun _ => 0))), (o, .inl (cL, 1, .inr (.inl fo))), ((rx 0), .inr (0, mf_M rx (nI 0) 0 0 0)), ((rx 1), .inr (1, [.ref (rx 2), .ref (rx 3)])), ((rx 2), .inl (cI, 8, .inl fm9)), ((rx 3), .inl (cI, 8, .inl fi9))] H := hP
  have hD : va_D A [((rx 4), .inl (cR, 80, .inr (.inr (.inr (.inr (fun _ => none)))))), ((rx 5), .inl (cI, 80, .inl (fun _ => 0))), ((rx 6), .inl (cI, 80, .inl (fun _ => 0))), ((rx 7), .inl (cI, 8, .inl (fun _ => 0))), ((rm 0), .inr (3, mf_D rm 0 0 0 0 0)), ((rm 1), .inl (cI, 8, .inl (fun _ => 0))), ((rm 3), .inl (cI, 81, .inl (fun _ => 0))), ((rm 4), .inl (cI, 81, .inl (fun _ => 0))), ((rm 5), .inl (cI, 81, .inl (fun _ => 0))), ((rm 6), .inl (cI, 81, .inl (fun _ => 0))), ((rm 7), .inl (cI, 81, .inl (fun _ => 0))), ((rm 8), .inl (cI, 81, .inl (fun _ => 0))), ((rm 9), .inl (cI, 81, .inl (fun _ => 0))), ((rm 10), .inl (cI, 81, .inl (fun _ => 0))), ((rm 11), .inl (cI, 81, .inl (fun _ => 0))), ((rm 12), .inl (cI, 648, .inl (fun _ => 0))), ((rm 13), .inl (cI, 648, .inl (fun _ => 0))), ((rm 16), .inl (cI, 80, .inl (fun _ => 0))), ((rm 18), .inl (cZ, 81, .inl (fun _ => 0))), (o, .inl (cL, 1, .inr (.inl fo))), ((rx 0), .inr (0, mf_M rx (nI 0) 0 0 0)), ((rx 1), .inr (1, [.ref (rx 2), .ref (rx 3)])), ((rx 2), .inl (cI, 8, .inl fm9)), ((rx 3), .inl (cI, 8, .inl fi9))] := hD
  have hBH := hB.at hS hA0
  obtain ⟨rfl, -, -⟩ := hw
  refine lv_aload_n hx hb d_L_law_128 rfl (lv_at hl 2 rfl) ?_
  refine lv_aload_n hx hb d_L_law_129 rfl (lv_at hl 4 rfl) ?_
  refine lv_iload hx hb d_L_law_130 (lv_at hl 0 rfl) ?_
  refine lv_iconst (v := 1) hx hb d_L_law_132 (by decide) ?_
  refine lv_iadd hx hb d_L_law_133 ?_
  refine mr_top (y := 1) (by decide) ?_
  refine va_sld hx hb hX hbl hbA hS (i := 1) (by unfold vp_in; decide) d_L_law_134 ?_
  refine lv_aload_n hx hb d_L_law_135 rfl (lv_at hl 4 rfl) ?_
  refine lv_iload hx hb d_L_law_136 (lv_at hl 0 rfl) ?_
  refine lv_iconst (v := 2) hx hb d_L_law_138 (by decide) ?_
  refine lv_iadd hx hb d_L_law_139 ?_
  refine mr_top (y := 2) (by decide) ?_
  refine va_sld hx hb hX hbl hbA hS (i := 2) (by unfold vp_in; decide) d_L_law_140 ?_
  have hPc := hP.sub (ws' := [((rm 0), .inr (3, mf_D rm 0 0 0 0 0)), ((rm 1), .inl (cI, 8, .inl (fun _ => 0)))]) [4, 5] rfl
  have hDc := hD.sub (ws' := [((rm 0), .inr (3, mf_D rm 0 0 0 0 0)), ((rm 1), .inl (cI, 8, .inl (fun _ => 0)))]) [4, 5] (by decide) rfl
  have hFc := va_free (wc := [((rm 0), .inr (3, mf_D rm 0 0 0 0 0)), ((rm 1), .inl (cI, 8, .inl (fun _ => 0)))]) hD hS hA [4, 5] rfl
  refine va_calli (va_runV (As := [.int (xs (1 : Int32).toNatClampNeg), .int (xs (2 : Int32).toNatClampNeg)]) (rest := [.int (mv_M_member (fun _ => 0) (fun _ => 0) (xs (1 : Int32).toNatClampNeg) (xs (2 : Int32).toNatClampNeg))]) (C := R_D) ⟨hx, hb, hml, hown, hts⟩ (mc_D_member l s dC dI cI cR cL cZ rm 0 0 0 0 0 (fun _ => 0) _ (xs (1 : Int32).toNatClampNeg) (xs (2 : Int32).toNatClampNeg)) ⟨(mr_cB 2 (hts (Cond.code y_D_member b_D_member 3 (some .boolean)) mw_270) (hts (Cond.initialized y_D_member.cls) mw_271) (hts (Cond.methodLink "MeasureRowsLaw" 51 y_D_member) mw_272) rfl rfl (by decide +kernel) ⟨Nat.le_of_ble_eq_true rfl, Nat.le_of_ble_eq_true rfl⟩), (hts (Cond.instanceMethod y_D_member) mw_273), (hts (Cond.selects "MeasureRowsModel" y_D_member y_D_member) mw_274)⟩ (mr_preCV hBH hK hPc (hDc.weaken (fun _ _ _ h => hA0 _ h)) (ci := 3) (q0 := 0) rfl rfl) rfl rfl hl.1 rfl (lv_room (Nat.le_of_ble_eq_true rfl)) d_L_law_141 ⟨Nat.le_of_ble_eq_true rfl, Nat.le_of_ble_eq_true rfl⟩) hS (fun q _ h => hFc q h) hFc (fun r_3 u_4 t H1 locs ht hvm hw hB1 hz1 hk1 hS => ?_)
  obtain ⟨hP1, hK1, hD1⟩ := hB1
  rw [ht] at hP1
  obtain ⟨hP, hD⟩ := va_join (wr := [((rx 4), .inl (cR, 80, .inr (.inr (.inr (.inr (fun _ => none)))))), ((rx 5), .inl (cI, 80, .inl (fun _ => 0))), ((rx 6), .inl (cI, 80, .inl (fun _ => 0))), ((rx 7), .inl (cI, 8, .inl (fun _ => 0))), ((rm 3), .inl (cI, 81, .inl (fun _ => 0))), ((rm 4), .inl (cI, 81, .inl (fun _ => 0))), ((rm 5), .inl (cI, 81, .inl (fun _ => 0))), ((rm 6), .inl (cI, 81, .inl (fun _ => 0))), ((rm 7), .inl (cI, 81, .inl (fun _ => 0))), ((rm 8), .inl (cI, 81, .inl (fun _ => 0))), ((rm 9), .inl (cI, 81, .inl (fun _ => 0))), ((rm 10), .inl (cI, 81, .inl (fun _ => 0))), ((rm 11), .inl (cI, 81, .inl (fun _ => 0))), ((rm 12), .inl (cI, 648, .inl (fun _ => 0))), ((rm 13), .inl (cI, 648, .inl (fun _ => 0))), ((rm 16), .inl (cI, 80, .inl (fun _ => 0))), ((rm 18), .inl (cZ, 81, .inl (fun _ => 0))), (o, .inl (cL, 1, .inr (.inl fo))), ((rx 0), .inr (0, mf_M rx (nI 0) 0 0 0)), ((rx 1), .inr (1, [.ref (rx 2), .ref (rx 3)])), ((rx 2), .inl (cI, 8, .inl fm9)), ((rx 3), .inl (cI, 8, .inl fi9))]) (w1 := [((rm 0), .inr (3, mf_D rm 0 0 0 0 0)), ((rm 1), .inl (cI, 8, .inl u_4))]) hP hD [4, 5] [0, 1, 2, 3, 6, 7, 8, 9, 10, 11, 12, 13, 14, 15, 16, 17, 18, 19, 20, 21, 22, 23] rfl rfl (by decide) (by decide) hk1 hFc hP1 hD1
  clear hK1 hk1 hPc hDc hFc
  generalize H1 = H at hP hS ht ⊢
  have hP : va_P (dC, dI) mr_cl [((rx 4), .inl (cR, 80, .inr (.inr (.inr (.inr (fun _ => none)))))), ((rx 5), .inl (cI, 80, .inl (fun _ => 0))), ((rx 6), .inl (cI, 80, .inl (fun _ => 0))), ((rx 7), .inl (cI, 8, .inl (fun _ => 0))), ((rm 3), .inl (cI, 81, .inl (fun _ => 0))), ((rm 4), .inl (cI, 81, .inl (fun _ => 0))), ((rm 5), .inl (cI, 81, .inl (fun _ => 0))), ((rm 6), .inl (cI, 81, .inl (fun _ => 0))), ((rm 7), .inl (cI, 81, .inl (fun _ => 0))), ((rm 8), .inl (cI, 81, .inl (fun _ => 0))), ((rm 9), .inl (cI, 81, .inl (fun _ => 0))), ((rm 10), .inl (cI, 81, .inl (fun _ => 0))), ((rm 11), .inl (cI, 81, .inl (fun _ => 0))), ((rm 12), .inl (cI, 648, .inl (fun _ => 0))), ((rm 13), .inl (cI, 648, .inl (fun _ => 0))), ((rm 16), .inl (cI, 80, .inl (fun _ => 0))), ((rm 18), .inl (cZ, 81, .inl (fun _ => 0))), (o, .inl (cL, 1, .inr (.inl fo))), ((rx 0), .inr (0, mf_M rx (nI 0) 0 0 0)), ((rx 1), .inr (1, [.ref (rx 2), .ref (rx 3)])), ((rx 2), .inl (cI, 8, .inl fm9)), ((rx 3), .inl (cI, 8, .inl fi9)), ((rm 0), .inr (3, mf_D rm 0 0 0 0 0)), ((rm 1), .inl (cI, 8, .inl u_4))] H := hP
  have hD : va_D A [((rx 4), .inl (cR, 80, .inr (.inr (.inr (.inr (fun _ => none)))))), ((rx 5), .inl (cI, 80, .inl (fun _ => 0))), ((rx 6), .inl (cI, 80, .inl (fun _ => 0))), ((rx 7), .inl (cI, 8, .inl (fun _ => 0))), ((rm 3), .inl (cI, 81, .inl (fun _ => 0))), ((rm 4), .inl (cI, 81, .inl (fun _ => 0))), ((rm 5), .inl (cI, 81, .inl (fun _ => 0))), ((rm 6), .inl (cI, 81, .inl (fun _ => 0))), ((rm 7), .inl (cI, 81, .inl (fun _ => 0))), ((rm 8), .inl (cI, 81, .inl (fun _ => 0))), ((rm 9), .inl (cI, 81, .inl (fun _ => 0))), ((rm 10), .inl (cI, 81, .inl (fun _ => 0))), ((rm 11), .inl (cI, 81, .inl (fun _ => 0))), ((rm 12), .inl (cI, 648, .inl (fun _ => 0))), ((rm 13), .inl (cI, 648, .inl (fun _ => 0))), ((rm 16), .inl (cI, 80, .inl (fun _ => 0))), ((rm 18), .inl (cZ, 81, .inl (fun _ => 0))), (o, .inl (cL, 1, .inr (.inl fo))), ((rx 0), .inr (0, mf_M rx (nI 0) 0 0 0)), ((rx 1), .inr (1, [.ref (rx 2), .ref (rx 3)])), ((rx 2), .inl (cI, 8, .inl fm9)), ((rx 3), .inl (cI, 8, .inl fi9)), ((rm 0), .inr (3, mf_D rm 0 0 0 0 0)), ((rm 1), .inl (cI, 8, .inl u_4))] := hD
  have hBH := hB.at hS hA0
  obtain ⟨rfl, -⟩ := hw
  refine lv_icmp_eq (tgt := 978) hx hb d_L_law_144 (by decide) (fun _ => ?_) (fun c_5 => absurd (v_member (xs (1 : Int32).toNatClampNeg) (xs (2 : Int32).toNatClampNeg)) c_5)
  refine lv_iinc (v := 8) (lv' := [(4, .int 8), (3, .ref o), (2, .ref (rm 0)), (1, .ref (rx 0)), (0, .ref b)]) hx hb d_L_law_978 hl (k := 0) rfl (by decide) (by decide) rfl (fun ls hl => ?_)
  refine lv_goto (tgt := 23) hx hb d_L_law_981 (by decide) ?_
  refine lv_iload hx hb d_L_law_23 (lv_at hl 0 rfl) ?_
  refine lv_aload_n hx hb d_L_law_25 rfl (lv_at hl 4 rfl) ?_
  refine va_slen hx hb hX hbl hbA hS d_L_law_26 ?_
  refine mr_top (y := 8) (by decide) ?_
  refine lv_bipush (v := 8) hx hb d_L_law_27 (by decide) ?_
  refine lv_isub hx hb d_L_law_29 ?_
  refine mr_top (y := 0) (by decide) ?_
  refine lv_icmp_gt (tgt := 984) hx hb d_L_law_30 (by decide) (fun _ => ?_) (fun c_6 => absurd c_6 (by decide))
  refine lv_iconst (v := 1) hx hb d_L_law_984 (by decide) ?_
  refine va_forget (fun q hq => hA0 _ (hS.2.2 q hq)) ?_
  refine W.widen (k := 600002) (n := 7302231) (by omega) (by omega) ?_
  exact lw_ret hx hb hr hlocks d_L_law_985
set_option maxHeartbeats 4000000 in
set_option maxRecDepth 100000 in
theorem law_1 {p : Program} {l : Launch} {e : Env} {s : State} {m : MethodId} {below : List Frame} {meth : Method} {c : Code} {b : Nat} {xs : Nat → Int32} {dC : Nat → ClassId} {dI : Nat → Nat → Nat} {cI cR cL cZ : ClassId} {rx rm : Nat → Nat} {o : Nat} {fo : Nat → Int64} {A : Nat → Prop} {H : Heap} {locs : List Loc} {ls : Array Slot} (hlt : l.stackTraces = false) (C0 : lw_At p s m meth c b 8 xs) (hB : mr_B s s) (hA : ∀ q : Nat, s.heap.size ≤ q → A q) (hA0 : ∀ q : Nat, A q → s.heap.size ≤ q) (hK : va_K (dC, dI) mr_cl [(cI, .int), (cR, .object "MeasureRows$Row"), (cL, .long), (cZ, .boolean)] s) (hP : va_P (dC, dI) mr_cl [((rx 0), .inr (0, mf_M rx (nI 0) 0 0 0)), ((rx 1), .inr (1, [.ref (rx 2), .ref (rx 3)])), ((rx 2), .inl (cI, 8, .inl (fun _ => 0))), ((rx 3), .inl (cI, 8, .inl (fun _ => 0))), ((rx 4), .inl (cR, 80, .inr (.inr (.inr (.inr (fun _ => none)))))), ((rx 5), .inl (cI, 80, .inl (fun _ => 0))), ((rx 6), .inl (cI, 80, .inl (fun _ => 0))), ((rx 7), .inl (cI, 8, .inl (fun _ => 0))), ((rm 0), .inr (3, mf_D rm 0 0 0 0 0)), ((rm 1), .inl (cI, 8, .inl (fun _ => 0))), ((rm 3), .inl (cI, 81, .inl (fun _ => 0))), ((rm 4), .inl (cI, 81, .inl (fun _ => 0))), ((rm 5), .inl (cI, 81, .inl (fun _ => 0))), ((rm 6), .inl (cI, 81, .inl (fun _ => 0))), ((rm 7), .inl (cI, 81, .inl (fun _ => 0))), ((rm 8), .inl (cI, 81, .inl (fun _ => 0))), ((rm 9), .inl (cI, 81, .inl (fun _ => 0))), ((rm 10), .inl (cI, 81, .inl (fun _ => 0))), ((rm 11), .inl (cI, 81, .inl (fun _ => 0))), ((rm 12), .inl (cI, 648, .inl (fun _ => 0))), ((rm 13), .inl (cI, 648, .inl (fun _ => 0))), ((rm 16), .inl (cI, 80, .inl (fun _ => 0))), ((rm 18), .inl (cZ, 81, .inl (fun _ => 0))), (o, .inl (cL, 1, .inr (.inl fo)))] H) (hD : va_D A [((rx 0), .inr (0, mf_M rx (nI 0) 0 0 0)), ((rx 1), .inr (1, [.ref (rx 2), .ref (rx 3)])), ((rx 2), .inl (cI, 8, .inl (fun _ => 0))), ((rx 3), .inl (cI, 8, .inl (fun _ => 0))), ((rx 4), .inl (cR, 80, .inr (.inr (.inr (.inr (fun _ => none)))))), ((rx 5), .inl (cI, 80, .inl (fun _ => 0))), ((rx 6), .inl (cI, 80, .inl (fun _ => 0))), ((rx 7), .inl (cI, 8, .inl (fun _ => 0))), ((rm 0), .inr (3, mf_D rm 0 0 0 0 0)), ((rm 1), .inl (cI, 8, .inl (fun _ => 0))), ((rm 3), .inl (cI, 81, .inl (fun _ => 0))), ((rm 4), .inl (cI, 81, .inl (fun _ => 0))), ((rm 5), .inl (cI, 81, .inl (fun _ => 0))), ((rm 6), .inl (cI, 81, .inl (fun _ => 0))), ((rm 7), .inl (cI, 81, .inl (fun _ => 0))), ((rm 8), .inl (cI, 81, .inl (fun _ => 0))), ((rm 9), .inl (cI, 81, .inl (fun _ => 0))), ((rm 10), .inl (cI, 81, .inl (fun _ => 0))), ((rm 11), .inl (cI, 81, .inl (fun _ => 0))), ((rm 12), .inl (cI, 648, .inl (fun _ => 0))), ((rm 13), .inl (cI, 648, .inl (fun _ => 0))), ((rm 16), .inl (cI, 80, .inl (fun _ => 0))), ((rm 18), .inl (cZ, 81, .inl (fun _ => 0))), (o, .inl (cL, 1, .inr (.inl fo)))]) (hS : va_S A s.heap H locs) (hl : lv_has ls 7 [(4, .int 0), (3, .ref o), (2, .ref (rm 0)), (1, .ref (rx 0)), (0, .ref b)]) : W p l e room_1 s m #[Value.ref b] below meth c H locs 24 2489 (lw_Z below #[Value.ref b] s) (F0 m 149 ls []) := by
  obtain ⟨hx, hb, hr, hml, hown, hts, hX, hbl, hlocks, hgv⟩ := C0
  have hbA : ¬ A b := fun h => absurd (hA0 b h) (Nat.not_le.mpr hbl)
  have hBH := hB.at hS hA0
  refine lv_aload_n hx hb d_L_law_149 rfl (lv_at hl 3 rfl) ?_
  refine lv_aload_n hx hb d_L_law_150 rfl (lv_at hl 4 rfl) ?_
  refine lv_iload hx hb d_L_law_151 (lv_at hl 0 rfl) ?_
  refine lv_iconst (v := 1) hx hb d_L_law_153 (by decide) ?_
  refine lv_iadd hx hb d_L_law_154 ?_
  refine mr_top (y := 1) (by decide) ?_
  refine va_sld hx hb hX hbl hbA hS (i := 1) (by unfold vp_in; decide) d_L_law_155 ?_
  refine lv_aload_n hx hb d_L_law_156 rfl (lv_at hl 4 rfl) ?_
  refine lv_iload hx hb d_L_law_157 (lv_at hl 0 rfl) ?_
  refine lv_iconst (v := 2) hx hb d_L_law_159 (by decide) ?_
  refine lv_iadd hx hb d_L_law_160 ?_
  refine mr_top (y := 2) (by decide) ?_
  refine va_sld hx hb hX hbl hbA hS (i := 2) (by unfold vp_in; decide) d_L_law_161 ?_
  refine lv_aload_n hx hb d_L_law_162 rfl (lv_at hl 1 rfl) ?_
  have hPc := hP.sub (ws' := [((rx 0), .inr (0, mf_M rx (nI 0) 0 0 0)), ((rx 1), .inr (1, [.ref (rx 2), .ref (rx 3)])), ((rx 2), .inl (cI, 8, .inl (fun _ => 0))), ((rx 3), .inl (cI, 8, .inl (fun _ => 0))), ((rx 4), .inl (cR, 80, .inr (.inr (.inr (.inr (fun _ => none)))))), ((rx 5), .inl (cI, 80, .inl (fun _ => 0))), ((rx 6), .inl (cI, 80, .inl (fun _ => 0))), ((rx 7), .inl (cI, 8, .inl (fun _ => 0))), (o, .inl (cL, 1, .inr (.inl fo)))]) [0, 1, 2, 3, 4, 5, 6, 7, 23] rfl
  have hDc := hD.sub (ws' := [((rx 0), .inr (0, mf_M rx (nI 0) 0 0 0)), ((rx 1), .inr (1, [.ref (rx 2), .ref (rx 3)])), ((rx 2), .inl (cI, 8, .inl (fun _ => 0))), ((rx 3), .inl (cI, 8, .inl (fun _ => 0))), ((rx 4), .inl (cR, 80, .inr (.inr (.inr (.inr (fun _ => none)))))), ((rx 5), .inl (cI, 80, .inl (fun _ => 0))), ((rx 6), .inl (cI, 80, .inl (fun _ => 0))), ((rx 7), .inl (cI, 8, .inl (fun _ => 0))), (o, .inl (cL, 1, .inr (.inl fo)))]) [0, 1, 2, 3, 4, 5, 6, 7, 23] (by decide) rfl
  have hFc := va_free (wc := [((rx 0), .inr (0, mf_M rx (nI 0) 0 0 0)), ((rx 1), .inr (1, [.ref (rx 2), .ref (rx 3)])), ((rx 2), .inl (cI, 8, .inl (fun _ => 0))), ((rx 3), .inl (cI, 8, .inl (fun _ => 0))), ((rx 4), .inl (cR, 80, .inr (.inr (.inr (.inr (fun _ => none)))))), ((rx 5), .inl (cI, 80, .inl (fun _ => 0))), ((rx 6), .inl (cI, 80, .inl (fun _ => 0))), ((rx 7), .inl (cI, 8, .inl (fun _ => 0))), (o, .inl (cL, 1, .inr (.inl fo)))]) hD hS hA [0, 1, 2, 3, 4, 5, 6, 7, 23] rfl
  refine va_calli (mr_runH (n := 4) (As := [.ref (rx 0), .int (xs (1 : Int32).toNatClampNeg), .int (xs (2 : Int32).toNatClampNeg), .ref o]) (rest := []) ⟨hx, hb, hml, hown, hts⟩ (mc_L_ring l hlt s dC dI cI cR cL cZ rx o fo _ (xs (1 : Int32).toNatClampNeg) (xs (2 : Int32).toNatClampNeg)) (hts (Cond.codeWith y_L_ring b_L_ring 5 (some .int) [(0, 17, 20, 13)]) mw_275) (hts (Cond.initialized y_L_ring.cls) mw_276) (hts (Cond.methodLink "MeasureRowsLaw" 52 y_L_ring) mw_277) (hts (Cond.static y_L_ring) mw_278) rfl rfl (by decide +kernel) ⟨Nat.le_of_ble_eq_true rfl, Nat.le_of_ble_eq_true rfl⟩ (mr_preCS hBH hK hPc (hDc.weaken (fun _ _ _ h => hA0 _ h))) rfl hl.1 rfl (Nat.le_of_ble_eq_true rfl) d_L_law_163 ⟨Nat.le_of_ble_eq_true rfl, Nat.le_of_ble_eq_true rfl⟩) hS (fun q _ h => hFc q h) hFc (fun r9 u9 t H1 locs ht hvm hw hB1 hz1 hk1 hS => ?_)
  obtain ⟨hP1, hK1, hD1⟩ := hB1
  rw [ht] at hP1
  obtain ⟨hP, hD⟩ := va_join (wr := [((rm 0), .inr (3, mf_D rm 0 0 0 0 0)), ((rm 1), .inl (cI, 8, .inl (fun _ => 0))), ((rm 3), .inl (cI, 81, .inl (fun _ => 0))), ((rm 4), .inl (cI, 81, .inl (fun _ => 0))), ((rm 5), .inl (cI, 81, .inl (fun _ => 0))), ((rm 6), .inl (cI, 81, .inl (fun _ => 0))), ((rm 7), .inl (cI, 81, .inl (fun _ => 0))), ((rm 8), .inl (cI, 81, .inl (fun _ => 0))), ((rm 9), .inl (cI, 81, .inl (fun _ => 0))), ((rm 10), .inl (cI, 81, .inl (fun _ => 0))), ((rm 11), .inl (cI, 81, .inl (fun _ => 0))), ((rm 12), .inl (cI, 648, .inl (fun _ => 0))), ((rm 13), .inl (cI, 648, .inl (fun _ => 0))), ((rm 16), .inl (cI, 80, .inl (fun _ => 0))), ((rm 18), .inl (cZ, 81, .inl (fun _ => 0)))]) (w1 := [(o, .inl (cL, 1, .inr (.inl u9)))]) hP hD [0, 1, 2, 3, 4, 5, 6, 7, 23] [8, 9, 10, 11, 12, 13, 14, 15, 16, 17, 18, 19, 20, 21, 22] rfl rfl (by decide) (by decide) hk1 hFc hP1 hD1
  clear hK1 hk1 hPc hDc hFc
  generalize H1 = H at hP hS ht ⊢
  obtain ⟨rfl, hu9⟩ := hw
  have hP : va_P (dC, dI) mr_cl [((rm 0), .inr (3, mf_D rm 0 0 0 0 0)), ((rm 1), .inl (cI, 8, .inl (fun _ => 0))), ((rm 3), .inl (cI, 81, .inl (fun _ => 0))), ((rm 4), .inl (cI, 81, .inl (fun _ => 0))), ((rm 5), .inl (cI, 81, .inl (fun _ => 0))), ((rm 6), .inl (cI, 81, .inl (fun _ => 0))), ((rm 7), .inl (cI, 81, .inl (fun _ => 0))), ((rm 8), .inl (cI, 81, .inl (fun _ => 0))), ((rm 9), .inl (cI, 81, .inl (fun _ => 0))), ((rm 10), .inl (cI, 81, .inl (fun _ => 0))), ((rm 11), .inl (cI, 81, .inl (fun _ => 0))), ((rm 12), .inl (cI, 648, .inl (fun _ => 0))), ((rm 13), .inl (cI, 648, .inl (fun _ => 0))), ((rm 16), .inl (cI, 80, .inl (fun _ => 0))), ((rm 18), .inl (cZ, 81, .inl (fun _ => 0))), (o, .inl (cL, 1, .inr (.inl u9)))] H := hP
  have hD : va_D A [((rm 0), .inr (3, mf_D rm 0 0 0 0 0)), ((rm 1), .inl (cI, 8, .inl (fun _ => 0))), ((rm 3), .inl (cI, 81, .inl (fun _ => 0))), ((rm 4), .inl (cI, 81, .inl (fun _ => 0))), ((rm 5), .inl (cI, 81, .inl (fun _ => 0))), ((rm 6), .inl (cI, 81, .inl (fun _ => 0))), ((rm 7), .inl (cI, 81, .inl (fun _ => 0))), ((rm 8), .inl (cI, 81, .inl (fun _ => 0))), ((rm 9), .inl (cI, 81, .inl (fun _ => 0))), ((rm 10), .inl (cI, 81, .inl (fun _ => 0))), ((rm 11), .inl (cI, 81, .inl (fun _ => 0))), ((rm 12), .inl (cI, 648, .inl (fun _ => 0))), ((rm 13), .inl (cI, 648, .inl (fun _ => 0))), ((rm 16), .inl (cI, 80, .inl (fun _ => 0))), ((rm 18), .inl (cZ, 81, .inl (fun _ => 0))), (o, .inl (cL, 1, .inr (.inl u9)))] := hD
  have hBH := hB.at hS hA0
  refine W.widen (k := 25) (n := 2495) (by omega) (by omega) ?_
  refine lv_istore (lv' := [(5, .int (mk_M_ring (xs (1 : Int32).toNatClampNeg) (xs (2 : Int32).toNatClampNeg))), (4, .int 0), (3, .ref o), (2, .ref (rm 0)), (1, .ref (rx 0)), (0, .ref b)]) hx hb d_L_law_166 hl (by decide) rfl (fun ls hl => ?_)
  refine lv_aload_n hx hb d_L_law_168 rfl (lv_at hl 3 rfl) ?_
  refine lv_aload_n hx hb d_L_law_169 rfl (lv_at hl 5 rfl) ?_
  refine lv_iload hx hb d_L_law_170 (lv_at hl 1 rfl) ?_
  refine lv_iconst (v := 1) hx hb d_L_law_172 (by decide) ?_
  refine lv_iadd hx hb d_L_law_173 ?_
  refine mr_top (y := 1) (by decide) ?_
  refine va_sld hx hb hX hbl hbA hS (i := 1) (by unfold vp_in; decide) d_L_law_174 ?_
  refine lv_aload_n hx hb d_L_law_175 rfl (lv_at hl 5 rfl) ?_
  refine lv_iload hx hb d_L_law_176 (lv_at hl 1 rfl) ?_
  refine lv_iconst (v := 2) hx hb d_L_law_178 (by decide) ?_
  refine lv_iadd hx hb d_L_law_179 ?_
  refine mr_top (y := 2) (by decide) ?_
  refine va_sld hx hb hX hbl hbA hS (i := 2) (by unfold vp_in; decide) d_L_law_180 ?_
  have hPc := hP.sub (ws' := [((rm 0), .inr (3, mf_D rm 0 0 0 0 0)), ((rm 1), .inl (cI, 8, .inl (fun _ => 0)))]) [0, 1] rfl
  have hDc := hD.sub (ws' := [((rm 0), .inr (3, mf_D rm 0 0 0 0 0)), ((rm 1), .inl (cI, 8, .inl (fun _ => 0)))]) [0, 1] (by decide) rfl
  have hFc := va_free (wc := [((rm 0), .inr (3, mf_D rm 0 0 0 0 0)), ((rm 1), .inl (cI, 8, .inl (fun _ => 0)))]) hD hS hA [0, 1] rfl
  refine va_calli (va_runV (As := [.int (xs (1 : Int32).toNatClampNeg), .int (xs (2 : Int32).toNatClampNeg)]) (rest := []) (C := R_D) ⟨hx, hb, hml, hown, hts⟩ (mc_D_ring l s dC dI cI cR cL cZ rm 0 0 0 0 0 (fun _ => 0) _ (xs (1 : Int32).toNatClampNeg) (xs (2 : Int32).toNatClampNeg)) ⟨(mr_cB 2 (hts (Cond.code y_D_ring b_D_ring 3 (some .boolean)) mw_279) (hts (Cond.initialized y_D_ring.cls) mw_280) (hts (Cond.methodLink "MeasureRowsLaw" 57 y_D_ring) mw_281) rfl rfl (by decide +kernel) ⟨Nat.le_of_ble_eq_true rfl, Nat.le_of_ble_eq_true rfl⟩), (hts (Cond.instanceMethod y_D_ring) mw_282), (hts (Cond.selects "MeasureRowsModel" y_D_ring y_D_ring) mw_283)⟩ (mr_preCV hBH hK hPc (hDc.weaken (fun _ _ _ h => hA0 _ h)) (ci := 3) (q0 := 0) rfl rfl) rfl rfl hl.1 rfl (lv_room (Nat.le_of_ble_eq_true rfl)) d_L_law_181 ⟨Nat.le_of_ble_eq_true rfl, Nat.le_of_ble_eq_true rfl⟩) hS (fun q _ h => hFc q h) hFc (fun r_1 u_2 t H1 locs ht hvm hw hB1 hz1 hk1 hS => ?_)
  obtain ⟨hP1, hK1, hD1⟩ := hB1
  rw [ht] at hP1
  obtain ⟨hP, hD⟩ := va_join (wr := [((rm 3), .inl (cI, 81, .inl (fun _ => 0))), ((rm 4), .inl (cI, 81, .inl (fun _ => 0))), ((rm 5), .inl (cI, 81, .inl (fun _ => 0))), ((rm 6), .inl (cI, 81, .inl (fun _ => 0))), ((rm 7), .inl (cI, 81, .inl (fun _ => 0))), ((rm 8), .inl (cI, 81, .inl (fun _ => 0))), ((rm 9), .inl (cI, 81, .inl (fun _ => 0))), ((rm 10), .inl (cI, 81, .inl (fun _ => 0))), ((rm 11), .inl (cI, 81, .inl (fun _ => 0))), ((rm 12), .inl (cI, 648, .inl (fun _ => 0))), ((rm 13), .inl (cI, 648, .inl (fun _ => 0))), ((rm 16), .inl (cI, 80, .inl (fun _ => 0))), ((rm 18), .inl (cZ, 81, .inl (fun _ => 0))), (o, .inl (cL, 1, .inr (.inl u9)))]) (w1 := [((rm 0), .inr (3, mf_D rm u_2 0 0 0 0)), ((rm 1), .inl (cI, 8, .inl (fun _ => 0)))]) hP hD [0, 1] [2, 3, 4, 5, 6, 7, 8, 9, 10, 11, 12, 13, 14, 15] rfl rfl (by decide) (by decide) hk1 hFc hP1 hD1
  clear hK1 hk1 hPc hDc hFc
  generalize H1 = H at hP hS ht ⊢
  have hP : va_P (dC, dI) mr_cl [((rm 3), .inl (cI, 81, .inl (fun _ => 0))), ((rm 4), .inl (cI, 81, .inl (fun _ => 0))), ((rm 5), .inl (cI, 81, .inl (fun _ => 0))), ((rm 6), .inl (cI, 81, .inl (fun _ => 0))), ((rm 7), .inl (cI, 81, .inl (fun _ => 0))), ((rm 8), .inl (cI, 81, .inl (fun _ => 0))), ((rm 9), .inl (cI, 81, .inl (fun _ => 0))), ((rm 10), .inl (cI, 81, .inl (fun _ => 0))), ((rm 11), .inl (cI, 81, .inl (fun _ => 0))), ((rm 12), .inl (cI, 648, .inl (fun _ => 0))), ((rm 13), .inl (cI, 648, .inl (fun _ => 0))), ((rm 16), .inl (cI, 80, .inl (fun _ => 0))), ((rm 18), .inl (cZ, 81, .inl (fun _ => 0))), (o, .inl (cL, 1, .inr (.inl u9))), ((rm 0), .inr (3, mf_D rm u_2 0 0 0 0)), ((rm 1), .inl (cI, 8, .inl (fun _ => 0)))] H := hP
  have hD : va_D A [((rm 3), .inl (cI, 81, .inl (fun _ => 0))), ((rm 4), .inl (cI, 81, .inl (fun _ => 0))), ((rm 5), .inl (cI, 81, .inl (fun _ => 0))), ((rm 6), .inl (cI, 81, .inl (fun _ => 0))), ((rm 7), .inl (cI, 81, .inl (fun _ => 0))), ((rm 8), .inl (cI, 81, .inl (fun _ => 0))), ((rm 9), .inl (cI, 81, .inl (fun _ => 0))), ((rm 10), .inl (cI, 81, .inl (fun _ => 0))), ((rm 11), .inl (cI, 81, .inl (fun _ => 0))), ((rm 12), .inl (cI, 648, .inl (fun _ => 0))), ((rm 13), .inl (cI, 648, .inl (fun _ => 0))), ((rm 16), .inl (cI, 80, .inl (fun _ => 0))), ((rm 18), .inl (cZ, 81, .inl (fun _ => 0))), (o, .inl (cL, 1, .inr (.inl u9))), ((rm 0), .inr (3, mf_D rm u_2 0 0 0 0)), ((rm 1), .inl (cI, 8, .inl (fun _ => 0)))] := hD
  have hBH := hB.at hS hA0
  obtain ⟨rfl, rfl⟩ := hw
  refine lv_istore (lv' := [(6, .int (mv_D_ring (fun _ => 0) (xs (1 : Int32).toNatClampNeg) (xs (2 : Int32).toNatClampNeg))), (5, .int (mk_M_ring (xs (1 : Int32).toNatClampNeg) (xs (2 : Int32).toNatClampNeg))), (4, .int 0), (3, .ref o), (2, .ref (rm 0)), (1, .ref (rx 0)), (0, .ref b)]) hx hb d_L_law_184 hl (by decide) rfl (fun ls hl => ?_)
  refine lv_aload_n hx hb d_L_law_186 rfl (lv_at hl 4 rfl) ?_
  refine vp_callSi (va_Run.run (va_runV (As := []) (rest := []) (C := R_D) ⟨hx, hb, hml, hown, hts⟩ (mc_D_thrown l s dC dI cI cR cL cZ rm (mt_D_ring (fun _ => 0) (xs (1 : Int32).toNatClampNeg) (xs (2 : Int32).toNatClampNeg)) 0 0 0 0) ⟨(mr_cB 0 (hts (Cond.code y_D_thrown b_D_thrown 1 (some .int)) mw_284) (hts (Cond.initialized y_D_thrown.cls) mw_285) (hts (Cond.methodLink "MeasureRowsLaw" 58 y_D_thrown) mw_286) rfl rfl (by decide +kernel) ⟨Nat.le_of_ble_eq_true rfl, Nat.le_of_ble_eq_true rfl⟩), (hts (Cond.instanceMethod y_D_thrown) mw_287), (hts (Cond.selects "MeasureRowsModel" y_D_thrown y_D_thrown) mw_288)⟩ (mr_preV hBH hK (hP.sub (ws' := [((rm 0), .inr (3, mf_D rm (mt_D_ring (fun _ => 0) (xs (1 : Int32).toNatClampNeg) (xs (2 : Int32).toNatClampNeg)) 0 0 0 0))]) [14] rfl) (ci := 3) (q0 := 0) rfl rfl) rfl rfl hl.1 rfl (lv_room (Nat.le_of_ble_eq_true rfl)) d_L_law_187 ⟨Nat.le_of_ble_eq_true rfl, Nat.le_of_ble_eq_true rfl⟩)) (fun r_3 h_4 => ?_)
  subst h_4
  refine mr_top (y := mt_D_ring (fun _ => 0) (xs (1 : Int32).toNatClampNeg) (xs (2 : Int32).toNatClampNeg)) rfl ?_
  refine lv_iload hx hb d_L_law_190 (lv_at hl 1 rfl) ?_
  refine lv_icmp_eq (tgt := 197) hx hb d_L_law_192 (by decide) (fun _ => ?_) (fun c_5 => absurd (vk_ring (xs (1 : Int32).toNatClampNeg) (xs (2 : Int32).toNatClampNeg)) c_5)
  refine lv_iload hx hb d_L_law_197 (lv_at hl 1 rfl) ?_
  refine lv_if_ne (tgt := 221) hx hb d_L_law_199 (by decide) (fun c_6 => ?_) (fun c_6 => ?_)
  · refine lv_goto (tgt := 978) hx hb d_L_law_221 (by decide) ?_
    refine lv_iinc (v := 8) (lv' := [(4, .int 8), (6, .int (mv_D_ring (fun _ => 0) (xs (1 : Int32).toNatClampNeg) (xs (2 : Int32).toNatClampNeg))), (5, .int (mk_M_ring (xs (1 : Int32).toNatClampNeg) (xs (2 : Int32).toNatClampNeg))), (3, .ref o), (2, .ref (rm 0)), (1, .ref (rx 0)), (0, .ref b)]) hx hb d_L_law_978 hl (k := 2) rfl (by decide) (by decide) rfl (fun ls hl => ?_)
    refine lv_goto (tgt := 23) hx hb d_L_law_981 (by decide) ?_
    refine lv_iload hx hb d_L_law_23 (lv_at hl 0 rfl) ?_
    refine lv_aload_n hx hb d_L_law_25 rfl (lv_at hl 6 rfl) ?_
    refine va_slen hx hb hX hbl hbA hS d_L_law_26 ?_
    refine mr_top (y := 8) (by decide) ?_
    refine lv_bipush (v := 8) hx hb d_L_law_27 (by decide) ?_
    refine lv_isub hx hb d_L_law_29 ?_
    refine mr_top (y := 0) (by decide) ?_
    refine lv_icmp_gt (tgt := 984) hx hb d_L_law_30 (by decide) (fun _ => ?_) (fun c_7 => absurd c_7 (by decide))
    refine lv_iconst (v := 1) hx hb d_L_law_984 (by decide) ?_
    refine va_forget (fun q hq => hA0 _ (hS.2.2 q hq)) ?_
    refine W.widen (k := 600002) (n := 7302231) (by omega) (by omega) ?_
    exact lw_ret hx hb hr hlocks d_L_law_985
  · refine lv_aload_n hx hb d_L_law_202 rfl (lv_at hl 3 rfl) ?_
    refine lv_iconst (v := 0) hx hb d_L_law_203 (by decide) ?_
    refine va_lald (D := (dC, dI)) hx hb hK hP 13 2 rfl rfl (i := 0) (by unfold vp_in; decide) d_L_law_204 ?_
    refine mr_topv (show Value.long (u9 (0 : Int32).toNatClampNeg) = .long (if (mv_M_ring (xs (1 : Int32).toNatClampNeg) (xs (2 : Int32).toNatClampNeg)) = 0 then (0 : Int64) else 1) from congrArg Value.long (hu9 c_6)) ?_
    refine lv_iload hx hb d_L_law_205 (lv_at hl 0 rfl) ?_
    refine lv_if_eq (tgt := 214) hx hb d_L_law_207 (by decide) (fun c_8 => ?_) (fun c_8 => ?_)
    · refine lv_lconst (v := 0) hx hb d_L_law_214 (by decide) ?_
      refine W.lcmp hx hb d_L_law_215 ?_
      refine lv_if_eq (tgt := 221) hx hb d_L_law_216 (by decide) (fun _ => ?_) (fun c_9 => absurd (v_b0 (v_ring (xs (1 : Int32).toNatClampNeg) (xs (2 : Int32).toNatClampNeg)) c_8) c_9)
      refine lv_goto (tgt := 978) hx hb d_L_law_221 (by decide) ?_
      refine lv_iinc (v := 8) (lv' := [(4, .int 8), (6, .int (mv_D_ring (fun _ => 0) (xs (1 : Int32).toNatClampNeg) (xs (2 : Int32).toNatClampNeg))), (5, .int (mk_M_ring (xs (1 : Int32).toNatClampNeg) (xs (2 : Int32).toNatClampNeg))), (3, .ref o), (2, .ref (rm 0)), (1, .ref (rx 0)), (0, .ref b)]) hx hb d_L_law_978 hl (k := 2) rfl (by decide) (by decide) rfl (fun ls hl => ?_)
      refine lv_goto (tgt := 23) hx hb d_L_law_981 (by decide) ?_
      refine lv_iload hx hb d_L_law_23 (lv_at hl 0 rfl) ?_
      refine lv_aload_n hx hb d_L_law_25 rfl (lv_at hl 6 rfl) ?_
      refine va_slen hx hb hX hbl hbA hS d_L_law_26 ?_
      refine mr_top (y := 8) (by decide) ?_
      refine lv_bipush (v := 8) hx hb d_L_law_27 (by decide) ?_
      refine lv_isub hx hb d_L_law_29 ?_
      refine mr_top (y := 0) (by decide) ?_
      refine lv_icmp_gt (tgt := 984) hx hb d_L_law_30 (by decide) (fun _ => ?_) (fun c_10 => absurd c_10 (by decide))
      refine lv_iconst (v := 1) hx hb d_L_law_984 (by decide) ?_
      refine va_forget (fun q hq => hA0 _ (hS.2.2 q hq)) ?_
      refine W.widen (k := 600002) (n := 7302231) (by omega) (by omega) ?_
      exact lw_ret hx hb hr hlocks d_L_law_985
    · refine lv_lconst (v := 1) hx hb d_L_law_210 (by decide) ?_
      refine lv_goto (tgt := 215) hx hb d_L_law_211 (by decide) ?_
      refine W.lcmp hx hb d_L_law_215 ?_
      refine lv_if_eq (tgt := 221) hx hb d_L_law_216 (by decide) (fun _ => ?_) (fun c_11 => absurd (v_b1 (v_ring (xs (1 : Int32).toNatClampNeg) (xs (2 : Int32).toNatClampNeg)) c_8) c_11)
      refine lv_goto (tgt := 978) hx hb d_L_law_221 (by decide) ?_
      refine lv_iinc (v := 8) (lv' := [(4, .int 8), (6, .int (mv_D_ring (fun _ => 0) (xs (1 : Int32).toNatClampNeg) (xs (2 : Int32).toNatClampNeg))), (5, .int (mk_M_ring (xs (1 : Int32).toNatClampNeg) (xs (2 : Int32).toNatClampNeg))), (3, .ref o), (2, .ref (rm 0)), (1, .ref (rx 0)), (0, .ref b)]) hx hb d_L_law_978 hl (k := 2) rfl (by decide) (by decide) rfl (fun ls hl => ?_)
      refine lv_goto (tgt := 23) hx hb d_L_law_981 (by decide) ?_
      refine lv_iload hx hb d_L_law_23 (lv_at hl 0 rfl) ?_
      refine lv_aload_n hx hb d_L_law_25 rfl (lv_at hl 6 rfl) ?_
      refine va_slen hx hb hX hbl hbA hS d_L_law_26 ?_
      refine mr_top (y := 8) (by decide) ?_
      refine lv_bipush (v := 8) hx hb d_L_law_27 (by decide) ?_
      refine lv_isub hx hb d_L_law_29 ?_
      refine mr_top (y := 0) (by decide) ?_
      refine lv_icmp_gt (tgt := 984) hx hb d_L_law_30 (by decide) (fun _ => ?_) (fun c_12 => absurd c_12 (by decide))
      refine lv_iconst (v := 1) hx hb d_L_law_984 (by decide) ?_
      refine va_forget (fun q hq => hA0 _ (hS.2.2 q hq)) ?_
      refine W.widen (k := 600002) (n := 7302231) (by omega) (by omega) ?_
      exact lw_ret hx hb hr hlocks d_L_law_985
set_option maxHeartbeats 4000000 in
set_option maxRecDepth 100000 in
theorem law_2 {p : Program} {l : Launch} {e : Env} {s : State} {m : MethodId} {below : List Frame} {meth : Method} {c : Code} {b : Nat} {xs : Nat → Int32} {dC : Nat → ClassId} {dI : Nat → Nat → Nat} {cI cR cL cZ : ClassId} {rx rm : Nat → Nat} {o : Nat} {fo : Nat → Int64} {A : Nat → Prop} {H : Heap} {locs : List Loc} {ls : Array Slot} (hlt : l.stackTraces = false) (C0 : lw_At p s m meth c b 8 xs) (hB : mr_B s s) (hA : ∀ q : Nat, s.heap.size ≤ q → A q) (hA0 : ∀ q : Nat, A q → s.heap.size ≤ q) (hK : va_K (dC, dI) mr_cl [(cI, .int), (cR, .object "MeasureRows$Row"), (cL, .long), (cZ, .boolean)] s) (hP : va_P (dC, dI) mr_cl [((rx 0), .inr (0, mf_M rx (nI 0) 0 0 0)), ((rx 1), .inr (1, [.ref (rx 2), .ref (rx 3)])), ((rx 2), .inl (cI, 8, .inl (fun _ => 0))), ((rx 3), .inl (cI, 8, .inl (fun _ => 0))), ((rx 4), .inl (cR, 80, .inr (.inr (.inr (.inr (fun _ => none)))))), ((rx 5), .inl (cI, 80, .inl (fun _ => 0))), ((rx 6), .inl (cI, 80, .inl (fun _ => 0))), ((rx 7), .inl (cI, 8, .inl (fun _ => 0))), ((rm 0), .inr (3, mf_D rm 0 0 0 0 0)), ((rm 1), .inl (cI, 8, .inl (fun _ => 0))), ((rm 3), .inl (cI, 81, .inl (fun _ => 0))), ((rm 4), .inl (cI, 81, .inl (fun _ => 0))), ((rm 5), .inl (cI, 81, .inl (fun _ => 0))), ((rm 6), .inl (cI, 81, .inl (fun _ => 0))), ((rm 7), .inl (cI, 81, .inl (fun _ => 0))), ((rm 8), .inl (cI, 81, .inl (fun _ => 0))), ((rm 9), .inl (cI, 81, .inl (fun _ => 0))), ((rm 10), .inl (cI, 81, .inl (fun _ => 0))), ((rm 11), .inl (cI, 81, .inl (fun _ => 0))), ((rm 12), .inl (cI, 648, .inl (fun _ => 0))), ((rm 13), .inl (cI, 648, .inl (fun _ => 0))), ((rm 16), .inl (cI, 80, .inl (fun _ => 0))), ((rm 18), .inl (cZ, 81, .inl (fun _ => 0))), (o, .inl (cL, 1, .inr (.inl fo)))] H) (hD : va_D A [((rx 0), .inr (0, mf_M rx (nI 0) 0 0 0)), ((rx 1), .inr (1, [.ref (rx 2), .ref (rx 3)])), ((rx 2), .inl (cI, 8, .inl (fun _ => 0))), ((rx 3), .inl (cI, 8, .inl (fun _ => 0))), ((rx 4), .inl (cR, 80, .inr (.inr (.inr (.inr (fun _ => none)))))), ((rx 5), .inl (cI, 80, .inl (fun _ => 0))), ((rx 6), .inl (cI, 80, .inl (fun _ => 0))), ((rx 7), .inl (cI, 8, .inl (fun _ => 0))), ((rm 0), .inr (3, mf_D rm 0 0 0 0 0)), ((rm 1), .inl (cI, 8, .inl (fun _ => 0))), ((rm 3), .inl (cI, 81, .inl (fun _ => 0))), ((rm 4), .inl (cI, 81, .inl (fun _ => 0))), ((rm 5), .inl (cI, 81, .inl (fun _ => 0))), ((rm 6), .inl (cI, 81, .inl (fun _ => 0))), ((rm 7), .inl (cI, 81, .inl (fun _ => 0))), ((rm 8), .inl (cI, 81, .inl (fun _ => 0))), ((rm 9), .inl (cI, 81, .inl (fun _ => 0))), ((rm 10), .inl (cI, 81, .inl (fun _ => 0))), ((rm 11), .inl (cI, 81, .inl (fun _ => 0))), ((rm 12), .inl (cI, 648, .inl (fun _ => 0))), ((rm 13), .inl (cI, 648, .inl (fun _ => 0))), ((rm 16), .inl (cI, 80, .inl (fun _ => 0))), ((rm 18), .inl (cZ, 81, .inl (fun _ => 0))), (o, .inl (cL, 1, .inr (.inl fo)))]) (hS : va_S A s.heap H locs) (hl : lv_has ls 7 [(4, .int 0), (3, .ref o), (2, .ref (rm 0)), (1, .ref (rx 0)), (0, .ref b)]) : W p l e room_1 s m #[Value.ref b] below meth c H locs 24 2489 (lw_Z below #[Value.ref b] s) (F0 m 224 ls []) := by
  obtain ⟨hx, hb, hr, hml, hown, hts, hX, hbl, hlocks, hgv⟩ := C0
  have hbA : ¬ A b := fun h => absurd (hA0 b h) (Nat.not_le.mpr hbl)
  have hBH := hB.at hS hA0
  refine lv_aload_n hx hb d_L_law_224 rfl (lv_at hl 3 rfl) ?_
  refine lv_aload_n hx hb d_L_law_225 rfl (lv_at hl 4 rfl) ?_
  refine lv_iload hx hb d_L_law_226 (lv_at hl 0 rfl) ?_
  refine lv_iconst (v := 1) hx hb d_L_law_228 (by decide) ?_
  refine lv_iadd hx hb d_L_law_229 ?_
  refine mr_top (y := 1) (by decide) ?_
  refine va_sld hx hb hX hbl hbA hS (i := 1) (by unfold vp_in; decide) d_L_law_230 ?_
  refine lv_aload_n hx hb d_L_law_231 rfl (lv_at hl 4 rfl) ?_
  refine lv_iload hx hb d_L_law_232 (lv_at hl 0 rfl) ?_
  refine lv_iconst (v := 2) hx hb d_L_law_234 (by decide) ?_
  refine lv_iadd hx hb d_L_law_235 ?_
  refine mr_top (y := 2) (by decide) ?_
  refine va_sld hx hb hX hbl hbA hS (i := 2) (by unfold vp_in; decide) d_L_law_236 ?_
  refine lv_aload_n hx hb d_L_law_237 rfl (lv_at hl 1 rfl) ?_
  have hPc := hP.sub (ws' := [((rx 0), .inr (0, mf_M rx (nI 0) 0 0 0)), ((rx 1), .inr (1, [.ref (rx 2), .ref (rx 3)])), ((rx 2), .inl (cI, 8, .inl (fun _ => 0))), ((rx 3), .inl (cI, 8, .inl (fun _ => 0))), ((rx 4), .inl (cR, 80, .inr (.inr (.inr (.inr (fun _ => none)))))), ((rx 5), .inl (cI, 80, .inl (fun _ => 0))), ((rx 6), .inl (cI, 80, .inl (fun _ => 0))), ((rx 7), .inl (cI, 8, .inl (fun _ => 0))), (o, .inl (cL, 1, .inr (.inl fo)))]) [0, 1, 2, 3, 4, 5, 6, 7, 23] rfl
  have hDc := hD.sub (ws' := [((rx 0), .inr (0, mf_M rx (nI 0) 0 0 0)), ((rx 1), .inr (1, [.ref (rx 2), .ref (rx 3)])), ((rx 2), .inl (cI, 8, .inl (fun _ => 0))), ((rx 3), .inl (cI, 8, .inl (fun _ => 0))), ((rx 4), .inl (cR, 80, .inr (.inr (.inr (.inr (fun _ => none)))))), ((rx 5), .inl (cI, 80, .inl (fun _ => 0))), ((rx 6), .inl (cI, 80, .inl (fun _ => 0))), ((rx 7), .inl (cI, 8, .inl (fun _ => 0))), (o, .inl (cL, 1, .inr (.inl fo)))]) [0, 1, 2, 3, 4, 5, 6, 7, 23] (by decide) rfl
  have hFc := va_free (wc := [((rx 0), .inr (0, mf_M rx (nI 0) 0 0 0)), ((rx 1), .inr (1, [.ref (rx 2), .ref (rx 3)])), ((rx 2), .inl (cI, 8, .inl (fun _ => 0))), ((rx 3), .inl (cI, 8, .inl (fun _ => 0))), ((rx 4), .inl (cR, 80, .inr (.inr (.inr (.inr (fun _ => none)))))), ((rx 5), .inl (cI, 80, .inl (fun _ => 0))), ((rx 6), .inl (cI, 80, .inl (fun _ => 0))), ((rx 7), .inl (cI, 8, .inl (fun _ => 0))), (o, .inl (cL, 1, .inr (.inl fo)))]) hD hS hA [0, 1, 2, 3, 4, 5, 6, 7, 23] rfl
  refine va_calli (mr_runH (n := 4) (As := [.ref (rx 0), .int (xs (1 : Int32).toNatClampNeg), .int (xs (2 : Int32).toNatClampNeg), .ref o]) (rest := []) ⟨hx, hb, hml, hown, hts⟩ (mc_L_has l hlt s dC dI cI cR cL cZ rx o fo _ (xs (1 : Int32).toNatClampNeg) (xs (2 : Int32).toNatClampNeg)) (hts (Cond.codeWith y_L_has b_L_has 5 (some .int) [(0, 17, 20, 13)]) mw_289) (hts (Cond.initialized y_L_has.cls) mw_290) (hts (Cond.methodLink "MeasureRowsLaw" 62 y_L_has) mw_291) (hts (Cond.static y_L_has) mw_292) rfl rfl (by decide +kernel) ⟨Nat.le_of_ble_eq_true rfl, Nat.le_of_ble_eq_true rfl⟩ (mr_preCS hBH hK hPc (hDc.weaken (fun _ _ _ h => hA0 _ h))) rfl hl.1 rfl (Nat.le_of_ble_eq_true rfl) d_L_law_238 ⟨Nat.le_of_ble_eq_true rfl, Nat.le_of_ble_eq_true rfl⟩) hS (fun q _ h => hFc q h) hFc (fun r9 u9 t H1 locs ht hvm hw hB1 hz1 hk1 hS => ?_)
  obtain ⟨hP1, hK1, hD1⟩ := hB1
  rw [ht] at hP1
  obtain ⟨hP, hD⟩ := va_join (wr := [((rm 0), .inr (3, mf_D rm 0 0 0 0 0)), ((rm 1), .inl (cI, 8, .inl (fun _ => 0))), ((rm 3), .inl (cI, 81, .inl (fun _ => 0))), ((rm 4), .inl (cI, 81, .inl (fun _ => 0))), ((rm 5), .inl (cI, 81, .inl (fun _ => 0))), ((rm 6), .inl (cI, 81, .inl (fun _ => 0))), ((rm 7), .inl (cI, 81, .inl (fun _ => 0))), ((rm 8), .inl (cI, 81, .inl (fun _ => 0))), ((rm 9), .inl (cI, 81, .inl (fun _ => 0))), ((rm 10), .inl (cI, 81, .inl (fun _ => 0))), ((rm 11), .inl (cI, 81, .inl (fun _ => 0))), ((rm 12), .inl (cI, 648, .inl (fun _ => 0))), ((rm 13), .inl (cI, 648, .inl (fun _ => 0))), ((rm 16), .inl (cI, 80, .inl (fun _ => 0))), ((rm 18), .inl (cZ, 81, .inl (fun _ => 0)))]) (w1 := [(o, .inl (cL, 1, .inr (.inl u9)))]) hP hD [0, 1, 2, 3, 4, 5, 6, 7, 23] [8, 9, 10, 11, 12, 13, 14, 15, 16, 17, 18, 19, 20, 21, 22] rfl rfl (by decide) (by decide) hk1 hFc hP1 hD1
  clear hK1 hk1 hPc hDc hFc
  generalize H1 = H at hP hS ht ⊢
  obtain ⟨rfl, hu9⟩ := hw
  have hP : va_P (dC, dI) mr_cl [((rm 0), .inr (3, mf_D rm 0 0 0 0 0)), ((rm 1), .inl (cI, 8, .inl (fun _ => 0))), ((rm 3), .inl (cI, 81, .inl (fun _ => 0))), ((rm 4), .inl (cI, 81, .inl (fun _ => 0))), ((rm 5), .inl (cI, 81, .inl (fun _ => 0))), ((rm 6), .inl (cI, 81, .inl (fun _ => 0))), ((rm 7), .inl (cI, 81, .inl (fun _ => 0))), ((rm 8), .inl (cI, 81, .inl (fun _ => 0))), ((rm 9), .inl (cI, 81, .inl (fun _ => 0))), ((rm 10), .inl (cI, 81, .inl (fun _ => 0))), ((rm 11), .inl (cI, 81, .inl (fun _ => 0))), ((rm 12), .inl (cI, 648, .inl (fun _ => 0))), ((rm 13), .inl (cI, 648, .inl (fun _ => 0))), ((rm 16), .inl (cI, 80, .inl (fun _ => 0))), ((rm 18), .inl (cZ, 81, .inl (fun _ => 0))), (o, .inl (cL, 1, .inr (.inl u9)))] H := hP
  have hD : va_D A [((rm 0), .inr (3, mf_D rm 0 0 0 0 0)), ((rm 1), .inl (cI, 8, .inl (fun _ => 0))), ((rm 3), .inl (cI, 81, .inl (fun _ => 0))), ((rm 4), .inl (cI, 81, .inl (fun _ => 0))), ((rm 5), .inl (cI, 81, .inl (fun _ => 0))), ((rm 6), .inl (cI, 81, .inl (fun _ => 0))), ((rm 7), .inl (cI, 81, .inl (fun _ => 0))), ((rm 8), .inl (cI, 81, .inl (fun _ => 0))), ((rm 9), .inl (cI, 81, .inl (fun _ => 0))), ((rm 10), .inl (cI, 81, .inl (fun _ => 0))), ((rm 11), .inl (cI, 81, .inl (fun _ => 0))), ((rm 12), .inl (cI, 648, .inl (fun _ => 0))), ((rm 13), .inl (cI, 648, .inl (fun _ => 0))), ((rm 16), .inl (cI, 80, .inl (fun _ => 0))), ((rm 18), .inl (cZ, 81, .inl (fun _ => 0))), (o, .inl (cL, 1, .inr (.inl u9)))] := hD
  have hBH := hB.at hS hA0
  refine W.widen (k := 25) (n := 2495) (by omega) (by omega) ?_
  refine lv_istore (lv' := [(5, .int (mk_M_has (xs (1 : Int32).toNatClampNeg) (xs (2 : Int32).toNatClampNeg))), (4, .int 0), (3, .ref o), (2, .ref (rm 0)), (1, .ref (rx 0)), (0, .ref b)]) hx hb d_L_law_241 hl (by decide) rfl (fun ls hl => ?_)
  refine lv_aload_n hx hb d_L_law_243 rfl (lv_at hl 3 rfl) ?_
  refine lv_aload_n hx hb d_L_law_244 rfl (lv_at hl 5 rfl) ?_
  refine lv_iload hx hb d_L_law_245 (lv_at hl 1 rfl) ?_
  refine lv_iconst (v := 1) hx hb d_L_law_247 (by decide) ?_
  refine lv_iadd hx hb d_L_law_248 ?_
  refine mr_top (y := 1) (by decide) ?_
  refine va_sld hx hb hX hbl hbA hS (i := 1) (by unfold vp_in; decide) d_L_law_249 ?_
  refine lv_aload_n hx hb d_L_law_250 rfl (lv_at hl 5 rfl) ?_
  refine lv_iload hx hb d_L_law_251 (lv_at hl 1 rfl) ?_
  refine lv_iconst (v := 2) hx hb d_L_law_253 (by decide) ?_
  refine lv_iadd hx hb d_L_law_254 ?_
  refine mr_top (y := 2) (by decide) ?_
  refine va_sld hx hb hX hbl hbA hS (i := 2) (by unfold vp_in; decide) d_L_law_255 ?_
  have hPc := hP.sub (ws' := [((rm 0), .inr (3, mf_D rm 0 0 0 0 0)), ((rm 1), .inl (cI, 8, .inl (fun _ => 0)))]) [0, 1] rfl
  have hDc := hD.sub (ws' := [((rm 0), .inr (3, mf_D rm 0 0 0 0 0)), ((rm 1), .inl (cI, 8, .inl (fun _ => 0)))]) [0, 1] (by decide) rfl
  have hFc := va_free (wc := [((rm 0), .inr (3, mf_D rm 0 0 0 0 0)), ((rm 1), .inl (cI, 8, .inl (fun _ => 0)))]) hD hS hA [0, 1] rfl
  refine va_calli (va_runV (As := [.int (xs (1 : Int32).toNatClampNeg), .int (xs (2 : Int32).toNatClampNeg)]) (rest := []) (C := R_D) ⟨hx, hb, hml, hown, hts⟩ (mc_D_has l s dC dI cI cR cL cZ rm 0 0 0 0 0 (fun _ => 0) _ (xs (1 : Int32).toNatClampNeg) (xs (2 : Int32).toNatClampNeg)) ⟨(mr_cB 2 (hts (Cond.code y_D_has b_D_has 3 (some .boolean)) mw_293) (hts (Cond.initialized y_D_has.cls) mw_294) (hts (Cond.methodLink "MeasureRowsLaw" 64 y_D_has) mw_295) rfl rfl (by decide +kernel) ⟨Nat.le_of_ble_eq_true rfl, Nat.le_of_ble_eq_true rfl⟩), (hts (Cond.instanceMethod y_D_has) mw_296), (hts (Cond.selects "MeasureRowsModel" y_D_has y_D_has) mw_297)⟩ (mr_preCV hBH hK hPc (hDc.weaken (fun _ _ _ h => hA0 _ h)) (ci := 3) (q0 := 0) rfl rfl) rfl rfl hl.1 rfl (lv_room (Nat.le_of_ble_eq_true rfl)) d_L_law_256 ⟨Nat.le_of_ble_eq_true rfl, Nat.le_of_ble_eq_true rfl⟩) hS (fun q _ h => hFc q h) hFc (fun r_1 u_2 t H1 locs ht hvm hw hB1 hz1 hk1 hS => ?_)
  obtain ⟨hP1, hK1, hD1⟩ := hB1
  rw [ht] at hP1
  obtain ⟨hP, hD⟩ := va_join (wr := [((rm 3), .inl (cI, 81, .inl (fun _ => 0))), ((rm 4), .inl (cI, 81, .inl (fun _ => 0))), ((rm 5), .inl (cI, 81, .inl (fun _ => 0))), ((rm 6), .inl (cI, 81, .inl (fun _ => 0))), ((rm 7), .inl (cI, 81, .inl (fun _ => 0))), ((rm 8), .inl (cI, 81, .inl (fun _ => 0))), ((rm 9), .inl (cI, 81, .inl (fun _ => 0))), ((rm 10), .inl (cI, 81, .inl (fun _ => 0))), ((rm 11), .inl (cI, 81, .inl (fun _ => 0))), ((rm 12), .inl (cI, 648, .inl (fun _ => 0))), ((rm 13), .inl (cI, 648, .inl (fun _ => 0))), ((rm 16), .inl (cI, 80, .inl (fun _ => 0))), ((rm 18), .inl (cZ, 81, .inl (fun _ => 0))), (o, .inl (cL, 1, .inr (.inl u9)))]) (w1 := [((rm 0), .inr (3, mf_D rm u_2 0 0 0 0)), ((rm 1), .inl (cI, 8, .inl (fun _ => 0)))]) hP hD [0, 1] [2, 3, 4, 5, 6, 7, 8, 9, 10, 11, 12, 13, 14, 15] rfl rfl (by decide) (by decide) hk1 hFc hP1 hD1
  clear hK1 hk1 hPc hDc hFc
  generalize H1 = H at hP hS ht ⊢
  have hP : va_P (dC, dI) mr_cl [((rm 3), .inl (cI, 81, .inl (fun _ => 0))), ((rm 4), .inl (cI, 81, .inl (fun _ => 0))), ((rm 5), .inl (cI, 81, .inl (fun _ => 0))), ((rm 6), .inl (cI, 81, .inl (fun _ => 0))), ((rm 7), .inl (cI, 81, .inl (fun _ => 0))), ((rm 8), .inl (cI, 81, .inl (fun _ => 0))), ((rm 9), .inl (cI, 81, .inl (fun _ => 0))), ((rm 10), .inl (cI, 81, .inl (fun _ => 0))), ((rm 11), .inl (cI, 81, .inl (fun _ => 0))), ((rm 12), .inl (cI, 648, .inl (fun _ => 0))), ((rm 13), .inl (cI, 648, .inl (fun _ => 0))), ((rm 16), .inl (cI, 80, .inl (fun _ => 0))), ((rm 18), .inl (cZ, 81, .inl (fun _ => 0))), (o, .inl (cL, 1, .inr (.inl u9))), ((rm 0), .inr (3, mf_D rm u_2 0 0 0 0)), ((rm 1), .inl (cI, 8, .inl (fun _ => 0)))] H := hP
  have hD : va_D A [((rm 3), .inl (cI, 81, .inl (fun _ => 0))), ((rm 4), .inl (cI, 81, .inl (fun _ => 0))), ((rm 5), .inl (cI, 81, .inl (fun _ => 0))), ((rm 6), .inl (cI, 81, .inl (fun _ => 0))), ((rm 7), .inl (cI, 81, .inl (fun _ => 0))), ((rm 8), .inl (cI, 81, .inl (fun _ => 0))), ((rm 9), .inl (cI, 81, .inl (fun _ => 0))), ((rm 10), .inl (cI, 81, .inl (fun _ => 0))), ((rm 11), .inl (cI, 81, .inl (fun _ => 0))), ((rm 12), .inl (cI, 648, .inl (fun _ => 0))), ((rm 13), .inl (cI, 648, .inl (fun _ => 0))), ((rm 16), .inl (cI, 80, .inl (fun _ => 0))), ((rm 18), .inl (cZ, 81, .inl (fun _ => 0))), (o, .inl (cL, 1, .inr (.inl u9))), ((rm 0), .inr (3, mf_D rm u_2 0 0 0 0)), ((rm 1), .inl (cI, 8, .inl (fun _ => 0)))] := hD
  have hBH := hB.at hS hA0
  obtain ⟨rfl, rfl⟩ := hw
  refine lv_istore (lv' := [(6, .int (mv_D_has (fun _ => 0) (xs (1 : Int32).toNatClampNeg) (xs (2 : Int32).toNatClampNeg))), (5, .int (mk_M_has (xs (1 : Int32).toNatClampNeg) (xs (2 : Int32).toNatClampNeg))), (4, .int 0), (3, .ref o), (2, .ref (rm 0)), (1, .ref (rx 0)), (0, .ref b)]) hx hb d_L_law_259 hl (by decide) rfl (fun ls hl => ?_)
  refine lv_aload_n hx hb d_L_law_261 rfl (lv_at hl 4 rfl) ?_
  refine vp_callSi (va_Run.run (va_runV (As := []) (rest := []) (C := R_D) ⟨hx, hb, hml, hown, hts⟩ (mc_D_thrown l s dC dI cI cR cL cZ rm (mt_D_has (fun _ => 0) (xs (1 : Int32).toNatClampNeg) (xs (2 : Int32).toNatClampNeg)) 0 0 0 0) ⟨(mr_cB 0 (hts (Cond.code y_D_thrown b_D_thrown 1 (some .int)) mw_284) (hts (Cond.initialized y_D_thrown.cls) mw_285) (hts (Cond.methodLink "MeasureRowsLaw" 58 y_D_thrown) mw_286) rfl rfl (by decide +kernel) ⟨Nat.le_of_ble_eq_true rfl, Nat.le_of_ble_eq_true rfl⟩), (hts (Cond.instanceMethod y_D_thrown) mw_287), (hts (Cond.selects "MeasureRowsModel" y_D_thrown y_D_thrown) mw_288)⟩ (mr_preV hBH hK (hP.sub (ws' := [((rm 0), .inr (3, mf_D rm (mt_D_has (fun _ => 0) (xs (1 : Int32).toNatClampNeg) (xs (2 : Int32).toNatClampNeg)) 0 0 0 0))]) [14] rfl) (ci := 3) (q0 := 0) rfl rfl) rfl rfl hl.1 rfl (lv_room (Nat.le_of_ble_eq_true rfl)) d_L_law_262 ⟨Nat.le_of_ble_eq_true rfl, Nat.le_of_ble_eq_true rfl⟩)) (fun r_3 h_4 => ?_)
  subst h_4
  refine mr_top (y := mt_D_has (fun _ => 0) (xs (1 : Int32).toNatClampNeg) (xs (2 : Int32).toNatClampNeg)) rfl ?_
  refine lv_iload hx hb d_L_law_265 (lv_at hl 1 rfl) ?_
  refine lv_icmp_eq (tgt := 272) hx hb d_L_law_267 (by decide) (fun _ => ?_) (fun c_5 => absurd (vk_has (xs (1 : Int32).toNatClampNeg) (xs (2 : Int32).toNatClampNeg)) c_5)
  refine lv_iload hx hb d_L_law_272 (lv_at hl 1 rfl) ?_
  refine lv_if_ne (tgt := 296) hx hb d_L_law_274 (by decide) (fun c_6 => ?_) (fun c_6 => ?_)
  · refine lv_goto (tgt := 978) hx hb d_L_law_296 (by decide) ?_
    refine lv_iinc (v := 8) (lv' := [(4, .int 8), (6, .int (mv_D_has (fun _ => 0) (xs (1 : Int32).toNatClampNeg) (xs (2 : Int32).toNatClampNeg))), (5, .int (mk_M_has (xs (1 : Int32).toNatClampNeg) (xs (2 : Int32).toNatClampNeg))), (3, .ref o), (2, .ref (rm 0)), (1, .ref (rx 0)), (0, .ref b)]) hx hb d_L_law_978 hl (k := 2) rfl (by decide) (by decide) rfl (fun ls hl => ?_)
    refine lv_goto (tgt := 23) hx hb d_L_law_981 (by decide) ?_
    refine lv_iload hx hb d_L_law_23 (lv_at hl 0 rfl) ?_
    refine lv_aload_n hx hb d_L_law_25 rfl (lv_at hl 6 rfl) ?_
    refine va_slen hx hb hX hbl hbA hS d_L_law_26 ?_
    refine mr_top (y := 8) (by decide) ?_
    refine lv_bipush (v := 8) hx hb d_L_law_27 (by decide) ?_
    refine lv_isub hx hb d_L_law_29 ?_
    refine mr_top (y := 0) (by decide) ?_
    refine lv_icmp_gt (tgt := 984) hx hb d_L_law_30 (by decide) (fun _ => ?_) (fun c_7 => absurd c_7 (by decide))
    refine lv_iconst (v := 1) hx hb d_L_law_984 (by decide) ?_
    refine va_forget (fun q hq => hA0 _ (hS.2.2 q hq)) ?_
    refine W.widen (k := 600002) (n := 7302231) (by omega) (by omega) ?_
    exact lw_ret hx hb hr hlocks d_L_law_985
  · refine lv_aload_n hx hb d_L_law_277 rfl (lv_at hl 3 rfl) ?_
    refine lv_iconst (v := 0) hx hb d_L_law_278 (by decide) ?_
    refine va_lald (D := (dC, dI)) hx hb hK hP 13 2 rfl rfl (i := 0) (by unfold vp_in; decide) d_L_law_279 ?_
    refine mr_topv (show Value.long (u9 (0 : Int32).toNatClampNeg) = .long (if (mv_M_has (xs (1 : Int32).toNatClampNeg) (xs (2 : Int32).toNatClampNeg)) = 0 then (0 : Int64) else 1) from congrArg Value.long (hu9 c_6)) ?_
    refine lv_iload hx hb d_L_law_280 (lv_at hl 0 rfl) ?_
    refine lv_if_eq (tgt := 289) hx hb d_L_law_282 (by decide) (fun c_8 => ?_) (fun c_8 => ?_)
    · refine lv_lconst (v := 0) hx hb d_L_law_289 (by decide) ?_
      refine W.lcmp hx hb d_L_law_290 ?_
      refine lv_if_eq (tgt := 296) hx hb d_L_law_291 (by decide) (fun _ => ?_) (fun c_9 => absurd (v_b0 (v_has (xs (1 : Int32).toNatClampNeg) (xs (2 : Int32).toNatClampNeg)) c_8) c_9)
      refine lv_goto (tgt := 978) hx hb d_L_law_296 (by decide) ?_
      refine lv_iinc (v := 8) (lv' := [(4, .int 8), (6, .int (mv_D_has (fun _ => 0) (xs (1 : Int32).toNatClampNeg) (xs (2 : Int32).toNatClampNeg))), (5, .int (mk_M_has (xs (1 : Int32).toNatClampNeg) (xs (2 : Int32).toNatClampNeg))), (3, .ref o), (2, .ref (rm 0)), (1, .ref (rx 0)), (0, .ref b)]) hx hb d_L_law_978 hl (k := 2) rfl (by decide) (by decide) rfl (fun ls hl => ?_)
      refine lv_goto (tgt := 23) hx hb d_L_law_981 (by decide) ?_
      refine lv_iload hx hb d_L_law_23 (lv_at hl 0 rfl) ?_
      refine lv_aload_n hx hb d_L_law_25 rfl (lv_at hl 6 rfl) ?_
      refine va_slen hx hb hX hbl hbA hS d_L_law_26 ?_
      refine mr_top (y := 8) (by decide) ?_
      refine lv_bipush (v := 8) hx hb d_L_law_27 (by decide) ?_
      refine lv_isub hx hb d_L_law_29 ?_
      refine mr_top (y := 0) (by decide) ?_
      refine lv_icmp_gt (tgt := 984) hx hb d_L_law_30 (by decide) (fun _ => ?_) (fun c_10 => absurd c_10 (by decide))
      refine lv_iconst (v := 1) hx hb d_L_law_984 (by decide) ?_
      refine va_forget (fun q hq => hA0 _ (hS.2.2 q hq)) ?_
      refine W.widen (k := 600002) (n := 7302231) (by omega) (by omega) ?_
      exact lw_ret hx hb hr hlocks d_L_law_985
    · refine lv_lconst (v := 1) hx hb d_L_law_285 (by decide) ?_
      refine lv_goto (tgt := 290) hx hb d_L_law_286 (by decide) ?_
      refine W.lcmp hx hb d_L_law_290 ?_
      refine lv_if_eq (tgt := 296) hx hb d_L_law_291 (by decide) (fun _ => ?_) (fun c_11 => absurd (v_b1 (v_has (xs (1 : Int32).toNatClampNeg) (xs (2 : Int32).toNatClampNeg)) c_8) c_11)
      refine lv_goto (tgt := 978) hx hb d_L_law_296 (by decide) ?_
      refine lv_iinc (v := 8) (lv' := [(4, .int 8), (6, .int (mv_D_has (fun _ => 0) (xs (1 : Int32).toNatClampNeg) (xs (2 : Int32).toNatClampNeg))), (5, .int (mk_M_has (xs (1 : Int32).toNatClampNeg) (xs (2 : Int32).toNatClampNeg))), (3, .ref o), (2, .ref (rm 0)), (1, .ref (rx 0)), (0, .ref b)]) hx hb d_L_law_978 hl (k := 2) rfl (by decide) (by decide) rfl (fun ls hl => ?_)
      refine lv_goto (tgt := 23) hx hb d_L_law_981 (by decide) ?_
      refine lv_iload hx hb d_L_law_23 (lv_at hl 0 rfl) ?_
      refine lv_aload_n hx hb d_L_law_25 rfl (lv_at hl 6 rfl) ?_
      refine va_slen hx hb hX hbl hbA hS d_L_law_26 ?_
      refine mr_top (y := 8) (by decide) ?_
      refine lv_bipush (v := 8) hx hb d_L_law_27 (by decide) ?_
      refine lv_isub hx hb d_L_law_29 ?_
      refine mr_top (y := 0) (by decide) ?_
      refine lv_icmp_gt (tgt := 984) hx hb d_L_law_30 (by decide) (fun _ => ?_) (fun c_12 => absurd c_12 (by decide))
      refine lv_iconst (v := 1) hx hb d_L_law_984 (by decide) ?_
      refine va_forget (fun q hq => hA0 _ (hS.2.2 q hq)) ?_
      refine W.widen (k := 600002) (n := 7302231) (by omega) (by omega) ?_
      exact lw_ret hx hb hr hlocks d_L_law_985
set_option maxHeartbeats 4000000 in
set_option maxRecDepth 100000 in
theorem law_3 {p : Program} {l : Launch} {e : Env} {s : State} {m : MethodId} {below : List Frame} {meth : Method} {c : Code} {b : Nat} {xs : Nat → Int32} {dC : Nat → ClassId} {dI : Nat → Nat → Nat} {cI cR cL cZ : ClassId} {rx rm : Nat → Nat} {o : Nat} {fo : Nat → Int64} {A : Nat → Prop} {H : Heap} {locs : List Loc} {ls : Array Slot} (hlt : l.stackTraces = false) (C0 : lw_At p s m meth c b 8 xs) (hB : mr_B s s) (hA : ∀ q : Nat, s.heap.size ≤ q → A q) (hA0 : ∀ q : Nat, A q → s.heap.size ≤ q) (hK : va_K (dC, dI) mr_cl [(cI, .int), (cR, .object "MeasureRows$Row"), (cL, .long), (cZ, .boolean)] s) (hP : va_P (dC, dI) mr_cl [((rx 0), .inr (0, mf_M rx (nI 0) 0 0 0)), ((rx 1), .inr (1, [.ref (rx 2), .ref (rx 3)])), ((rx 2), .inl (cI, 8, .inl (fun _ => 0))), ((rx 3), .inl (cI, 8, .inl (fun _ => 0))), ((rx 4), .inl (cR, 80, .inr (.inr (.inr (.inr (fun _ => none)))))), ((rx 5), .inl (cI, 80, .inl (fun _ => 0))), ((rx 6), .inl (cI, 80, .inl (fun _ => 0))), ((rx 7), .inl (cI, 8, .inl (fun _ => 0))), ((rm 0), .inr (3, mf_D rm 0 0 0 0 0)), ((rm 1), .inl (cI, 8, .inl (fun _ => 0))), ((rm 3), .inl (cI, 81, .inl (fun _ => 0))), ((rm 4), .inl (cI, 81, .inl (fun _ => 0))), ((rm 5), .inl (cI, 81, .inl (fun _ => 0))), ((rm 6), .inl (cI, 81, .inl (fun _ => 0))), ((rm 7), .inl (cI, 81, .inl (fun _ => 0))), ((rm 8), .inl (cI, 81, .inl (fun _ => 0))), ((rm 9), .inl (cI, 81, .inl (fun _ => 0))), ((rm 10), .inl (cI, 81, .inl (fun _ => 0))), ((rm 11), .inl (cI, 81, .inl (fun _ => 0))), ((rm 12), .inl (cI, 648, .inl (fun _ => 0))), ((rm 13), .inl (cI, 648, .inl (fun _ => 0))), ((rm 16), .inl (cI, 80, .inl (fun _ => 0))), ((rm 18), .inl (cZ, 81, .inl (fun _ => 0))), (o, .inl (cL, 1, .inr (.inl fo)))] H) (hD : va_D A [((rx 0), .inr (0, mf_M rx (nI 0) 0 0 0)), ((rx 1), .inr (1, [.ref (rx 2), .ref (rx 3)])), ((rx 2), .inl (cI, 8, .inl (fun _ => 0))), ((rx 3), .inl (cI, 8, .inl (fun _ => 0))), ((rx 4), .inl (cR, 80, .inr (.inr (.inr (.inr (fun _ => none)))))), ((rx 5), .inl (cI, 80, .inl (fun _ => 0))), ((rx 6), .inl (cI, 80, .inl (fun _ => 0))), ((rx 7), .inl (cI, 8, .inl (fun _ => 0))), ((rm 0), .inr (3, mf_D rm 0 0 0 0 0)), ((rm 1), .inl (cI, 8, .inl (fun _ => 0))), ((rm 3), .inl (cI, 81, .inl (fun _ => 0))), ((rm 4), .inl (cI, 81, .inl (fun _ => 0))), ((rm 5), .inl (cI, 81, .inl (fun _ => 0))), ((rm 6), .inl (cI, 81, .inl (fun _ => 0))), ((rm 7), .inl (cI, 81, .inl (fun _ => 0))), ((rm 8), .inl (cI, 81, .inl (fun _ => 0))), ((rm 9), .inl (cI, 81, .inl (fun _ => 0))), ((rm 10), .inl (cI, 81, .inl (fun _ => 0))), ((rm 11), .inl (cI, 81, .inl (fun _ => 0))), ((rm 12), .inl (cI, 648, .inl (fun _ => 0))), ((rm 13), .inl (cI, 648, .inl (fun _ => 0))), ((rm 16), .inl (cI, 80, .inl (fun _ => 0))), ((rm 18), .inl (cZ, 81, .inl (fun _ => 0))), (o, .inl (cL, 1, .inr (.inl fo)))]) (hS : va_S A s.heap H locs) (hl : lv_has ls 7 [(4, .int 0), (3, .ref o), (2, .ref (rm 0)), (1, .ref (rx 0)), (0, .ref b)]) : W p l e room_1 s m #[Value.ref b] below meth c H locs 24 2489 (lw_Z below #[Value.ref b] s) (F0 m 299 ls []) := by
  obtain ⟨hx, hb, hr, hml, hown, hts, hX, hbl, hlocks, hgv⟩ := C0
  have hbA : ¬ A b := fun h => absurd (hA0 b h) (Nat.not_le.mpr hbl)
  have hBH := hB.at hS hA0
  refine lv_aload_n hx hb d_L_law_299 rfl (lv_at hl 3 rfl) ?_
  refine lv_aload_n hx hb d_L_law_300 rfl (lv_at hl 4 rfl) ?_
  refine lv_iload hx hb d_L_law_301 (lv_at hl 0 rfl) ?_
  refine lv_iconst (v := 1) hx hb d_L_law_303 (by decide) ?_
  refine lv_iadd hx hb d_L_law_304 ?_
  refine mr_top (y := 1) (by decide) ?_
  refine va_sld hx hb hX hbl hbA hS (i := 1) (by unfold vp_in; decide) d_L_law_305 ?_
  refine lv_aload_n hx hb d_L_law_306 rfl (lv_at hl 4 rfl) ?_
  refine lv_iload hx hb d_L_law_307 (lv_at hl 0 rfl) ?_
  refine lv_iconst (v := 2) hx hb d_L_law_309 (by decide) ?_
  refine lv_iadd hx hb d_L_law_310 ?_
  refine mr_top (y := 2) (by decide) ?_
  refine va_sld hx hb hX hbl hbA hS (i := 2) (by unfold vp_in; decide) d_L_law_311 ?_
  refine lv_aload_n hx hb d_L_law_312 rfl (lv_at hl 4 rfl) ?_
  refine lv_iload hx hb d_L_law_313 (lv_at hl 0 rfl) ?_
  refine lv_iconst (v := 3) hx hb d_L_law_315 (by decide) ?_
  refine lv_iadd hx hb d_L_law_316 ?_
  refine mr_top (y := 3) (by decide) ?_
  refine va_sld hx hb hX hbl hbA hS (i := 3) (by unfold vp_in; decide) d_L_law_317 ?_
  refine lv_aload_n hx hb d_L_law_318 rfl (lv_at hl 4 rfl) ?_
  refine lv_iload hx hb d_L_law_319 (lv_at hl 0 rfl) ?_
  refine lv_iconst (v := 4) hx hb d_L_law_321 (by decide) ?_
  refine lv_iadd hx hb d_L_law_322 ?_
  refine mr_top (y := 4) (by decide) ?_
  refine va_sld hx hb hX hbl hbA hS (i := 4) (by unfold vp_in; decide) d_L_law_323 ?_
  refine lv_aload_n hx hb d_L_law_324 rfl (lv_at hl 4 rfl) ?_
  refine lv_iload hx hb d_L_law_325 (lv_at hl 0 rfl) ?_
  refine lv_iconst (v := 5) hx hb d_L_law_327 (by decide) ?_
  refine lv_iadd hx hb d_L_law_328 ?_
  refine mr_top (y := 5) (by decide) ?_
  refine va_sld hx hb hX hbl hbA hS (i := 5) (by unfold vp_in; decide) d_L_law_329 ?_
  refine lv_aload_n hx hb d_L_law_330 rfl (lv_at hl 4 rfl) ?_
  refine lv_iload hx hb d_L_law_331 (lv_at hl 0 rfl) ?_
  refine lv_bipush (v := 6) hx hb d_L_law_333 (by decide) ?_
  refine lv_iadd hx hb d_L_law_335 ?_
  refine mr_top (y := 6) (by decide) ?_
  refine va_sld hx hb hX hbl hbA hS (i := 6) (by unfold vp_in; decide) d_L_law_336 ?_
  refine lv_aload_n hx hb d_L_law_337 rfl (lv_at hl 4 rfl) ?_
  refine lv_iload hx hb d_L_law_338 (lv_at hl 0 rfl) ?_
  refine lv_bipush (v := 7) hx hb d_L_law_340 (by decide) ?_
  refine lv_iadd hx hb d_L_law_342 ?_
  refine mr_top (y := 7) (by decide) ?_
  refine va_sld hx hb hX hbl hbA hS (i := 7) (by unfold vp_in; decide) d_L_law_343 ?_
  refine lv_aload_n hx hb d_L_law_344 rfl (lv_at hl 1 rfl) ?_
  have hPc := hP.sub (ws' := [((rx 0), .inr (0, mf_M rx (nI 0) 0 0 0)), ((rx 1), .inr (1, [.ref (rx 2), .ref (rx 3)])), ((rx 2), .inl (cI, 8, .inl (fun _ => 0))), ((rx 3), .inl (cI, 8, .inl (fun _ => 0))), ((rx 4), .inl (cR, 80, .inr (.inr (.inr (.inr (fun _ => none)))))), ((rx 5), .inl (cI, 80, .inl (fun _ => 0))), ((rx 6), .inl (cI, 80, .inl (fun _ => 0))), ((rx 7), .inl (cI, 8, .inl (fun _ => 0))), (o, .inl (cL, 1, .inr (.inl fo)))]) [0, 1, 2, 3, 4, 5, 6, 7, 23] rfl
  have hDc := hD.sub (ws' := [((rx 0), .inr (0, mf_M rx (nI 0) 0 0 0)), ((rx 1), .inr (1, [.ref (rx 2), .ref (rx 3)])), ((rx 2), .inl (cI, 8, .inl (fun _ => 0))), ((rx 3), .inl (cI, 8, .inl (fun _ => 0))), ((rx 4), .inl (cR, 80, .inr (.inr (.inr (.inr (fun _ => none)))))), ((rx 5), .inl (cI, 80, .inl (fun _ => 0))), ((rx 6), .inl (cI, 80, .inl (fun _ => 0))), ((rx 7), .inl (cI, 8, .inl (fun _ => 0))), (o, .inl (cL, 1, .inr (.inl fo)))]) [0, 1, 2, 3, 4, 5, 6, 7, 23] (by decide) rfl
  have hFc := va_free (wc := [((rx 0), .inr (0, mf_M rx (nI 0) 0 0 0)), ((rx 1), .inr (1, [.ref (rx 2), .ref (rx 3)])), ((rx 2), .inl (cI, 8, .inl (fun _ => 0))), ((rx 3), .inl (cI, 8, .inl (fun _ => 0))), ((rx 4), .inl (cR, 80, .inr (.inr (.inr (.inr (fun _ => none)))))), ((rx 5), .inl (cI, 80, .inl (fun _ => 0))), ((rx 6), .inl (cI, 80, .inl (fun _ => 0))), ((rx 7), .inl (cI, 8, .inl (fun _ => 0))), (o, .inl (cL, 1, .inr (.inl fo)))]) hD hS hA [0, 1, 2, 3, 4, 5, 6, 7, 23] rfl
  refine va_calli (mr_runH (n := 9) (As := [.ref (rx 0), .int (xs (1 : Int32).toNatClampNeg), .int (xs (2 : Int32).toNatClampNeg), .int (xs (3 : Int32).toNatClampNeg), .int (xs (4 : Int32).toNatClampNeg), .int (xs (5 : Int32).toNatClampNeg), .int (xs (6 : Int32).toNatClampNeg), .int (xs (7 : Int32).toNatClampNeg), .ref o]) (rest := []) ⟨hx, hb, hml, hown, hts⟩ (mc_L_row l hlt s dC dI cI cR cL cZ rx o fo _ (xs (1 : Int32).toNatClampNeg) (xs (2 : Int32).toNatClampNeg) (xs (3 : Int32).toNatClampNeg) (xs (4 : Int32).toNatClampNeg) (xs (5 : Int32).toNatClampNeg) (xs (6 : Int32).toNatClampNeg) (xs (7 : Int32).toNatClampNeg)) (hts (Cond.codeWith y_L_row b_L_row 10 (some .int) [(0, 20, 23, 22), (0, 20, 27, 24)]) mw_298) (hts (Cond.initialized y_L_row.cls) mw_299) (hts (Cond.methodLink "MeasureRowsLaw" 65 y_L_row) mw_300) (hts (Cond.static y_L_row) mw_301) rfl rfl (by decide +kernel) ⟨Nat.le_of_ble_eq_true rfl, Nat.le_of_ble_eq_true rfl⟩ (mr_preCS hBH hK hPc (hDc.weaken (fun _ _ _ h => hA0 _ h))) rfl hl.1 rfl (Nat.le_of_ble_eq_true rfl) d_L_law_345 ⟨Nat.le_of_ble_eq_true rfl, Nat.le_of_ble_eq_true rfl⟩) hS (fun q _ h => hFc q h) hFc (fun r9 u9 t H1 locs ht hvm hw hB1 hz1 hk1 hS => ?_)
  obtain ⟨hP1, hK1, hD1⟩ := hB1
  rw [ht] at hP1
  obtain ⟨hP, hD⟩ := va_join (wr := [((rm 0), .inr (3, mf_D rm 0 0 0 0 0)), ((rm 1), .inl (cI, 8, .inl (fun _ => 0))), ((rm 3), .inl (cI, 81, .inl (fun _ => 0))), ((rm 4), .inl (cI, 81, .inl (fun _ => 0))), ((rm 5), .inl (cI, 81, .inl (fun _ => 0))), ((rm 6), .inl (cI, 81, .inl (fun _ => 0))), ((rm 7), .inl (cI, 81, .inl (fun _ => 0))), ((rm 8), .inl (cI, 81, .inl (fun _ => 0))), ((rm 9), .inl (cI, 81, .inl (fun _ => 0))), ((rm 10), .inl (cI, 81, .inl (fun _ => 0))), ((rm 11), .inl (cI, 81, .inl (fun _ => 0))), ((rm 12), .inl (cI, 648, .inl (fun _ => 0))), ((rm 13), .inl (cI, 648, .inl (fun _ => 0))), ((rm 16), .inl (cI, 80, .inl (fun _ => 0))), ((rm 18), .inl (cZ, 81, .inl (fun _ => 0)))]) (w1 := [(o, .inl (cL, 1, .inr (.inl u9)))]) hP hD [0, 1, 2, 3, 4, 5, 6, 7, 23] [8, 9, 10, 11, 12, 13, 14, 15, 16, 17, 18, 19, 20, 21, 22] rfl rfl (by decide) (by decide) hk1 hFc hP1 hD1
  clear hK1 hk1 hPc hDc hFc
  generalize H1 = H at hP hS ht ⊢
  obtain ⟨rfl, hu9⟩ := hw
  have hP : va_P (dC, dI) mr_cl [((rm 0), .inr (3, mf_D rm 0 0 0 0 0)), ((rm 1), .inl (cI, 8, .inl (fun _ => 0))), ((rm 3), .inl (cI, 81, .inl (fun _ => 0))), ((rm 4), .inl (cI, 81, .inl (fun _ => 0))), ((rm 5), .inl (cI, 81, .inl (fun _ => 0))), ((rm 6), .inl (cI, 81, .inl (fun _ => 0))), ((rm 7), .inl (cI, 81, .inl (fun _ => 0))), ((rm 8), .inl (cI, 81, .inl (fun _ => 0))), ((rm 9), .inl (cI, 81, .inl (fun _ => 0))), ((rm 10), .inl (cI, 81, .inl (fun _ => 0))), ((rm 11), .inl (cI, 81, .inl (fun _ => 0))), ((rm 12), .inl (cI, 648, .inl (fun _ => 0))), ((rm 13), .inl (cI, 648, .inl (fun _ => 0))), ((rm 16), .inl (cI, 80, .inl (fun _ => 0))), ((rm 18), .inl (cZ, 81, .inl (fun _ => 0))), (o, .inl (cL, 1, .inr (.inl u9)))] H := hP
  have hD : va_D A [((rm 0), .inr (3, mf_D rm 0 0 0 0 0)), ((rm 1), .inl (cI, 8, .inl (fun _ => 0))), ((rm 3), .inl (cI, 81, .inl (fun _ => 0))), ((rm 4), .inl (cI, 81, .inl (fun _ => 0))), ((rm 5), .inl (cI, 81, .inl (fun _ => 0))), ((rm 6), .inl (cI, 81, .inl (fun _ => 0))), ((rm 7), .inl (cI, 81, .inl (fun _ => 0))), ((rm 8), .inl (cI, 81, .inl (fun _ => 0))), ((rm 9), .inl (cI, 81, .inl (fun _ => 0))), ((rm 10), .inl (cI, 81, .inl (fun _ => 0))), ((rm 11), .inl (cI, 81, .inl (fun _ => 0))), ((rm 12), .inl (cI, 648, .inl (fun _ => 0))), ((rm 13), .inl (cI, 648, .inl (fun _ => 0))), ((rm 16), .inl (cI, 80, .inl (fun _ => 0))), ((rm 18), .inl (cZ, 81, .inl (fun _ => 0))), (o, .inl (cL, 1, .inr (.inl u9)))] := hD
  have hBH := hB.at hS hA0
  refine W.widen (k := 27) (n := 2516) (by omega) (by omega) ?_
  refine lv_istore (lv' := [(5, .int (mk_M_row0 (xs (1 : Int32).toNatClampNeg) (xs (2 : Int32).toNatClampNeg) (xs (3 : Int32).toNatClampNeg) (xs (4 : Int32).toNatClampNeg) (xs (5 : Int32).toNatClampNeg) (xs (6 : Int32).toNatClampNeg) (xs (7 : Int32).toNatClampNeg))), (4, .int 0), (3, .ref o), (2, .ref (rm 0)), (1, .ref (rx 0)), (0, .ref b)]) hx hb d_L_law_348 hl (by decide) rfl (fun ls hl => ?_)
  refine lv_aload_n hx hb d_L_law_350 rfl (lv_at hl 3 rfl) ?_
  refine lv_aload_n hx hb d_L_law_351 rfl (lv_at hl 5 rfl) ?_
  refine lv_iload hx hb d_L_law_352 (lv_at hl 1 rfl) ?_
  refine lv_iconst (v := 1) hx hb d_L_law_354 (by decide) ?_
  refine lv_iadd hx hb d_L_law_355 ?_
  refine mr_top (y := 1) (by decide) ?_
  refine va_sld hx hb hX hbl hbA hS (i := 1) (by unfold vp_in; decide) d_L_law_356 ?_
  refine lv_aload_n hx hb d_L_law_357 rfl (lv_at hl 5 rfl) ?_
  refine lv_iload hx hb d_L_law_358 (lv_at hl 1 rfl) ?_
  refine lv_iconst (v := 2) hx hb d_L_law_360 (by decide) ?_
  refine lv_iadd hx hb d_L_law_361 ?_
  refine mr_top (y := 2) (by decide) ?_
  refine va_sld hx hb hX hbl hbA hS (i := 2) (by unfold vp_in; decide) d_L_law_362 ?_
  refine lv_aload_n hx hb d_L_law_363 rfl (lv_at hl 5 rfl) ?_
  refine lv_iload hx hb d_L_law_364 (lv_at hl 1 rfl) ?_
  refine lv_iconst (v := 3) hx hb d_L_law_366 (by decide) ?_
  refine lv_iadd hx hb d_L_law_367 ?_
  refine mr_top (y := 3) (by decide) ?_
  refine va_sld hx hb hX hbl hbA hS (i := 3) (by unfold vp_in; decide) d_L_law_368 ?_
  refine lv_aload_n hx hb d_L_law_369 rfl (lv_at hl 5 rfl) ?_
  refine lv_iload hx hb d_L_law_370 (lv_at hl 1 rfl) ?_
  refine lv_iconst (v := 4) hx hb d_L_law_372 (by decide) ?_
  refine lv_iadd hx hb d_L_law_373 ?_
  refine mr_top (y := 4) (by decide) ?_
  refine va_sld hx hb hX hbl hbA hS (i := 4) (by unfold vp_in; decide) d_L_law_374 ?_
  refine lv_aload_n hx hb d_L_law_375 rfl (lv_at hl 5 rfl) ?_
  refine lv_iload hx hb d_L_law_376 (lv_at hl 1 rfl) ?_
  refine lv_iconst (v := 5) hx hb d_L_law_378 (by decide) ?_
  refine lv_iadd hx hb d_L_law_379 ?_
  refine mr_top (y := 5) (by decide) ?_
  refine va_sld hx hb hX hbl hbA hS (i := 5) (by unfold vp_in; decide) d_L_law_380 ?_
  refine lv_aload_n hx hb d_L_law_381 rfl (lv_at hl 5 rfl) ?_
  refine lv_iload hx hb d_L_law_382 (lv_at hl 1 rfl) ?_
  refine lv_bipush (v := 6) hx hb d_L_law_384 (by decide) ?_
  refine lv_iadd hx hb d_L_law_386 ?_
  refine mr_top (y := 6) (by decide) ?_
  refine va_sld hx hb hX hbl hbA hS (i := 6) (by unfold vp_in; decide) d_L_law_387 ?_
  refine lv_aload_n hx hb d_L_law_388 rfl (lv_at hl 5 rfl) ?_
  refine lv_iload hx hb d_L_law_389 (lv_at hl 1 rfl) ?_
  refine lv_bipush (v := 7) hx hb d_L_law_391 (by decide) ?_
  refine lv_iadd hx hb d_L_law_393 ?_
  refine mr_top (y := 7) (by decide) ?_
  refine va_sld hx hb hX hbl hbA hS (i := 7) (by unfold vp_in; decide) d_L_law_394 ?_
  have hPc := hP.sub (ws' := [((rm 0), .inr (3, mf_D rm 0 0 0 0 0)), ((rm 3), .inl (cI, 81, .inl (fun _ => 0))), ((rm 4), .inl (cI, 81, .inl (fun _ => 0))), ((rm 5), .inl (cI, 81, .inl (fun _ => 0))), ((rm 6), .inl (cI, 81, .inl (fun _ => 0))), ((rm 7), .inl (cI, 81, .inl (fun _ => 0))), ((rm 8), .inl (cI, 81, .inl (fun _ => 0))), ((rm 11), .inl (cI, 81, .inl (fun _ => 0))), ((rm 12), .inl (cI, 648, .inl (fun _ => 0))), ((rm 13), .inl (cI, 648, .inl (fun _ => 0)))]) [0, 2, 3, 4, 5, 6, 7, 10, 11, 12] rfl
  have hDc := hD.sub (ws' := [((rm 0), .inr (3, mf_D rm 0 0 0 0 0)), ((rm 3), .inl (cI, 81, .inl (fun _ => 0))), ((rm 4), .inl (cI, 81, .inl (fun _ => 0))), ((rm 5), .inl (cI, 81, .inl (fun _ => 0))), ((rm 6), .inl (cI, 81, .inl (fun _ => 0))), ((rm 7), .inl (cI, 81, .inl (fun _ => 0))), ((rm 8), .inl (cI, 81, .inl (fun _ => 0))), ((rm 11), .inl (cI, 81, .inl (fun _ => 0))), ((rm 12), .inl (cI, 648, .inl (fun _ => 0))), ((rm 13), .inl (cI, 648, .inl (fun _ => 0)))]) [0, 2, 3, 4, 5, 6, 7, 10, 11, 12] (by decide) rfl
  have hFc := va_free (wc := [((rm 0), .inr (3, mf_D rm 0 0 0 0 0)), ((rm 3), .inl (cI, 81, .inl (fun _ => 0))), ((rm 4), .inl (cI, 81, .inl (fun _ => 0))), ((rm 5), .inl (cI, 81, .inl (fun _ => 0))), ((rm 6), .inl (cI, 81, .inl (fun _ => 0))), ((rm 7), .inl (cI, 81, .inl (fun _ => 0))), ((rm 8), .inl (cI, 81, .inl (fun _ => 0))), ((rm 11), .inl (cI, 81, .inl (fun _ => 0))), ((rm 12), .inl (cI, 648, .inl (fun _ => 0))), ((rm 13), .inl (cI, 648, .inl (fun _ => 0)))]) hD hS hA [0, 2, 3, 4, 5, 6, 7, 10, 11, 12] rfl
  refine va_calli (va_runV (As := [.int (xs (1 : Int32).toNatClampNeg), .int (xs (2 : Int32).toNatClampNeg), .int (xs (3 : Int32).toNatClampNeg), .int (xs (4 : Int32).toNatClampNeg), .int (xs (5 : Int32).toNatClampNeg), .int (xs (6 : Int32).toNatClampNeg), .int (xs (7 : Int32).toNatClampNeg)]) (rest := []) (C := R_D) ⟨hx, hb, hml, hown, hts⟩ (mc_D_row l s dC dI cI cR cL cZ rm 0 _ (xs (1 : Int32).toNatClampNeg) (xs (2 : Int32).toNatClampNeg) (xs (3 : Int32).toNatClampNeg) (xs (4 : Int32).toNatClampNeg) (xs (5 : Int32).toNatClampNeg) (xs (6 : Int32).toNatClampNeg) (xs (7 : Int32).toNatClampNeg)) ⟨(mr_cB 7 (hts (Cond.code y_D_row b_D_row 9 (some .int)) mw_302) (hts (Cond.initialized y_D_row.cls) mw_303) (hts (Cond.methodLink "MeasureRowsLaw" 68 y_D_row) mw_304) rfl rfl (by decide +kernel) ⟨Nat.le_of_ble_eq_true rfl, Nat.le_of_ble_eq_true rfl⟩), (hts (Cond.instanceMethod y_D_row) mw_305), (hts (Cond.selects "MeasureRowsModel" y_D_row y_D_row) mw_306)⟩ (mr_preCV hBH hK hPc (hDc.weaken (fun _ _ _ h => hA0 _ h)) (ci := 3) (q0 := 0) rfl rfl) rfl rfl hl.1 rfl (lv_room (Nat.le_of_ble_eq_true rfl)) d_L_law_395 ⟨Nat.le_of_ble_eq_true rfl, Nat.le_of_ble_eq_true rfl⟩) hS (fun q _ h => hFc q h) hFc (fun r_1 u_2 t H1 locs ht hvm hw hB1 hz1 hk1 hS => ?_)
  obtain ⟨rw9, nw9, pb9, lc9, hP1, hK1, hD1⟩ := hB1
  rw [ht] at hP1
  obtain ⟨hP, hD⟩ := va_join (wr := [((rm 1), .inl (cI, 8, .inl (fun _ => 0))), ((rm 9), .inl (cI, 81, .inl (fun _ => 0))), ((rm 10), .inl (cI, 81, .inl (fun _ => 0))), ((rm 16), .inl (cI, 80, .inl (fun _ => 0))), ((rm 18), .inl (cZ, 81, .inl (fun _ => 0))), (o, .inl (cL, 1, .inr (.inl u9)))]) (w1 := [((rm 0), .inr (3, mf_D rm u_2 rw9 nw9 pb9 lc9))]) hP hD [0, 2, 3, 4, 5, 6, 7, 10, 11, 12] [1, 8, 9, 13, 14, 15] rfl rfl (by decide) (by decide) hk1 hFc hP1 hD1
  clear hK1 hk1 hPc hDc hFc
  generalize H1 = H at hP hS ht ⊢
  have hP : va_P (dC, dI) mr_cl [((rm 1), .inl (cI, 8, .inl (fun _ => 0))), ((rm 9), .inl (cI, 81, .inl (fun _ => 0))), ((rm 10), .inl (cI, 81, .inl (fun _ => 0))), ((rm 16), .inl (cI, 80, .inl (fun _ => 0))), ((rm 18), .inl (cZ, 81, .inl (fun _ => 0))), (o, .inl (cL, 1, .inr (.inl u9))), ((rm 0), .inr (3, mf_D rm u_2 rw9 nw9 pb9 lc9))] H := hP
  have hD : va_D A [((rm 1), .inl (cI, 8, .inl (fun _ => 0))), ((rm 9), .inl (cI, 81, .inl (fun _ => 0))), ((rm 10), .inl (cI, 81, .inl (fun _ => 0))), ((rm 16), .inl (cI, 80, .inl (fun _ => 0))), ((rm 18), .inl (cZ, 81, .inl (fun _ => 0))), (o, .inl (cL, 1, .inr (.inl u9))), ((rm 0), .inr (3, mf_D rm u_2 rw9 nw9 pb9 lc9))] := hD
  have hBH := hB.at hS hA0
  obtain ⟨rfl, rfl⟩ := hw
  refine lv_istore (lv' := [(6, .int (mv_D_row0 (xs (1 : Int32).toNatClampNeg) (xs (2 : Int32).toNatClampNeg) (xs (3 : Int32).toNatClampNeg) (xs (4 : Int32).toNatClampNeg) (xs (5 : Int32).toNatClampNeg) (xs (6 : Int32).toNatClampNeg) (xs (7 : Int32).toNatClampNeg))), (5, .int (mk_M_row0 (xs (1 : Int32).toNatClampNeg) (xs (2 : Int32).toNatClampNeg) (xs (3 : Int32).toNatClampNeg) (xs (4 : Int32).toNatClampNeg) (xs (5 : Int32).toNatClampNeg) (xs (6 : Int32).toNatClampNeg) (xs (7 : Int32).toNatClampNeg))), (4, .int 0), (3, .ref o), (2, .ref (rm 0)), (1, .ref (rx 0)), (0, .ref b)]) hx hb d_L_law_398 hl (by decide) rfl (fun ls hl => ?_)
  refine lv_aload_n hx hb d_L_law_400 rfl (lv_at hl 4 rfl) ?_
  refine vp_callSi (va_Run.run (va_runV (As := []) (rest := []) (C := R_D) ⟨hx, hb, hml, hown, hts⟩ (mc_D_thrown l s dC dI cI cR cL cZ rm (mt_D_row0 (xs (1 : Int32).toNatClampNeg) (xs (2 : Int32).toNatClampNeg) (xs (3 : Int32).toNatClampNeg) (xs (4 : Int32).toNatClampNeg) (xs (5 : Int32).toNatClampNeg) (xs (6 : Int32).toNatClampNeg) (xs (7 : Int32).toNatClampNeg)) rw9 nw9 pb9 lc9) ⟨(mr_cB 0 (hts (Cond.code y_D_thrown b_D_thrown 1 (some .int)) mw_284) (hts (Cond.initialized y_D_thrown.cls) mw_285) (hts (Cond.methodLink "MeasureRowsLaw" 58 y_D_thrown) mw_286) rfl rfl (by decide +kernel) ⟨Nat.le_of_ble_eq_true rfl, Nat.le_of_ble_eq_true rfl⟩), (hts (Cond.instanceMethod y_D_thrown) mw_287), (hts (Cond.selects "MeasureRowsModel" y_D_thrown y_D_thrown) mw_288)⟩ (mr_preV hBH hK (hP.sub (ws' := [((rm 0), .inr (3, mf_D rm (mt_D_row0 (xs (1 : Int32).toNatClampNeg) (xs (2 : Int32).toNatClampNeg) (xs (3 : Int32).toNatClampNeg) (xs (4 : Int32).toNatClampNeg) (xs (5 : Int32).toNatClampNeg) (xs (6 : Int32).toNatClampNeg) (xs (7 : Int32).toNatClampNeg)) rw9 nw9 pb9 lc9))]) [6] rfl) (ci := 3) (q0 := 0) rfl rfl) rfl rfl hl.1 rfl (lv_room (Nat.le_of_ble_eq_true rfl)) d_L_law_401 ⟨Nat.le_of_ble_eq_true rfl, Nat.le_of_ble_eq_true rfl⟩)) (fun r_3 h_4 => ?_)
  subst h_4
  refine mr_top (y := mt_D_row0 (xs (1 : Int32).toNatClampNeg) (xs (2 : Int32).toNatClampNeg) (xs (3 : Int32).toNatClampNeg) (xs (4 : Int32).toNatClampNeg) (xs (5 : Int32).toNatClampNeg) (xs (6 : Int32).toNatClampNeg) (xs (7 : Int32).toNatClampNeg)) rfl ?_
  refine lv_iload hx hb d_L_law_404 (lv_at hl 1 rfl) ?_
  refine lv_icmp_eq (tgt := 411) hx hb d_L_law_406 (by decide) (fun _ => ?_) (fun c_5 => absurd (vk_row (xs (1 : Int32).toNatClampNeg) (xs (2 : Int32).toNatClampNeg) (xs (3 : Int32).toNatClampNeg) (xs (4 : Int32).toNatClampNeg) (xs (5 : Int32).toNatClampNeg) (xs (6 : Int32).toNatClampNeg) (xs (7 : Int32).toNatClampNeg)) c_5)
  refine lv_iload hx hb d_L_law_411 (lv_at hl 1 rfl) ?_
  refine lv_if_ne (tgt := 428) hx hb d_L_law_413 (by decide) (fun c_6 => ?_) (fun c_6 => ?_)
  · refine lv_goto (tgt := 978) hx hb d_L_law_428 (by decide) ?_
    refine lv_iinc (v := 8) (lv' := [(4, .int 8), (6, .int (mv_D_row0 (xs (1 : Int32).toNatClampNeg) (xs (2 : Int32).toNatClampNeg) (xs (3 : Int32).toNatClampNeg) (xs (4 : Int32).toNatClampNeg) (xs (5 : Int32).toNatClampNeg) (xs (6 : Int32).toNatClampNeg) (xs (7 : Int32).toNatClampNeg))), (5, .int (mk_M_row0 (xs (1 : Int32).toNatClampNeg) (xs (2 : Int32).toNatClampNeg) (xs (3 : Int32).toNatClampNeg) (xs (4 : Int32).toNatClampNeg) (xs (5 : Int32).toNatClampNeg) (xs (6 : Int32).toNatClampNeg) (xs (7 : Int32).toNatClampNeg))), (3, .ref o), (2, .ref (rm 0)), (1, .ref (rx 0)), (0, .ref b)]) hx hb d_L_law_978 hl (k := 2) rfl (by decide) (by decide) rfl (fun ls hl => ?_)
    refine lv_goto (tgt := 23) hx hb d_L_law_981 (by decide) ?_
    refine lv_iload hx hb d_L_law_23 (lv_at hl 0 rfl) ?_
    refine lv_aload_n hx hb d_L_law_25 rfl (lv_at hl 6 rfl) ?_
    refine va_slen hx hb hX hbl hbA hS d_L_law_26 ?_
    refine mr_top (y := 8) (by decide) ?_
    refine lv_bipush (v := 8) hx hb d_L_law_27 (by decide) ?_
    refine lv_isub hx hb d_L_law_29 ?_
    refine mr_top (y := 0) (by decide) ?_
    refine lv_icmp_gt (tgt := 984) hx hb d_L_law_30 (by decide) (fun _ => ?_) (fun c_7 => absurd c_7 (by decide))
    refine lv_iconst (v := 1) hx hb d_L_law_984 (by decide) ?_
    refine va_forget (fun q hq => hA0 _ (hS.2.2 q hq)) ?_
    refine W.widen (k := 600002) (n := 7302231) (by omega) (by omega) ?_
    exact lw_ret hx hb hr hlocks d_L_law_985
  · refine lv_aload_n hx hb d_L_law_416 rfl (lv_at hl 3 rfl) ?_
    refine lv_iconst (v := 0) hx hb d_L_law_417 (by decide) ?_
    refine va_lald (D := (dC, dI)) hx hb hK hP 5 2 rfl rfl (i := 0) (by unfold vp_in; decide) d_L_law_418 ?_
    refine mr_topv (show Value.long (u9 (0 : Int32).toNatClampNeg) = .long ((1 : Int32).toInt64) from congrArg Value.long (hu9 c_6)) ?_
    refine lv_iload hx hb d_L_law_419 (lv_at hl 0 rfl) ?_
    refine lv_i2l (v := (mv_D_row0 (xs (1 : Int32).toNatClampNeg) (xs (2 : Int32).toNatClampNeg) (xs (3 : Int32).toNatClampNeg) (xs (4 : Int32).toNatClampNeg) (xs (5 : Int32).toNatClampNeg) (xs (6 : Int32).toNatClampNeg) (xs (7 : Int32).toNatClampNeg)).toInt64) hx hb d_L_law_421 rfl ?_
    refine W.lcmp hx hb d_L_law_422 ?_
    refine lv_if_eq (tgt := 428) hx hb d_L_law_423 (by decide) (fun _ => ?_) (fun c_8 => absurd (v_li (v_row (xs (1 : Int32).toNatClampNeg) (xs (2 : Int32).toNatClampNeg) (xs (3 : Int32).toNatClampNeg) (xs (4 : Int32).toNatClampNeg) (xs (5 : Int32).toNatClampNeg) (xs (6 : Int32).toNatClampNeg) (xs (7 : Int32).toNatClampNeg) c_6)) c_8)
    refine lv_goto (tgt := 978) hx hb d_L_law_428 (by decide) ?_
    refine lv_iinc (v := 8) (lv' := [(4, .int 8), (6, .int (mv_D_row0 (xs (1 : Int32).toNatClampNeg) (xs (2 : Int32).toNatClampNeg) (xs (3 : Int32).toNatClampNeg) (xs (4 : Int32).toNatClampNeg) (xs (5 : Int32).toNatClampNeg) (xs (6 : Int32).toNatClampNeg) (xs (7 : Int32).toNatClampNeg))), (5, .int (mk_M_row0 (xs (1 : Int32).toNatClampNeg) (xs (2 : Int32).toNatClampNeg) (xs (3 : Int32).toNatClampNeg) (xs (4 : Int32).toNatClampNeg) (xs (5 : Int32).toNatClampNeg) (xs (6 : Int32).toNatClampNeg) (xs (7 : Int32).toNatClampNeg))), (3, .ref o), (2, .ref (rm 0)), (1, .ref (rx 0)), (0, .ref b)]) hx hb d_L_law_978 hl (k := 2) rfl (by decide) (by decide) rfl (fun ls hl => ?_)
    refine lv_goto (tgt := 23) hx hb d_L_law_981 (by decide) ?_
    refine lv_iload hx hb d_L_law_23 (lv_at hl 0 rfl) ?_
    refine lv_aload_n hx hb d_L_law_25 rfl (lv_at hl 6 rfl) ?_
    refine va_slen hx hb hX hbl hbA hS d_L_law_26 ?_
    refine mr_top (y := 8) (by decide) ?_
    refine lv_bipush (v := 8) hx hb d_L_law_27 (by decide) ?_
    refine lv_isub hx hb d_L_law_29 ?_
    refine mr_top (y := 0) (by decide) ?_
    refine lv_icmp_gt (tgt := 984) hx hb d_L_law_30 (by decide) (fun _ => ?_) (fun c_9 => absurd c_9 (by decide))
    refine lv_iconst (v := 1) hx hb d_L_law_984 (by decide) ?_
    refine va_forget (fun q hq => hA0 _ (hS.2.2 q hq)) ?_
    refine W.widen (k := 600002) (n := 7302231) (by omega) (by omega) ?_
    exact lw_ret hx hb hr hlocks d_L_law_985
set_option maxHeartbeats 4000000 in
set_option maxRecDepth 100000 in
theorem law_4 {p : Program} {l : Launch} {e : Env} {s : State} {m : MethodId} {below : List Frame} {meth : Method} {c : Code} {b : Nat} {xs : Nat → Int32} {dC : Nat → ClassId} {dI : Nat → Nat → Nat} {cI cR cL cZ : ClassId} {rx rm : Nat → Nat} {o : Nat} {fo : Nat → Int64} {A : Nat → Prop} {H : Heap} {locs : List Loc} {ls : Array Slot} (hlt : l.stackTraces = false) (C0 : lw_At p s m meth c b 8 xs) (hB : mr_B s s) (hA : ∀ q : Nat, s.heap.size ≤ q → A q) (hA0 : ∀ q : Nat, A q → s.heap.size ≤ q) (hK : va_K (dC, dI) mr_cl [(cI, .int), (cR, .object "MeasureRows$Row"), (cL, .long), (cZ, .boolean)] s) (hP : va_P (dC, dI) mr_cl [((rx 0), .inr (0, mf_M rx (nI 0) 0 0 0)), ((rx 1), .inr (1, [.ref (rx 2), .ref (rx 3)])), ((rx 2), .inl (cI, 8, .inl (fun _ => 0))), ((rx 3), .inl (cI, 8, .inl (fun _ => 0))), ((rx 4), .inl (cR, 80, .inr (.inr (.inr (.inr (fun _ => none)))))), ((rx 5), .inl (cI, 80, .inl (fun _ => 0))), ((rx 6), .inl (cI, 80, .inl (fun _ => 0))), ((rx 7), .inl (cI, 8, .inl (fun _ => 0))), ((rm 0), .inr (3, mf_D rm 0 0 0 0 0)), ((rm 1), .inl (cI, 8, .inl (fun _ => 0))), ((rm 3), .inl (cI, 81, .inl (fun _ => 0))), ((rm 4), .inl (cI, 81, .inl (fun _ => 0))), ((rm 5), .inl (cI, 81, .inl (fun _ => 0))), ((rm 6), .inl (cI, 81, .inl (fun _ => 0))), ((rm 7), .inl (cI, 81, .inl (fun _ => 0))), ((rm 8), .inl (cI, 81, .inl (fun _ => 0))), ((rm 9), .inl (cI, 81, .inl (fun _ => 0))), ((rm 10), .inl (cI, 81, .inl (fun _ => 0))), ((rm 11), .inl (cI, 81, .inl (fun _ => 0))), ((rm 12), .inl (cI, 648, .inl (fun _ => 0))), ((rm 13), .inl (cI, 648, .inl (fun _ => 0))), ((rm 16), .inl (cI, 80, .inl (fun _ => 0))), ((rm 18), .inl (cZ, 81, .inl (fun _ => 0))), (o, .inl (cL, 1, .inr (.inl fo)))] H) (hD : va_D A [((rx 0), .inr (0, mf_M rx (nI 0) 0 0 0)), ((rx 1), .inr (1, [.ref (rx 2), .ref (rx 3)])), ((rx 2), .inl (cI, 8, .inl (fun _ => 0))), ((rx 3), .inl (cI, 8, .inl (fun _ => 0))), ((rx 4), .inl (cR, 80, .inr (.inr (.inr (.inr (fun _ => none)))))), ((rx 5), .inl (cI, 80, .inl (fun _ => 0))), ((rx 6), .inl (cI, 80, .inl (fun _ => 0))), ((rx 7), .inl (cI, 8, .inl (fun _ => 0))), ((rm 0), .inr (3, mf_D rm 0 0 0 0 0)), ((rm 1), .inl (cI, 8, .inl (fun _ => 0))), ((rm 3), .inl (cI, 81, .inl (fun _ => 0))), ((rm 4), .inl (cI, 81, .inl (fun _ => 0))), ((rm 5), .inl (cI, 81, .inl (fun _ => 0))), ((rm 6), .inl (cI, 81, .inl (fun _ => 0))), ((rm 7), .inl (cI, 81, .inl (fun _ => 0))), ((rm 8), .inl (cI, 81, .inl (fun _ => 0))), ((rm 9), .inl (cI, 81, .inl (fun _ => 0))), ((rm 10), .inl (cI, 81, .inl (fun _ => 0))), ((rm 11), .inl (cI, 81, .inl (fun _ => 0))), ((rm 12), .inl (cI, 648, .inl (fun _ => 0))), ((rm 13), .inl (cI, 648, .inl (fun _ => 0))), ((rm 16), .inl (cI, 80, .inl (fun _ => 0))), ((rm 18), .inl (cZ, 81, .inl (fun _ => 0))), (o, .inl (cL, 1, .inr (.inl fo)))]) (hS : va_S A s.heap H locs) (hl : lv_has ls 7 [(4, .int 0), (3, .ref o), (2, .ref (rm 0)), (1, .ref (rx 0)), (0, .ref b)]) : W p l e room_1 s m #[Value.ref b] below meth c H locs 24 2489 (lw_Z below #[Value.ref b] s) (F0 m 431 ls []) := by
  obtain ⟨hx, hb, hr, hml, hown, hts, hX, hbl, hlocks, hgv⟩ := C0
  have hbA : ¬ A b := fun h => absurd (hA0 b h) (Nat.not_le.mpr hbl)
  have hBH := hB.at hS hA0
  refine lv_aload_n hx hb d_L_law_431 rfl (lv_at hl 3 rfl) ?_
  refine lv_aload_n hx hb d_L_law_432 rfl (lv_at hl 4 rfl) ?_
  refine lv_iload hx hb d_L_law_433 (lv_at hl 0 rfl) ?_
  refine lv_iconst (v := 1) hx hb d_L_law_435 (by decide) ?_
  refine lv_iadd hx hb d_L_law_436 ?_
  refine mr_top (y := 1) (by decide) ?_
  refine va_sld hx hb hX hbl hbA hS (i := 1) (by unfold vp_in; decide) d_L_law_437 ?_
  refine lv_aload_n hx hb d_L_law_438 rfl (lv_at hl 4 rfl) ?_
  refine lv_iload hx hb d_L_law_439 (lv_at hl 0 rfl) ?_
  refine lv_iconst (v := 2) hx hb d_L_law_441 (by decide) ?_
  refine lv_iadd hx hb d_L_law_442 ?_
  refine mr_top (y := 2) (by decide) ?_
  refine va_sld hx hb hX hbl hbA hS (i := 2) (by unfold vp_in; decide) d_L_law_443 ?_
  refine vp_callSi (va_Run.run (va_runV (As := [.int (xs (1 : Int32).toNatClampNeg), .int (xs (2 : Int32).toNatClampNeg)]) (rest := []) (C := R_M) ⟨hx, hb, hml, hown, hts⟩ (mc_M_exclude l s dC dI cI cR cL cZ rx (xs (1 : Int32).toNatClampNeg) (xs (2 : Int32).toNatClampNeg)) ⟨(mr_cB 2 (hts (Cond.code y_M_exclude b_M_exclude 4 (some .boolean)) mw_307) (hts (Cond.initialized y_M_exclude.cls) mw_308) (hts (Cond.methodLink "MeasureRowsLaw" 69 y_M_exclude) mw_309) rfl rfl (by decide +kernel) ⟨Nat.le_of_ble_eq_true rfl, Nat.le_of_ble_eq_true rfl⟩), (hts (Cond.instanceMethod y_M_exclude) mw_310), (hts (Cond.selects "MeasureRows" y_M_exclude y_M_exclude) mw_311)⟩ (mr_preV hBH hK (hP.sub (ws' := [((rx 0), .inr (0, mf_M rx (nI 0) 0 0 0)), ((rx 1), .inr (1, [.ref (rx 2), .ref (rx 3)])), ((rx 2), .inl (cI, 8, .inl (fun _ => 0))), ((rx 3), .inl (cI, 8, .inl (fun _ => 0))), ((rx 4), .inl (cR, 80, .inr (.inr (.inr (.inr (fun _ => none)))))), ((rx 5), .inl (cI, 80, .inl (fun _ => 0))), ((rx 6), .inl (cI, 80, .inl (fun _ => 0))), ((rx 7), .inl (cI, 8, .inl (fun _ => 0)))]) [0, 1, 2, 3, 4, 5, 6, 7] rfl) (ci := 0) (q0 := 0) rfl rfl) rfl rfl hl.1 rfl (lv_room (Nat.le_of_ble_eq_true rfl)) d_L_law_444 ⟨Nat.le_of_ble_eq_true rfl, Nat.le_of_ble_eq_true rfl⟩)) (fun r_1 h_2 => ?_)
  subst h_2
  refine lv_aload_n hx hb d_L_law_447 rfl (lv_at hl 2 rfl) ?_
  refine lv_aload_n hx hb d_L_law_448 rfl (lv_at hl 4 rfl) ?_
  refine lv_iload hx hb d_L_law_449 (lv_at hl 0 rfl) ?_
  refine lv_iconst (v := 1) hx hb d_L_law_451 (by decide) ?_
  refine lv_iadd hx hb d_L_law_452 ?_
  refine mr_top (y := 1) (by decide) ?_
  refine va_sld hx hb hX hbl hbA hS (i := 1) (by unfold vp_in; decide) d_L_law_453 ?_
  refine lv_aload_n hx hb d_L_law_454 rfl (lv_at hl 4 rfl) ?_
  refine lv_iload hx hb d_L_law_455 (lv_at hl 0 rfl) ?_
  refine lv_iconst (v := 2) hx hb d_L_law_457 (by decide) ?_
  refine lv_iadd hx hb d_L_law_458 ?_
  refine mr_top (y := 2) (by decide) ?_
  refine va_sld hx hb hX hbl hbA hS (i := 2) (by unfold vp_in; decide) d_L_law_459 ?_
  have hPc := hP.sub (ws' := [((rm 0), .inr (3, mf_D rm 0 0 0 0 0))]) [8] rfl
  have hDc := hD.sub (ws' := [((rm 0), .inr (3, mf_D rm 0 0 0 0 0))]) [8] (by decide) rfl
  have hFc := va_free (wc := [((rm 0), .inr (3, mf_D rm 0 0 0 0 0))]) hD hS hA [8] rfl
  refine va_calli (va_runV (As := [.int (xs (1 : Int32).toNatClampNeg), .int (xs (2 : Int32).toNatClampNeg)]) (rest := [.int (mv_M_exclude  (xs (1 : Int32).toNatClampNeg) (xs (2 : Int32).toNatClampNeg))]) (C := R_D) ⟨hx, hb, hml, hown, hts⟩ (mc_D_exclude l s dC dI cI cR cL cZ rm 0 _ (xs (1 : Int32).toNatClampNeg) (xs (2 : Int32).toNatClampNeg)) ⟨(mr_cB 2 (hts (Cond.code y_D_exclude b_D_exclude 3 (some .boolean)) mw_312) (hts (Cond.initialized y_D_exclude.cls) mw_313) (hts (Cond.methodLink "MeasureRowsLaw" 72 y_D_exclude) mw_314) rfl rfl (by decide +kernel) ⟨Nat.le_of_ble_eq_true rfl, Nat.le_of_ble_eq_true rfl⟩), (hts (Cond.instanceMethod y_D_exclude) mw_315), (hts (Cond.selects "MeasureRowsModel" y_D_exclude y_D_exclude) mw_316)⟩ (mr_preCV hBH hK hPc (hDc.weaken (fun _ _ _ h => hA0 _ h)) (ci := 3) (q0 := 0) rfl rfl) rfl rfl hl.1 rfl (lv_room (Nat.le_of_ble_eq_true rfl)) d_L_law_460 ⟨Nat.le_of_ble_eq_true rfl, Nat.le_of_ble_eq_true rfl⟩) hS (fun q _ h => hFc q h) hFc (fun r_3 u_4 t H1 locs ht hvm hw hB1 hz1 hk1 hS => ?_)
  obtain ⟨rw9, nw9, pb9, lc9, hP1, hK1, hD1⟩ := hB1
  rw [ht] at hP1
  obtain ⟨hP, hD⟩ := va_join (wr := [((rx 0), .inr (0, mf_M rx (nI 0) 0 0 0)), ((rx 1), .inr (1, [.ref (rx 2), .ref (rx 3)])), ((rx 2), .inl (cI, 8, .inl (fun _ => 0))), ((rx 3), .inl (cI, 8, .inl (fun _ => 0))), ((rx 4), .inl (cR, 80, .inr (.inr (.inr (.inr (fun _ => none)))))), ((rx 5), .inl (cI, 80, .inl (fun _ => 0))), ((rx 6), .inl (cI, 80, .inl (fun _ => 0))), ((rx 7), .inl (cI, 8, .inl (fun _ => 0))), ((rm 1), .inl (cI, 8, .inl (fun _ => 0))), ((rm 3), .inl (cI, 81, .inl (fun _ => 0))), ((rm 4), .inl (cI, 81, .inl (fun _ => 0))), ((rm 5), .inl (cI, 81, .inl (fun _ => 0))), ((rm 6), .inl (cI, 81, .inl (fun _ => 0))), ((rm 7), .inl (cI, 81, .inl (fun _ => 0))), ((rm 8), .inl (cI, 81, .inl (fun _ => 0))), ((rm 9), .inl (cI, 81, .inl (fun _ => 0))), ((rm 10), .inl (cI, 81, .inl (fun _ => 0))), ((rm 11), .inl (cI, 81, .inl (fun _ => 0))), ((rm 12), .inl (cI, 648, .inl (fun _ => 0))), ((rm 13), .inl (cI, 648, .inl (fun _ => 0))), ((rm 16), .inl (cI, 80, .inl (fun _ => 0))), ((rm 18), .inl (cZ, 81, .inl (fun _ => 0))), (o, .inl (cL, 1, .inr (.inl fo)))]) (w1 := [((rm 0), .inr (3, mf_D rm u_4 rw9 nw9 pb9 lc9))]) hP hD [8] [0, 1, 2, 3, 4, 5, 6, 7, 9, 10, 11, 12, 13, 14, 15, 16, 17, 18, 19, 20, 21, 22, 23] rfl rfl (by decide) (by decide) hk1 hFc hP1 hD1
  clear hK1 hk1 hPc hDc hFc
  generalize H1 = H at hP hS ht ⊢
  have hP : va_P (dC, dI) mr_cl [((rx 0), .inr (0, mf_M rx (nI 0) 0 0 0)), ((rx 1), .inr (1, [.ref (rx 2), .ref (rx 3)])), ((rx 2), .inl (cI, 8, .inl (fun _ => 0))), ((rx 3), .inl (cI, 8, .inl (fun _ => 0))), ((rx 4), .inl (cR, 80, .inr (.inr (.inr (.inr (fun _ => none)))))), ((rx 5), .inl (cI, 80, .inl (fun _ => 0))), ((rx 6), .inl (cI, 80, .inl (fun _ => 0))), ((rx 7), .inl (cI, 8, .inl (fun _ => 0))), ((rm 1), .inl (cI, 8, .inl (fun _ => 0))), ((rm 3), .inl (cI, 81, .inl (fun _ => 0))), ((rm 4), .inl (cI, 81, .inl (fun _ => 0))), ((rm 5), .inl (cI, 81, .inl (fun _ => 0))), ((rm 6), .inl (cI, 81, .inl (fun _ => 0))), ((rm 7), .inl (cI, 81, .inl (fun _ => 0))), ((rm 8), .inl (cI, 81, .inl (fun _ => 0))), ((rm 9), .inl (cI, 81, .inl (fun _ => 0))), ((rm 10), .inl (cI, 81, .inl (fun _ => 0))), ((rm 11), .inl (cI, 81, .inl (fun _ => 0))), ((rm 12), .inl (cI, 648, .inl (fun _ => 0))), ((rm 13), .inl (cI, 648, .inl (fun _ => 0))), ((rm 16), .inl (cI, 80, .inl (fun _ => 0))), ((rm 18), .inl (cZ, 81, .inl (fun _ => 0))), (o, .inl (cL, 1, .inr (.inl fo))), ((rm 0), .inr (3, mf_D rm u_4 rw9 nw9 pb9 lc9))] H := hP
  have hD : va_D A [((rx 0), .inr (0, mf_M rx (nI 0) 0 0 0)), ((rx 1), .inr (1, [.ref (rx 2), .ref (rx 3)])), ((rx 2), .inl (cI, 8, .inl (fun _ => 0))), ((rx 3), .inl (cI, 8, .inl (fun _ => 0))), ((rx 4), .inl (cR, 80, .inr (.inr (.inr (.inr (fun _ => none)))))), ((rx 5), .inl (cI, 80, .inl (fun _ => 0))), ((rx 6), .inl (cI, 80, .inl (fun _ => 0))), ((rx 7), .inl (cI, 8, .inl (fun _ => 0))), ((rm 1), .inl (cI, 8, .inl (fun _ => 0))), ((rm 3), .inl (cI, 81, .inl (fun _ => 0))), ((rm 4), .inl (cI, 81, .inl (fun _ => 0))), ((rm 5), .inl (cI, 81, .inl (fun _ => 0))), ((rm 6), .inl (cI, 81, .inl (fun _ => 0))), ((rm 7), .inl (cI, 81, .inl (fun _ => 0))), ((rm 8), .inl (cI, 81, .inl (fun _ => 0))), ((rm 9), .inl (cI, 81, .inl (fun _ => 0))), ((rm 10), .inl (cI, 81, .inl (fun _ => 0))), ((rm 11), .inl (cI, 81, .inl (fun _ => 0))), ((rm 12), .inl (cI, 648, .inl (fun _ => 0))), ((rm 13), .inl (cI, 648, .inl (fun _ => 0))), ((rm 16), .inl (cI, 80, .inl (fun _ => 0))), ((rm 18), .inl (cZ, 81, .inl (fun _ => 0))), (o, .inl (cL, 1, .inr (.inl fo))), ((rm 0), .inr (3, mf_D rm u_4 rw9 nw9 pb9 lc9))] := hD
  have hBH := hB.at hS hA0
  obtain ⟨rfl, rfl⟩ := hw
  refine lv_icmp_eq (tgt := 978) hx hb d_L_law_463 (by decide) (fun _ => ?_) (fun c_5 => absurd (v_exclude (xs (1 : Int32).toNatClampNeg) (xs (2 : Int32).toNatClampNeg)) c_5)
  refine lv_iinc (v := 8) (lv' := [(4, .int 8), (3, .ref o), (2, .ref (rm 0)), (1, .ref (rx 0)), (0, .ref b)]) hx hb d_L_law_978 hl (k := 0) rfl (by decide) (by decide) rfl (fun ls hl => ?_)
  refine lv_goto (tgt := 23) hx hb d_L_law_981 (by decide) ?_
  refine lv_iload hx hb d_L_law_23 (lv_at hl 0 rfl) ?_
  refine lv_aload_n hx hb d_L_law_25 rfl (lv_at hl 4 rfl) ?_
  refine va_slen hx hb hX hbl hbA hS d_L_law_26 ?_
  refine mr_top (y := 8) (by decide) ?_
  refine lv_bipush (v := 8) hx hb d_L_law_27 (by decide) ?_
  refine lv_isub hx hb d_L_law_29 ?_
  refine mr_top (y := 0) (by decide) ?_
  refine lv_icmp_gt (tgt := 984) hx hb d_L_law_30 (by decide) (fun _ => ?_) (fun c_6 => absurd c_6 (by decide))
  refine lv_iconst (v := 1) hx hb d_L_law_984 (by decide) ?_
  refine va_forget (fun q hq => hA0 _ (hS.2.2 q hq)) ?_
  refine W.widen (k := 600002) (n := 7302231) (by omega) (by omega) ?_
  exact lw_ret hx hb hr hlocks d_L_law_985
set_option maxHeartbeats 4000000 in
set_option maxRecDepth 100000 in
theorem law_5 {p : Program} {l : Launch} {e : Env} {s : State} {m : MethodId} {below : List Frame} {meth : Method} {c : Code} {b : Nat} {xs : Nat → Int32} {dC : Nat → ClassId} {dI : Nat → Nat → Nat} {cI cR cL cZ : ClassId} {rx rm : Nat → Nat} {o : Nat} {fo : Nat → Int64} {A : Nat → Prop} {H : Heap} {locs : List Loc} {ls : Array Slot} (hlt : l.stackTraces = false) (C0 : lw_At p s m meth c b 8 xs) (hB : mr_B s s) (hA : ∀ q : Nat, s.heap.size ≤ q → A q) (hA0 : ∀ q : Nat, A q → s.heap.size ≤ q) (hK : va_K (dC, dI) mr_cl [(cI, .int), (cR, .object "MeasureRows$Row"), (cL, .long), (cZ, .boolean)] s) (hP : va_P (dC, dI) mr_cl [((rx 0), .inr (0, mf_M rx (nI 0) 0 0 0)), ((rx 1), .inr (1, [.ref (rx 2), .ref (rx 3)])), ((rx 2), .inl (cI, 8, .inl (fun _ => 0))), ((rx 3), .inl (cI, 8, .inl (fun _ => 0))), ((rx 4), .inl (cR, 80, .inr (.inr (.inr (.inr (fun _ => none)))))), ((rx 5), .inl (cI, 80, .inl (fun _ => 0))), ((rx 6), .inl (cI, 80, .inl (fun _ => 0))), ((rx 7), .inl (cI, 8, .inl (fun _ => 0))), ((rm 0), .inr (3, mf_D rm 0 0 0 0 0)), ((rm 1), .inl (cI, 8, .inl (fun _ => 0))), ((rm 3), .inl (cI, 81, .inl (fun _ => 0))), ((rm 4), .inl (cI, 81, .inl (fun _ => 0))), ((rm 5), .inl (cI, 81, .inl (fun _ => 0))), ((rm 6), .inl (cI, 81, .inl (fun _ => 0))), ((rm 7), .inl (cI, 81, .inl (fun _ => 0))), ((rm 8), .inl (cI, 81, .inl (fun _ => 0))), ((rm 9), .inl (cI, 81, .inl (fun _ => 0))), ((rm 10), .inl (cI, 81, .inl (fun _ => 0))), ((rm 11), .inl (cI, 81, .inl (fun _ => 0))), ((rm 12), .inl (cI, 648, .inl (fun _ => 0))), ((rm 13), .inl (cI, 648, .inl (fun _ => 0))), ((rm 16), .inl (cI, 80, .inl (fun _ => 0))), ((rm 18), .inl (cZ, 81, .inl (fun _ => 0))), (o, .inl (cL, 1, .inr (.inl fo)))] H) (hD : va_D A [((rx 0), .inr (0, mf_M rx (nI 0) 0 0 0)), ((rx 1), .inr (1, [.ref (rx 2), .ref (rx 3)])), ((rx 2), .inl (cI, 8, .inl (fun _ => 0))), ((rx 3), .inl (cI, 8, .inl (fun _ => 0))), ((rx 4), .inl (cR, 80, .inr (.inr (.inr (.inr (fun _ => none)))))), ((rx 5), .inl (cI, 80, .inl (fun _ => 0))), ((rx 6), .inl (cI, 80, .inl (fun _ => 0))), ((rx 7), .inl (cI, 8, .inl (fun _ => 0))), ((rm 0), .inr (3, mf_D rm 0 0 0 0 0)), ((rm 1), .inl (cI, 8, .inl (fun _ => 0))), ((rm 3), .inl (cI, 81, .inl (fun _ => 0))), ((rm 4), .inl (cI, 81, .inl (fun _ => 0))), ((rm 5), .inl (cI, 81, .inl (fun _ => 0))), ((rm 6), .inl (cI, 81, .inl (fun _ => 0))), ((rm 7), .inl (cI, 81, .inl (fun _ => 0))), ((rm 8), .inl (cI, 81, .inl (fun _ => 0))), ((rm 9), .inl (cI, 81, .inl (fun _ => 0))), ((rm 10), .inl (cI, 81, .inl (fun _ => 0))), ((rm 11), .inl (cI, 81, .inl (fun _ => 0))), ((rm 12), .inl (cI, 648, .inl (fun _ => 0))), ((rm 13), .inl (cI, 648, .inl (fun _ => 0))), ((rm 16), .inl (cI, 80, .inl (fun _ => 0))), ((rm 18), .inl (cZ, 81, .inl (fun _ => 0))), (o, .inl (cL, 1, .inr (.inl fo)))]) (hS : va_S A s.heap H locs) (hl : lv_has ls 7 [(4, .int 0), (3, .ref o), (2, .ref (rm 0)), (1, .ref (rx 0)), (0, .ref b)]) : W p l e room_1 s m #[Value.ref b] below meth c H locs 24 2489 (lw_Z below #[Value.ref b] s) (F0 m 468 ls []) := by
  obtain ⟨hx, hb, hr, hml, hown, hts, hX, hbl, hlocks, hgv⟩ := C0
  have hbA : ¬ A b := fun h => absurd (hA0 b h) (Nat.not_le.mpr hbl)
  have hBH := hB.at hS hA0
  refine lv_aload_n hx hb d_L_law_468 rfl (lv_at hl 3 rfl) ?_
  refine lv_aload_n hx hb d_L_law_469 rfl (lv_at hl 4 rfl) ?_
  refine lv_iload hx hb d_L_law_470 (lv_at hl 0 rfl) ?_
  refine lv_iconst (v := 1) hx hb d_L_law_472 (by decide) ?_
  refine lv_iadd hx hb d_L_law_473 ?_
  refine mr_top (y := 1) (by decide) ?_
  refine va_sld hx hb hX hbl hbA hS (i := 1) (by unfold vp_in; decide) d_L_law_474 ?_
  refine lv_aload_n hx hb d_L_law_475 rfl (lv_at hl 4 rfl) ?_
  refine lv_iload hx hb d_L_law_476 (lv_at hl 0 rfl) ?_
  refine lv_iconst (v := 2) hx hb d_L_law_478 (by decide) ?_
  refine lv_iadd hx hb d_L_law_479 ?_
  refine mr_top (y := 2) (by decide) ?_
  refine va_sld hx hb hX hbl hbA hS (i := 2) (by unfold vp_in; decide) d_L_law_480 ?_
  refine vp_callSi (va_Run.run (va_runV (As := [.int (xs (1 : Int32).toNatClampNeg), .int (xs (2 : Int32).toNatClampNeg)]) (rest := []) (C := R_M) ⟨hx, hb, hml, hown, hts⟩ (mc_M_condition l s dC dI cI cR cL cZ rx (xs (1 : Int32).toNatClampNeg) (xs (2 : Int32).toNatClampNeg)) ⟨(mr_cB 2 (hts (Cond.code y_M_condition b_M_condition 4 (some .boolean)) mw_317) (hts (Cond.initialized y_M_condition.cls) mw_318) (hts (Cond.methodLink "MeasureRowsLaw" 73 y_M_condition) mw_319) rfl rfl (by decide +kernel) ⟨Nat.le_of_ble_eq_true rfl, Nat.le_of_ble_eq_true rfl⟩), (hts (Cond.instanceMethod y_M_condition) mw_320), (hts (Cond.selects "MeasureRows" y_M_condition y_M_condition) mw_321)⟩ (mr_preV hBH hK (hP.sub (ws' := [((rx 0), .inr (0, mf_M rx (nI 0) 0 0 0)), ((rx 1), .inr (1, [.ref (rx 2), .ref (rx 3)])), ((rx 2), .inl (cI, 8, .inl (fun _ => 0))), ((rx 3), .inl (cI, 8, .inl (fun _ => 0))), ((rx 4), .inl (cR, 80, .inr (.inr (.inr (.inr (fun _ => none)))))), ((rx 5), .inl (cI, 80, .inl (fun _ => 0))), ((rx 6), .inl (cI, 80, .inl (fun _ => 0))), ((rx 7), .inl (cI, 8, .inl (fun _ => 0)))]) [0, 1, 2, 3, 4, 5, 6, 7] rfl) (ci := 0) (q0 := 0) rfl rfl) rfl rfl hl.1 rfl (lv_room (Nat.le_of_ble_eq_true rfl)) d_L_law_481 ⟨Nat.le_of_ble_eq_true rfl, Nat.le_of_ble_eq_true rfl⟩)) (fun r_1 h_2 => ?_)
  subst h_2
  refine lv_aload_n hx hb d_L_law_484 rfl (lv_at hl 2 rfl) ?_
  refine lv_aload_n hx hb d_L_law_485 rfl (lv_at hl 4 rfl) ?_
  refine lv_iload hx hb d_L_law_486 (lv_at hl 0 rfl) ?_
  refine lv_iconst (v := 1) hx hb d_L_law_488 (by decide) ?_
  refine lv_iadd hx hb d_L_law_489 ?_
  refine mr_top (y := 1) (by decide) ?_
  refine va_sld hx hb hX hbl hbA hS (i := 1) (by unfold vp_in; decide) d_L_law_490 ?_
  refine lv_aload_n hx hb d_L_law_491 rfl (lv_at hl 4 rfl) ?_
  refine lv_iload hx hb d_L_law_492 (lv_at hl 0 rfl) ?_
  refine lv_iconst (v := 2) hx hb d_L_law_494 (by decide) ?_
  refine lv_iadd hx hb d_L_law_495 ?_
  refine mr_top (y := 2) (by decide) ?_
  refine va_sld hx hb hX hbl hbA hS (i := 2) (by unfold vp_in; decide) d_L_law_496 ?_
  have hPc := hP.sub (ws' := [((rm 0), .inr (3, mf_D rm 0 0 0 0 0))]) [8] rfl
  have hDc := hD.sub (ws' := [((rm 0), .inr (3, mf_D rm 0 0 0 0 0))]) [8] (by decide) rfl
  have hFc := va_free (wc := [((rm 0), .inr (3, mf_D rm 0 0 0 0 0))]) hD hS hA [8] rfl
  refine va_calli (va_runV (As := [.int (xs (1 : Int32).toNatClampNeg), .int (xs (2 : Int32).toNatClampNeg)]) (rest := [.int (mv_M_condition  (xs (1 : Int32).toNatClampNeg) (xs (2 : Int32).toNatClampNeg))]) (C := R_D) ⟨hx, hb, hml, hown, hts⟩ (mc_D_condition l s dC dI cI cR cL cZ rm 0 _ (xs (1 : Int32).toNatClampNeg) (xs (2 : Int32).toNatClampNeg)) ⟨(mr_cB 2 (hts (Cond.code y_D_condition b_D_condition 3 (some .boolean)) mw_322) (hts (Cond.initialized y_D_condition.cls) mw_323) (hts (Cond.methodLink "MeasureRowsLaw" 76 y_D_condition) mw_324) rfl rfl (by decide +kernel) ⟨Nat.le_of_ble_eq_true rfl, Nat.le_of_ble_eq_true rfl⟩), (hts (Cond.instanceMethod y_D_condition) mw_325), (hts (Cond.selects "MeasureRowsModel" y_D_condition y_D_condition) mw_326)⟩ (mr_preCV hBH hK hPc (hDc.weaken (fun _ _ _ h => hA0 _ h)) (ci := 3) (q0 := 0) rfl rfl) rfl rfl hl.1 rfl (lv_room (Nat.le_of_ble_eq_true rfl)) d_L_law_497 ⟨Nat.le_of_ble_eq_true rfl, Nat.le_of_ble_eq_true rfl⟩) hS (fun q _ h => hFc q h) hFc (fun r_3 u_4 t H1 locs ht hvm hw hB1 hz1 hk1 hS => ?_)
  obtain ⟨rw9, nw9, pb9, lc9, hP1, hK1, hD1⟩ := hB1
  rw [ht] at hP1
  obtain ⟨hP, hD⟩ := va_join (wr := [((rx 0), .inr (0, mf_M rx (nI 0) 0 0 0)), ((rx 1), .inr (1, [.ref (rx 2), .ref (rx 3)])), ((rx 2), .inl (cI, 8, .inl (fun _ => 0))), ((rx 3), .inl (cI, 8, .inl (fun _ => 0))), ((rx 4), .inl (cR, 80, .inr (.inr (.inr (.inr (fun _ => none)))))), ((rx 5), .inl (cI, 80, .inl (fun _ => 0))), ((rx 6), .inl (cI, 80, .inl (fun _ => 0))), ((rx 7), .inl (cI, 8, .inl (fun _ => 0))), ((rm 1), .inl (cI, 8, .inl (fun _ => 0))), ((rm 3), .inl (cI, 81, .inl (fun _ => 0))), ((rm 4), .inl (cI, 81, .inl (fun _ => 0))), ((rm 5), .inl (cI, 81, .inl (fun _ => 0))), ((rm 6), .inl (cI, 81, .inl (fun _ => 0))), ((rm 7), .inl (cI, 81, .inl (fun _ => 0))), ((rm 8), .inl (cI, 81, .inl (fun _ => 0))), ((rm 9), .inl (cI, 81, .inl (fun _ => 0))), ((rm 10), .inl (cI, 81, .inl (fun _ => 0))), ((rm 11), .inl (cI, 81, .inl (fun _ => 0))), ((rm 12), .inl (cI, 648, .inl (fun _ => 0))), ((rm 13), .inl (cI, 648, .inl (fun _ => 0))), ((rm 16), .inl (cI, 80, .inl (fun _ => 0))), ((rm 18), .inl (cZ, 81, .inl (fun _ => 0))), (o, .inl (cL, 1, .inr (.inl fo)))]) (w1 := [((rm 0), .inr (3, mf_D rm u_4 rw9 nw9 pb9 lc9))]) hP hD [8] [0, 1, 2, 3, 4, 5, 6, 7, 9, 10, 11, 12, 13, 14, 15, 16, 17, 18, 19, 20, 21, 22, 23] rfl rfl (by decide) (by decide) hk1 hFc hP1 hD1
  clear hK1 hk1 hPc hDc hFc
  generalize H1 = H at hP hS ht ⊢
  have hP : va_P (dC, dI) mr_cl [((rx 0), .inr (0, mf_M rx (nI 0) 0 0 0)), ((rx 1), .inr (1, [.ref (rx 2), .ref (rx 3)])), ((rx 2), .inl (cI, 8, .inl (fun _ => 0))), ((rx 3), .inl (cI, 8, .inl (fun _ => 0))), ((rx 4), .inl (cR, 80, .inr (.inr (.inr (.inr (fun _ => none)))))), ((rx 5), .inl (cI, 80, .inl (fun _ => 0))), ((rx 6), .inl (cI, 80, .inl (fun _ => 0))), ((rx 7), .inl (cI, 8, .inl (fun _ => 0))), ((rm 1), .inl (cI, 8, .inl (fun _ => 0))), ((rm 3), .inl (cI, 81, .inl (fun _ => 0))), ((rm 4), .inl (cI, 81, .inl (fun _ => 0))), ((rm 5), .inl (cI, 81, .inl (fun _ => 0))), ((rm 6), .inl (cI, 81, .inl (fun _ => 0))), ((rm 7), .inl (cI, 81, .inl (fun _ => 0))), ((rm 8), .inl (cI, 81, .inl (fun _ => 0))), ((rm 9), .inl (cI, 81, .inl (fun _ => 0))), ((rm 10), .inl (cI, 81, .inl (fun _ => 0))), ((rm 11), .inl (cI, 81, .inl (fun _ => 0))), ((rm 12), .inl (cI, 648, .inl (fun _ => 0))), ((rm 13), .inl (cI, 648, .inl (fun _ => 0))), ((rm 16), .inl (cI, 80, .inl (fun _ => 0))), ((rm 18), .inl (cZ, 81, .inl (fun _ => 0))), (o, .inl (cL, 1, .inr (.inl fo))), ((rm 0), .inr (3, mf_D rm u_4 rw9 nw9 pb9 lc9))] H := hP
  have hD : va_D A [((rx 0), .inr (0, mf_M rx (nI 0) 0 0 0)), ((rx 1), .inr (1, [.ref (rx 2), .ref (rx 3)])), ((rx 2), .inl (cI, 8, .inl (fun _ => 0))), ((rx 3), .inl (cI, 8, .inl (fun _ => 0))), ((rx 4), .inl (cR, 80, .inr (.inr (.inr (.inr (fun _ => none)))))), ((rx 5), .inl (cI, 80, .inl (fun _ => 0))), ((rx 6), .inl (cI, 80, .inl (fun _ => 0))), ((rx 7), .inl (cI, 8, .inl (fun _ => 0))), ((rm 1), .inl (cI, 8, .inl (fun _ => 0))), ((rm 3), .inl (cI, 81, .inl (fun _ => 0))), ((rm 4), .inl (cI, 81, .inl (fun _ => 0))), ((rm 5), .inl (cI, 81, .inl (fun _ => 0))), ((rm 6), .inl (cI, 81, .inl (fun _ => 0))), ((rm 7), .inl (cI, 81, .inl (fun _ => 0))), ((rm 8), .inl (cI, 81, .inl (fun _ => 0))), ((rm 9), .inl (cI, 81, .inl (fun _ => 0))), ((rm 10), .inl (cI, 81, .inl (fun _ => 0))), ((rm 11), .inl (cI, 81, .inl (fun _ => 0))), ((rm 12), .inl (cI, 648, .inl (fun _ => 0))), ((rm 13), .inl (cI, 648, .inl (fun _ => 0))), ((rm 16), .inl (cI, 80, .inl (fun _ => 0))), ((rm 18), .inl (cZ, 81, .inl (fun _ => 0))), (o, .inl (cL, 1, .inr (.inl fo))), ((rm 0), .inr (3, mf_D rm u_4 rw9 nw9 pb9 lc9))] := hD
  have hBH := hB.at hS hA0
  obtain ⟨rfl, rfl⟩ := hw
  refine lv_icmp_eq (tgt := 978) hx hb d_L_law_500 (by decide) (fun _ => ?_) (fun c_5 => absurd (v_condition (xs (1 : Int32).toNatClampNeg) (xs (2 : Int32).toNatClampNeg)) c_5)
  refine lv_iinc (v := 8) (lv' := [(4, .int 8), (3, .ref o), (2, .ref (rm 0)), (1, .ref (rx 0)), (0, .ref b)]) hx hb d_L_law_978 hl (k := 0) rfl (by decide) (by decide) rfl (fun ls hl => ?_)
  refine lv_goto (tgt := 23) hx hb d_L_law_981 (by decide) ?_
  refine lv_iload hx hb d_L_law_23 (lv_at hl 0 rfl) ?_
  refine lv_aload_n hx hb d_L_law_25 rfl (lv_at hl 4 rfl) ?_
  refine va_slen hx hb hX hbl hbA hS d_L_law_26 ?_
  refine mr_top (y := 8) (by decide) ?_
  refine lv_bipush (v := 8) hx hb d_L_law_27 (by decide) ?_
  refine lv_isub hx hb d_L_law_29 ?_
  refine mr_top (y := 0) (by decide) ?_
  refine lv_icmp_gt (tgt := 984) hx hb d_L_law_30 (by decide) (fun _ => ?_) (fun c_6 => absurd c_6 (by decide))
  refine lv_iconst (v := 1) hx hb d_L_law_984 (by decide) ?_
  refine va_forget (fun q hq => hA0 _ (hS.2.2 q hq)) ?_
  refine W.widen (k := 600002) (n := 7302231) (by omega) (by omega) ?_
  exact lw_ret hx hb hr hlocks d_L_law_985
set_option maxHeartbeats 4000000 in
set_option maxRecDepth 100000 in
theorem law_6 {p : Program} {l : Launch} {e : Env} {s : State} {m : MethodId} {below : List Frame} {meth : Method} {c : Code} {b : Nat} {xs : Nat → Int32} {dC : Nat → ClassId} {dI : Nat → Nat → Nat} {cI cR cL cZ : ClassId} {rx rm : Nat → Nat} {o : Nat} {fo : Nat → Int64} {A : Nat → Prop} {H : Heap} {locs : List Loc} {ls : Array Slot} (hlt : l.stackTraces = false) (C0 : lw_At p s m meth c b 8 xs) (hB : mr_B s s) (hA : ∀ q : Nat, s.heap.size ≤ q → A q) (hA0 : ∀ q : Nat, A q → s.heap.size ≤ q) (hK : va_K (dC, dI) mr_cl [(cI, .int), (cR, .object "MeasureRows$Row"), (cL, .long), (cZ, .boolean)] s) (hP : va_P (dC, dI) mr_cl [((rx 0), .inr (0, mf_M rx (nI 0) 0 0 0)), ((rx 1), .inr (1, [.ref (rx 2), .ref (rx 3)])), ((rx 2), .inl (cI, 8, .inl (fun _ => 0))), ((rx 3), .inl (cI, 8, .inl (fun _ => 0))), ((rx 4), .inl (cR, 80, .inr (.inr (.inr (.inr (fun _ => none)))))), ((rx 5), .inl (cI, 80, .inl (fun _ => 0))), ((rx 6), .inl (cI, 80, .inl (fun _ => 0))), ((rx 7), .inl (cI, 8, .inl (fun _ => 0))), ((rm 0), .inr (3, mf_D rm 0 0 0 0 0)), ((rm 1), .inl (cI, 8, .inl (fun _ => 0))), ((rm 3), .inl (cI, 81, .inl (fun _ => 0))), ((rm 4), .inl (cI, 81, .inl (fun _ => 0))), ((rm 5), .inl (cI, 81, .inl (fun _ => 0))), ((rm 6), .inl (cI, 81, .inl (fun _ => 0))), ((rm 7), .inl (cI, 81, .inl (fun _ => 0))), ((rm 8), .inl (cI, 81, .inl (fun _ => 0))), ((rm 9), .inl (cI, 81, .inl (fun _ => 0))), ((rm 10), .inl (cI, 81, .inl (fun _ => 0))), ((rm 11), .inl (cI, 81, .inl (fun _ => 0))), ((rm 12), .inl (cI, 648, .inl (fun _ => 0))), ((rm 13), .inl (cI, 648, .inl (fun _ => 0))), ((rm 16), .inl (cI, 80, .inl (fun _ => 0))), ((rm 18), .inl (cZ, 81, .inl (fun _ => 0))), (o, .inl (cL, 1, .inr (.inl fo)))] H) (hD : va_D A [((rx 0), .inr (0, mf_M rx (nI 0) 0 0 0)), ((rx 1), .inr (1, [.ref (rx 2), .ref (rx 3)])), ((rx 2), .inl (cI, 8, .inl (fun _ => 0))), ((rx 3), .inl (cI, 8, .inl (fun _ => 0))), ((rx 4), .inl (cR, 80, .inr (.inr (.inr (.inr (fun _ => none)))))), ((rx 5), .inl (cI, 80, .inl (fun _ => 0))), ((rx 6), .inl (cI, 80, .inl (fun _ => 0))), ((rx 7), .inl (cI, 8, .inl (fun _ => 0))), ((rm 0), .inr (3, mf_D rm 0 0 0 0 0)), ((rm 1), .inl (cI, 8, .inl (fun _ => 0))), ((rm 3), .inl (cI, 81, .inl (fun _ => 0))), ((rm 4), .inl (cI, 81, .inl (fun _ => 0))), ((rm 5), .inl (cI, 81, .inl (fun _ => 0))), ((rm 6), .inl (cI, 81, .inl (fun _ => 0))), ((rm 7), .inl (cI, 81, .inl (fun _ => 0))), ((rm 8), .inl (cI, 81, .inl (fun _ => 0))), ((rm 9), .inl (cI, 81, .inl (fun _ => 0))), ((rm 10), .inl (cI, 81, .inl (fun _ => 0))), ((rm 11), .inl (cI, 81, .inl (fun _ => 0))), ((rm 12), .inl (cI, 648, .inl (fun _ => 0))), ((rm 13), .inl (cI, 648, .inl (fun _ => 0))), ((rm 16), .inl (cI, 80, .inl (fun _ => 0))), ((rm 18), .inl (cZ, 81, .inl (fun _ => 0))), (o, .inl (cL, 1, .inr (.inl fo)))]) (hS : va_S A s.heap H locs) (hl : lv_has ls 7 [(4, .int 0), (3, .ref o), (2, .ref (rm 0)), (1, .ref (rx 0)), (0, .ref b)]) : W p l e room_1 s m #[Value.ref b] below meth c H locs 24 2489 (lw_Z below #[Value.ref b] s) (F0 m 505 ls []) := by
  obtain ⟨hx, hb, hr, hml, hown, hts, hX, hbl, hlocks, hgv⟩ := C0
  have hbA : ¬ A b := fun h => absurd (hA0 b h) (Nat.not_le.mpr hbl)
  have hBH := hB.at hS hA0
  refine lv_aload_n hx hb d_L_law_505 rfl (lv_at hl 3 rfl) ?_
  refine lv_aload_n hx hb d_L_law_506 rfl (lv_at hl 4 rfl) ?_
  refine lv_iload hx hb d_L_law_507 (lv_at hl 0 rfl) ?_
  refine lv_iconst (v := 1) hx hb d_L_law_509 (by decide) ?_
  refine lv_iadd hx hb d_L_law_510 ?_
  refine mr_top (y := 1) (by decide) ?_
  refine va_sld hx hb hX hbl hbA hS (i := 1) (by unfold vp_in; decide) d_L_law_511 ?_
  refine lv_aload_n hx hb d_L_law_512 rfl (lv_at hl 4 rfl) ?_
  refine lv_iload hx hb d_L_law_513 (lv_at hl 0 rfl) ?_
  refine lv_iconst (v := 2) hx hb d_L_law_515 (by decide) ?_
  refine lv_iadd hx hb d_L_law_516 ?_
  refine mr_top (y := 2) (by decide) ?_
  refine va_sld hx hb hX hbl hbA hS (i := 2) (by unfold vp_in; decide) d_L_law_517 ?_
  refine lv_aload_n hx hb d_L_law_518 rfl (lv_at hl 4 rfl) ?_
  refine lv_iload hx hb d_L_law_519 (lv_at hl 0 rfl) ?_
  refine lv_iconst (v := 3) hx hb d_L_law_521 (by decide) ?_
  refine lv_iadd hx hb d_L_law_522 ?_
  refine mr_top (y := 3) (by decide) ?_
  refine va_sld hx hb hX hbl hbA hS (i := 3) (by unfold vp_in; decide) d_L_law_523 ?_
  refine lv_aload_n hx hb d_L_law_524 rfl (lv_at hl 1 rfl) ?_
  have hPc := hP.sub (ws' := [((rx 0), .inr (0, mf_M rx (nI 0) 0 0 0)), ((rx 1), .inr (1, [.ref (rx 2), .ref (rx 3)])), ((rx 2), .inl (cI, 8, .inl (fun _ => 0))), ((rx 3), .inl (cI, 8, .inl (fun _ => 0))), ((rx 4), .inl (cR, 80, .inr (.inr (.inr (.inr (fun _ => none)))))), ((rx 5), .inl (cI, 80, .inl (fun _ => 0))), ((rx 6), .inl (cI, 80, .inl (fun _ => 0))), ((rx 7), .inl (cI, 8, .inl (fun _ => 0))), (o, .inl (cL, 1, .inr (.inl fo)))]) [0, 1, 2, 3, 4, 5, 6, 7, 23] rfl
  have hDc := hD.sub (ws' := [((rx 0), .inr (0, mf_M rx (nI 0) 0 0 0)), ((rx 1), .inr (1, [.ref (rx 2), .ref (rx 3)])), ((rx 2), .inl (cI, 8, .inl (fun _ => 0))), ((rx 3), .inl (cI, 8, .inl (fun _ => 0))), ((rx 4), .inl (cR, 80, .inr (.inr (.inr (.inr (fun _ => none)))))), ((rx 5), .inl (cI, 80, .inl (fun _ => 0))), ((rx 6), .inl (cI, 80, .inl (fun _ => 0))), ((rx 7), .inl (cI, 8, .inl (fun _ => 0))), (o, .inl (cL, 1, .inr (.inl fo)))]) [0, 1, 2, 3, 4, 5, 6, 7, 23] (by decide) rfl
  have hFc := va_free (wc := [((rx 0), .inr (0, mf_M rx (nI 0) 0 0 0)), ((rx 1), .inr (1, [.ref (rx 2), .ref (rx 3)])), ((rx 2), .inl (cI, 8, .inl (fun _ => 0))), ((rx 3), .inl (cI, 8, .inl (fun _ => 0))), ((rx 4), .inl (cR, 80, .inr (.inr (.inr (.inr (fun _ => none)))))), ((rx 5), .inl (cI, 80, .inl (fun _ => 0))), ((rx 6), .inl (cI, 80, .inl (fun _ => 0))), ((rx 7), .inl (cI, 8, .inl (fun _ => 0))), (o, .inl (cL, 1, .inr (.inl fo)))]) hD hS hA [0, 1, 2, 3, 4, 5, 6, 7, 23] rfl
  refine va_calli (mr_runH (n := 5) (As := [.ref (rx 0), .int (xs (1 : Int32).toNatClampNeg), .int (xs (2 : Int32).toNatClampNeg), .int (xs (3 : Int32).toNatClampNeg), .ref o]) (rest := []) ⟨hx, hb, hml, hown, hts⟩ (mc_L_end l hlt s dC dI cI cR cL cZ rx o fo _ (xs (1 : Int32).toNatClampNeg) (xs (2 : Int32).toNatClampNeg) (xs (3 : Int32).toNatClampNeg)) (hts (Cond.codeWith y_L_end b_L_end 6 (some .int) [(0, 12, 15, 13), (0, 12, 19, 22), (0, 12, 23, 24)]) mw_327) (hts (Cond.initialized y_L_end.cls) mw_328) (hts (Cond.methodLink "MeasureRowsLaw" 77 y_L_end) mw_329) (hts (Cond.static y_L_end) mw_330) rfl rfl (by decide +kernel) ⟨Nat.le_of_ble_eq_true rfl, Nat.le_of_ble_eq_true rfl⟩ (mr_preCS hBH hK hPc (hDc.weaken (fun _ _ _ h => hA0 _ h))) rfl hl.1 rfl (Nat.le_of_ble_eq_true rfl) d_L_law_525 ⟨Nat.le_of_ble_eq_true rfl, Nat.le_of_ble_eq_true rfl⟩) hS (fun q _ h => hFc q h) hFc (fun r9 u9 t H1 locs ht hvm hw hB1 hz1 hk1 hS => ?_)
  obtain ⟨hP1, hK1, hD1⟩ := hB1
  rw [ht] at hP1
  obtain ⟨hP, hD⟩ := va_join (wr := [((rm 0), .inr (3, mf_D rm 0 0 0 0 0)), ((rm 1), .inl (cI, 8, .inl (fun _ => 0))), ((rm 3), .inl (cI, 81, .inl (fun _ => 0))), ((rm 4), .inl (cI, 81, .inl (fun _ => 0))), ((rm 5), .inl (cI, 81, .inl (fun _ => 0))), ((rm 6), .inl (cI, 81, .inl (fun _ => 0))), ((rm 7), .inl (cI, 81, .inl (fun _ => 0))), ((rm 8), .inl (cI, 81, .inl (fun _ => 0))), ((rm 9), .inl (cI, 81, .inl (fun _ => 0))), ((rm 10), .inl (cI, 81, .inl (fun _ => 0))), ((rm 11), .inl (cI, 81, .inl (fun _ => 0))), ((rm 12), .inl (cI, 648, .inl (fun _ => 0))), ((rm 13), .inl (cI, 648, .inl (fun _ => 0))), ((rm 16), .inl (cI, 80, .inl (fun _ => 0))), ((rm 18), .inl (cZ, 81, .inl (fun _ => 0)))]) (w1 := [(o, .inl (cL, 1, .inr (.inl u9)))]) hP hD [0, 1, 2, 3, 4, 5, 6, 7, 23] [8, 9, 10, 11, 12, 13, 14, 15, 16, 17, 18, 19, 20, 21, 22] rfl rfl (by decide) (by decide) hk1 hFc hP1 hD1
  clear hK1 hk1 hPc hDc hFc
  generalize H1 = H at hP hS ht ⊢
  obtain ⟨rfl, hu9⟩ := hw
  have hP : va_P (dC, dI) mr_cl [((rm 0), .inr (3, mf_D rm 0 0 0 0 0)), ((rm 1), .inl (cI, 8, .inl (fun _ => 0))), ((rm 3), .inl (cI, 81, .inl (fun _ => 0))), ((rm 4), .inl (cI, 81, .inl (fun _ => 0))), ((rm 5), .inl (cI, 81, .inl (fun _ => 0))), ((rm 6), .inl (cI, 81, .inl (fun _ => 0))), ((rm 7), .inl (cI, 81, .inl (fun _ => 0))), ((rm 8), .inl (cI, 81, .inl (fun _ => 0))), ((rm 9), .inl (cI, 81, .inl (fun _ => 0))), ((rm 10), .inl (cI, 81, .inl (fun _ => 0))), ((rm 11), .inl (cI, 81, .inl (fun _ => 0))), ((rm 12), .inl (cI, 648, .inl (fun _ => 0))), ((rm 13), .inl (cI, 648, .inl (fun _ => 0))), ((rm 16), .inl (cI, 80, .inl (fun _ => 0))), ((rm 18), .inl (cZ, 81, .inl (fun _ => 0))), (o, .inl (cL, 1, .inr (.inl u9)))] H := hP
  have hD : va_D A [((rm 0), .inr (3, mf_D rm 0 0 0 0 0)), ((rm 1), .inl (cI, 8, .inl (fun _ => 0))), ((rm 3), .inl (cI, 81, .inl (fun _ => 0))), ((rm 4), .inl (cI, 81, .inl (fun _ => 0))), ((rm 5), .inl (cI, 81, .inl (fun _ => 0))), ((rm 6), .inl (cI, 81, .inl (fun _ => 0))), ((rm 7), .inl (cI, 81, .inl (fun _ => 0))), ((rm 8), .inl (cI, 81, .inl (fun _ => 0))), ((rm 9), .inl (cI, 81, .inl (fun _ => 0))), ((rm 10), .inl (cI, 81, .inl (fun _ => 0))), ((rm 11), .inl (cI, 81, .inl (fun _ => 0))), ((rm 12), .inl (cI, 648, .inl (fun _ => 0))), ((rm 13), .inl (cI, 648, .inl (fun _ => 0))), ((rm 16), .inl (cI, 80, .inl (fun _ => 0))), ((rm 18), .inl (cZ, 81, .inl (fun _ => 0))), (o, .inl (cL, 1, .inr (.inl u9)))] := hD
  have hBH := hB.at hS hA0
  refine W.widen (k := 25) (n := 2495) (by omega) (by omega) ?_
  refine lv_istore (lv' := [(5, .int (mk_M_end (xs (1 : Int32).toNatClampNeg) (xs (2 : Int32).toNatClampNeg) (xs (3 : Int32).toNatClampNeg))), (4, .int 0), (3, .ref o), (2, .ref (rm 0)), (1, .ref (rx 0)), (0, .ref b)]) hx hb d_L_law_528 hl (by decide) rfl (fun ls hl => ?_)
  refine lv_aload_n hx hb d_L_law_530 rfl (lv_at hl 3 rfl) ?_
  refine lv_aload_n hx hb d_L_law_531 rfl (lv_at hl 5 rfl) ?_
  refine lv_iload hx hb d_L_law_532 (lv_at hl 1 rfl) ?_
  refine lv_iconst (v := 1) hx hb d_L_law_534 (by decide) ?_
  refine lv_iadd hx hb d_L_law_535 ?_
  refine mr_top (y := 1) (by decide) ?_
  refine va_sld hx hb hX hbl hbA hS (i := 1) (by unfold vp_in; decide) d_L_law_536 ?_
  refine lv_aload_n hx hb d_L_law_537 rfl (lv_at hl 5 rfl) ?_
  refine lv_iload hx hb d_L_law_538 (lv_at hl 1 rfl) ?_
  refine lv_iconst (v := 2) hx hb d_L_law_540 (by decide) ?_
  refine lv_iadd hx hb d_L_law_541 ?_
  refine mr_top (y := 2) (by decide) ?_
  refine va_sld hx hb hX hbl hbA hS (i := 2) (by unfold vp_in; decide) d_L_law_542 ?_
  refine lv_aload_n hx hb d_L_law_543 rfl (lv_at hl 5 rfl) ?_
  refine lv_iload hx hb d_L_law_544 (lv_at hl 1 rfl) ?_
  refine lv_iconst (v := 3) hx hb d_L_law_546 (by decide) ?_
  refine lv_iadd hx hb d_L_law_547 ?_
  refine mr_top (y := 3) (by decide) ?_
  refine va_sld hx hb hX hbl hbA hS (i := 3) (by unfold vp_in; decide) d_L_law_548 ?_
  have hPc := hP.sub (ws' := [((rm 0), .inr (3, mf_D rm 0 0 0 0 0))]) [0] rfl
  have hDc := hD.sub (ws' := [((rm 0), .inr (3, mf_D rm 0 0 0 0 0))]) [0] (by decide) rfl
  have hFc := va_free (wc := [((rm 0), .inr (3, mf_D rm 0 0 0 0 0))]) hD hS hA [0] rfl
  refine va_calli (va_runV (As := [.int (xs (1 : Int32).toNatClampNeg), .int (xs (2 : Int32).toNatClampNeg), .int (xs (3 : Int32).toNatClampNeg)]) (rest := []) (C := R_D) ⟨hx, hb, hml, hown, hts⟩ (mc_D_end l s dC dI cI cR cL cZ rm 0 _ (xs (1 : Int32).toNatClampNeg) (xs (2 : Int32).toNatClampNeg) (xs (3 : Int32).toNatClampNeg)) ⟨(mr_cB 3 (hts (Cond.code y_D_end b_D_end 4 (some .int)) mw_331) (hts (Cond.initialized y_D_end.cls) mw_332) (hts (Cond.methodLink "MeasureRowsLaw" 80 y_D_end) mw_333) rfl rfl (by decide +kernel) ⟨Nat.le_of_ble_eq_true rfl, Nat.le_of_ble_eq_true rfl⟩), (hts (Cond.instanceMethod y_D_end) mw_334), (hts (Cond.selects "MeasureRowsModel" y_D_end y_D_end) mw_335)⟩ (mr_preCV hBH hK hPc (hDc.weaken (fun _ _ _ h => hA0 _ h)) (ci := 3) (q0 := 0) rfl rfl) rfl rfl hl.1 rfl (lv_room (Nat.le_of_ble_eq_true rfl)) d_L_law_549 ⟨Nat.le_of_ble_eq_true rfl, Nat.le_of_ble_eq_true rfl⟩) hS (fun q _ h => hFc q h) hFc (fun r_1 u_2 t H1 locs ht hvm hw hB1 hz1 hk1 hS => ?_)
  obtain ⟨rw9, nw9, pb9, lc9, hP1, hK1, hD1⟩ := hB1
  rw [ht] at hP1
  obtain ⟨hP, hD⟩ := va_join (wr := [((rm 1), .inl (cI, 8, .inl (fun _ => 0))), ((rm 3), .inl (cI, 81, .inl (fun _ => 0))), ((rm 4), .inl (cI, 81, .inl (fun _ => 0))), ((rm 5), .inl (cI, 81, .inl (fun _ => 0))), ((rm 6), .inl (cI, 81, .inl (fun _ => 0))), ((rm 7), .inl (cI, 81, .inl (fun _ => 0))), ((rm 8), .inl (cI, 81, .inl (fun _ => 0))), ((rm 9), .inl (cI, 81, .inl (fun _ => 0))), ((rm 10), .inl (cI, 81, .inl (fun _ => 0))), ((rm 11), .inl (cI, 81, .inl (fun _ => 0))), ((rm 12), .inl (cI, 648, .inl (fun _ => 0))), ((rm 13), .inl (cI, 648, .inl (fun _ => 0))), ((rm 16), .inl (cI, 80, .inl (fun _ => 0))), ((rm 18), .inl (cZ, 81, .inl (fun _ => 0))), (o, .inl (cL, 1, .inr (.inl u9)))]) (w1 := [((rm 0), .inr (3, mf_D rm u_2 rw9 nw9 pb9 lc9))]) hP hD [0] [1, 2, 3, 4, 5, 6, 7, 8, 9, 10, 11, 12, 13, 14, 15] rfl rfl (by decide) (by decide) hk1 hFc hP1 hD1
  clear hK1 hk1 hPc hDc hFc
  generalize H1 = H at hP hS ht ⊢
  have hP : va_P (dC, dI) mr_cl [((rm 1), .inl (cI, 8, .inl (fun _ => 0))), ((rm 3), .inl (cI, 81, .inl (fun _ => 0))), ((rm 4), .inl (cI, 81, .inl (fun _ => 0))), ((rm 5), .inl (cI, 81, .inl (fun _ => 0))), ((rm 6), .inl (cI, 81, .inl (fun _ => 0))), ((rm 7), .inl (cI, 81, .inl (fun _ => 0))), ((rm 8), .inl (cI, 81, .inl (fun _ => 0))), ((rm 9), .inl (cI, 81, .inl (fun _ => 0))), ((rm 10), .inl (cI, 81, .inl (fun _ => 0))), ((rm 11), .inl (cI, 81, .inl (fun _ => 0))), ((rm 12), .inl (cI, 648, .inl (fun _ => 0))), ((rm 13), .inl (cI, 648, .inl (fun _ => 0))), ((rm 16), .inl (cI, 80, .inl (fun _ => 0))), ((rm 18), .inl (cZ, 81, .inl (fun _ => 0))), (o, .inl (cL, 1, .inr (.inl u9))), ((rm 0), .inr (3, mf_D rm u_2 rw9 nw9 pb9 lc9))] H := hP
  have hD : va_D A [((rm 1), .inl (cI, 8, .inl (fun _ => 0))), ((rm 3), .inl (cI, 81, .inl (fun _ => 0))), ((rm 4), .inl (cI, 81, .inl (fun _ => 0))), ((rm 5), .inl (cI, 81, .inl (fun _ => 0))), ((rm 6), .inl (cI, 81, .inl (fun _ => 0))), ((rm 7), .inl (cI, 81, .inl (fun _ => 0))), ((rm 8), .inl (cI, 81, .inl (fun _ => 0))), ((rm 9), .inl (cI, 81, .inl (fun _ => 0))), ((rm 10), .inl (cI, 81, .inl (fun _ => 0))), ((rm 11), .inl (cI, 81, .inl (fun _ => 0))), ((rm 12), .inl (cI, 648, .inl (fun _ => 0))), ((rm 13), .inl (cI, 648, .inl (fun _ => 0))), ((rm 16), .inl (cI, 80, .inl (fun _ => 0))), ((rm 18), .inl (cZ, 81, .inl (fun _ => 0))), (o, .inl (cL, 1, .inr (.inl u9))), ((rm 0), .inr (3, mf_D rm u_2 rw9 nw9 pb9 lc9))] := hD
  have hBH := hB.at hS hA0
  obtain ⟨rfl, rfl⟩ := hw
  refine lv_istore (lv' := [(6, .int (mv_D_end0 (xs (1 : Int32).toNatClampNeg) (xs (2 : Int32).toNatClampNeg) (xs (3 : Int32).toNatClampNeg))), (5, .int (mk_M_end (xs (1 : Int32).toNatClampNeg) (xs (2 : Int32).toNatClampNeg) (xs (3 : Int32).toNatClampNeg))), (4, .int 0), (3, .ref o), (2, .ref (rm 0)), (1, .ref (rx 0)), (0, .ref b)]) hx hb d_L_law_552 hl (by decide) rfl (fun ls hl => ?_)
  refine lv_aload_n hx hb d_L_law_554 rfl (lv_at hl 4 rfl) ?_
  refine vp_callSi (va_Run.run (va_runV (As := []) (rest := []) (C := R_D) ⟨hx, hb, hml, hown, hts⟩ (mc_D_thrown l s dC dI cI cR cL cZ rm (mt_D_end0 (xs (1 : Int32).toNatClampNeg) (xs (2 : Int32).toNatClampNeg) (xs (3 : Int32).toNatClampNeg)) rw9 nw9 pb9 lc9) ⟨(mr_cB 0 (hts (Cond.code y_D_thrown b_D_thrown 1 (some .int)) mw_284) (hts (Cond.initialized y_D_thrown.cls) mw_285) (hts (Cond.methodLink "MeasureRowsLaw" 58 y_D_thrown) mw_286) rfl rfl (by decide +kernel) ⟨Nat.le_of_ble_eq_true rfl, Nat.le_of_ble_eq_true rfl⟩), (hts (Cond.instanceMethod y_D_thrown) mw_287), (hts (Cond.selects "MeasureRowsModel" y_D_thrown y_D_thrown) mw_288)⟩ (mr_preV hBH hK (hP.sub (ws' := [((rm 0), .inr (3, mf_D rm (mt_D_end0 (xs (1 : Int32).toNatClampNeg) (xs (2 : Int32).toNatClampNeg) (xs (3 : Int32).toNatClampNeg)) rw9 nw9 pb9 lc9))]) [15] rfl) (ci := 3) (q0 := 0) rfl rfl) rfl rfl hl.1 rfl (lv_room (Nat.le_of_ble_eq_true rfl)) d_L_law_555 ⟨Nat.le_of_ble_eq_true rfl, Nat.le_of_ble_eq_true rfl⟩)) (fun r_3 h_4 => ?_)
  subst h_4
  refine mr_top (y := mt_D_end0 (xs (1 : Int32).toNatClampNeg) (xs (2 : Int32).toNatClampNeg) (xs (3 : Int32).toNatClampNeg)) rfl ?_
  refine lv_iload hx hb d_L_law_558 (lv_at hl 1 rfl) ?_
  refine lv_icmp_eq (tgt := 565) hx hb d_L_law_560 (by decide) (fun _ => ?_) (fun c_5 => absurd (vk_end (xs (1 : Int32).toNatClampNeg) (xs (2 : Int32).toNatClampNeg) (xs (3 : Int32).toNatClampNeg)) c_5)
  refine lv_iload hx hb d_L_law_565 (lv_at hl 1 rfl) ?_
  refine lv_if_ne (tgt := 582) hx hb d_L_law_567 (by decide) (fun c_6 => ?_) (fun c_6 => ?_)
  · refine lv_goto (tgt := 978) hx hb d_L_law_582 (by decide) ?_
    refine lv_iinc (v := 8) (lv' := [(4, .int 8), (6, .int (mv_D_end0 (xs (1 : Int32).toNatClampNeg) (xs (2 : Int32).toNatClampNeg) (xs (3 : Int32).toNatClampNeg))), (5, .int (mk_M_end (xs (1 : Int32).toNatClampNeg) (xs (2 : Int32).toNatClampNeg) (xs (3 : Int32).toNatClampNeg))), (3, .ref o), (2, .ref (rm 0)), (1, .ref (rx 0)), (0, .ref b)]) hx hb d_L_law_978 hl (k := 2) rfl (by decide) (by decide) rfl (fun ls hl => ?_)
    refine lv_goto (tgt := 23) hx hb d_L_law_981 (by decide) ?_
    refine lv_iload hx hb d_L_law_23 (lv_at hl 0 rfl) ?_
    refine lv_aload_n hx hb d_L_law_25 rfl (lv_at hl 6 rfl) ?_
    refine va_slen hx hb hX hbl hbA hS d_L_law_26 ?_
    refine mr_top (y := 8) (by decide) ?_
    refine lv_bipush (v := 8) hx hb d_L_law_27 (by decide) ?_
    refine lv_isub hx hb d_L_law_29 ?_
    refine mr_top (y := 0) (by decide) ?_
    refine lv_icmp_gt (tgt := 984) hx hb d_L_law_30 (by decide) (fun _ => ?_) (fun c_7 => absurd c_7 (by decide))
    refine lv_iconst (v := 1) hx hb d_L_law_984 (by decide) ?_
    refine va_forget (fun q hq => hA0 _ (hS.2.2 q hq)) ?_
    refine W.widen (k := 600002) (n := 7302231) (by omega) (by omega) ?_
    exact lw_ret hx hb hr hlocks d_L_law_985
  · refine lv_aload_n hx hb d_L_law_570 rfl (lv_at hl 3 rfl) ?_
    refine lv_iconst (v := 0) hx hb d_L_law_571 (by decide) ?_
    refine va_lald (D := (dC, dI)) hx hb hK hP 14 2 rfl rfl (i := 0) (by unfold vp_in; decide) d_L_law_572 ?_
    refine mr_topv (show Value.long (u9 (0 : Int32).toNatClampNeg) = .long (((mv_M_end (xs (1 : Int32).toNatClampNeg) (xs (2 : Int32).toNatClampNeg) (xs (3 : Int32).toNatClampNeg)) : Int32).toInt64) from congrArg Value.long (hu9 c_6)) ?_
    refine lv_iload hx hb d_L_law_573 (lv_at hl 0 rfl) ?_
    refine lv_i2l (v := (mv_D_end0 (xs (1 : Int32).toNatClampNeg) (xs (2 : Int32).toNatClampNeg) (xs (3 : Int32).toNatClampNeg)).toInt64) hx hb d_L_law_575 rfl ?_
    refine W.lcmp hx hb d_L_law_576 ?_
    refine lv_if_eq (tgt := 582) hx hb d_L_law_577 (by decide) (fun _ => ?_) (fun c_8 => absurd (v_li (v_end (xs (1 : Int32).toNatClampNeg) (xs (2 : Int32).toNatClampNeg) (xs (3 : Int32).toNatClampNeg))) c_8)
    refine lv_goto (tgt := 978) hx hb d_L_law_582 (by decide) ?_
    refine lv_iinc (v := 8) (lv' := [(4, .int 8), (6, .int (mv_D_end0 (xs (1 : Int32).toNatClampNeg) (xs (2 : Int32).toNatClampNeg) (xs (3 : Int32).toNatClampNeg))), (5, .int (mk_M_end (xs (1 : Int32).toNatClampNeg) (xs (2 : Int32).toNatClampNeg) (xs (3 : Int32).toNatClampNeg))), (3, .ref o), (2, .ref (rm 0)), (1, .ref (rx 0)), (0, .ref b)]) hx hb d_L_law_978 hl (k := 2) rfl (by decide) (by decide) rfl (fun ls hl => ?_)
    refine lv_goto (tgt := 23) hx hb d_L_law_981 (by decide) ?_
    refine lv_iload hx hb d_L_law_23 (lv_at hl 0 rfl) ?_
    refine lv_aload_n hx hb d_L_law_25 rfl (lv_at hl 6 rfl) ?_
    refine va_slen hx hb hX hbl hbA hS d_L_law_26 ?_
    refine mr_top (y := 8) (by decide) ?_
    refine lv_bipush (v := 8) hx hb d_L_law_27 (by decide) ?_
    refine lv_isub hx hb d_L_law_29 ?_
    refine mr_top (y := 0) (by decide) ?_
    refine lv_icmp_gt (tgt := 984) hx hb d_L_law_30 (by decide) (fun _ => ?_) (fun c_9 => absurd c_9 (by decide))
    refine lv_iconst (v := 1) hx hb d_L_law_984 (by decide) ?_
    refine va_forget (fun q hq => hA0 _ (hS.2.2 q hq)) ?_
    refine W.widen (k := 600002) (n := 7302231) (by omega) (by omega) ?_
    exact lw_ret hx hb hr hlocks d_L_law_985
set_option maxHeartbeats 4000000 in
set_option maxRecDepth 100000 in
theorem law_7 {p : Program} {l : Launch} {e : Env} {s : State} {m : MethodId} {below : List Frame} {meth : Method} {c : Code} {b : Nat} {xs : Nat → Int32} {dC : Nat → ClassId} {dI : Nat → Nat → Nat} {cI cR cL cZ : ClassId} {rx rm : Nat → Nat} {o : Nat} {fo : Nat → Int64} {A : Nat → Prop} {H : Heap} {locs : List Loc} {ls : Array Slot} (hlt : l.stackTraces = false) (C0 : lw_At p s m meth c b 8 xs) (hB : mr_B s s) (hA : ∀ q : Nat, s.heap.size ≤ q → A q) (hA0 : ∀ q : Nat, A q → s.heap.size ≤ q) (hK : va_K (dC, dI) mr_cl [(cI, .int), (cR, .object "MeasureRows$Row"), (cL, .long), (cZ, .boolean)] s) (hP : va_P (dC, dI) mr_cl [((rx 0), .inr (0, mf_M rx (nI 0) 0 0 0)), ((rx 1), .inr (1, [.ref (rx 2), .ref (rx 3)])), ((rx 2), .inl (cI, 8, .inl (fun _ => 0))), ((rx 3), .inl (cI, 8, .inl (fun _ => 0))), ((rx 4), .inl (cR, 80, .inr (.inr (.inr (.inr (fun _ => none)))))), ((rx 5), .inl (cI, 80, .inl (fun _ => 0))), ((rx 6), .inl (cI, 80, .inl (fun _ => 0))), ((rx 7), .inl (cI, 8, .inl (fun _ => 0))), ((rm 0), .inr (3, mf_D rm 0 0 0 0 0)), ((rm 1), .inl (cI, 8, .inl (fun _ => 0))), ((rm 3), .inl (cI, 81, .inl (fun _ => 0))), ((rm 4), .inl (cI, 81, .inl (fun _ => 0))), ((rm 5), .inl (cI, 81, .inl (fun _ => 0))), ((rm 6), .inl (cI, 81, .inl (fun _ => 0))), ((rm 7), .inl (cI, 81, .inl (fun _ => 0))), ((rm 8), .inl (cI, 81, .inl (fun _ => 0))), ((rm 9), .inl (cI, 81, .inl (fun _ => 0))), ((rm 10), .inl (cI, 81, .inl (fun _ => 0))), ((rm 11), .inl (cI, 81, .inl (fun _ => 0))), ((rm 12), .inl (cI, 648, .inl (fun _ => 0))), ((rm 13), .inl (cI, 648, .inl (fun _ => 0))), ((rm 16), .inl (cI, 80, .inl (fun _ => 0))), ((rm 18), .inl (cZ, 81, .inl (fun _ => 0))), (o, .inl (cL, 1, .inr (.inl fo)))] H) (hD : va_D A [((rx 0), .inr (0, mf_M rx (nI 0) 0 0 0)), ((rx 1), .inr (1, [.ref (rx 2), .ref (rx 3)])), ((rx 2), .inl (cI, 8, .inl (fun _ => 0))), ((rx 3), .inl (cI, 8, .inl (fun _ => 0))), ((rx 4), .inl (cR, 80, .inr (.inr (.inr (.inr (fun _ => none)))))), ((rx 5), .inl (cI, 80, .inl (fun _ => 0))), ((rx 6), .inl (cI, 80, .inl (fun _ => 0))), ((rx 7), .inl (cI, 8, .inl (fun _ => 0))), ((rm 0), .inr (3, mf_D rm 0 0 0 0 0)), ((rm 1), .inl (cI, 8, .inl (fun _ => 0))), ((rm 3), .inl (cI, 81, .inl (fun _ => 0))), ((rm 4), .inl (cI, 81, .inl (fun _ => 0))), ((rm 5), .inl (cI, 81, .inl (fun _ => 0))), ((rm 6), .inl (cI, 81, .inl (fun _ => 0))), ((rm 7), .inl (cI, 81, .inl (fun _ => 0))), ((rm 8), .inl (cI, 81, .inl (fun _ => 0))), ((rm 9), .inl (cI, 81, .inl (fun _ => 0))), ((rm 10), .inl (cI, 81, .inl (fun _ => 0))), ((rm 11), .inl (cI, 81, .inl (fun _ => 0))), ((rm 12), .inl (cI, 648, .inl (fun _ => 0))), ((rm 13), .inl (cI, 648, .inl (fun _ => 0))), ((rm 16), .inl (cI, 80, .inl (fun _ => 0))), ((rm 18), .inl (cZ, 81, .inl (fun _ => 0))), (o, .inl (cL, 1, .inr (.inl fo)))]) (hS : va_S A s.heap H locs) (hl : lv_has ls 7 [(4, .int 0), (3, .ref o), (2, .ref (rm 0)), (1, .ref (rx 0)), (0, .ref b)]) : W p l e room_1 s m #[Value.ref b] below meth c H locs 24 2489 (lw_Z below #[Value.ref b] s) (F0 m 585 ls []) := by
  obtain ⟨hx, hb, hr, hml, hown, hts, hX, hbl, hlocks, hgv⟩ := C0
  have hbA : ¬ A b := fun h => absurd (hA0 b h) (Nat.not_le.mpr hbl)
  have hBH := hB.at hS hA0
  refine lv_aload_n hx hb d_L_law_585 rfl (lv_at hl 3 rfl) ?_
  refine lv_aload_n hx hb d_L_law_586 rfl (lv_at hl 4 rfl) ?_
  refine lv_iload hx hb d_L_law_587 (lv_at hl 0 rfl) ?_
  refine lv_iconst (v := 1) hx hb d_L_law_589 (by decide) ?_
  refine lv_iadd hx hb d_L_law_590 ?_
  refine mr_top (y := 1) (by decide) ?_
  refine va_sld hx hb hX hbl hbA hS (i := 1) (by unfold vp_in; decide) d_L_law_591 ?_
  have hPc := hP.sub (ws' := [((rx 0), .inr (0, mf_M rx (nI 0) 0 0 0))]) [0] rfl
  have hDc := hD.sub (ws' := [((rx 0), .inr (0, mf_M rx (nI 0) 0 0 0))]) [0] (by decide) rfl
  have hFc := va_free (wc := [((rx 0), .inr (0, mf_M rx (nI 0) 0 0 0))]) hD hS hA [0] rfl
  refine va_callv (va_runV (As := [.int (xs (1 : Int32).toNatClampNeg)]) (rest := []) (C := R_M) ⟨hx, hb, hml, hown, hts⟩ (mc_M_papers l s dC dI cI cR cL cZ rx (nI 0) 0 0 0 _ (xs (1 : Int32).toNatClampNeg)) ⟨(mr_cB 1 (hts (Cond.code y_M_papers b_M_papers 2 none) mw_336) (hts (Cond.initialized y_M_papers.cls) mw_337) (hts (Cond.methodLink "MeasureRowsLaw" 81 y_M_papers) mw_338) rfl rfl (by decide +kernel) ⟨Nat.le_of_ble_eq_true rfl, Nat.le_of_ble_eq_true rfl⟩), (hts (Cond.instanceMethod y_M_papers) mw_339), (hts (Cond.selects "MeasureRows" y_M_papers y_M_papers) mw_340)⟩ (mr_preCV hBH hK hPc (hDc.weaken (fun _ _ _ h => hA0 _ h)) (ci := 0) (q0 := 0) rfl rfl) rfl rfl hl.1 rfl (lv_room (Nat.le_of_ble_eq_true rfl)) d_L_law_592 ⟨Nat.le_of_ble_eq_true rfl, Nat.le_of_ble_eq_true rfl⟩) hS (fun q _ h => hFc q h) hFc (fun u_2 t H1 locs ht hvm hw hB1 hz1 hk1 hS => ?_)
  obtain ⟨hP1, hK1, hD1⟩ := hB1
  rw [ht] at hP1
  obtain ⟨hP, hD⟩ := va_join (wr := [((rx 1), .inr (1, [.ref (rx 2), .ref (rx 3)])), ((rx 2), .inl (cI, 8, .inl (fun _ => 0))), ((rx 3), .inl (cI, 8, .inl (fun _ => 0))), ((rx 4), .inl (cR, 80, .inr (.inr (.inr (.inr (fun _ => none)))))), ((rx 5), .inl (cI, 80, .inl (fun _ => 0))), ((rx 6), .inl (cI, 80, .inl (fun _ => 0))), ((rx 7), .inl (cI, 8, .inl (fun _ => 0))), ((rm 0), .inr (3, mf_D rm 0 0 0 0 0)), ((rm 1), .inl (cI, 8, .inl (fun _ => 0))), ((rm 3), .inl (cI, 81, .inl (fun _ => 0))), ((rm 4), .inl (cI, 81, .inl (fun _ => 0))), ((rm 5), .inl (cI, 81, .inl (fun _ => 0))), ((rm 6), .inl (cI, 81, .inl (fun _ => 0))), ((rm 7), .inl (cI, 81, .inl (fun _ => 0))), ((rm 8), .inl (cI, 81, .inl (fun _ => 0))), ((rm 9), .inl (cI, 81, .inl (fun _ => 0))), ((rm 10), .inl (cI, 81, .inl (fun _ => 0))), ((rm 11), .inl (cI, 81, .inl (fun _ => 0))), ((rm 12), .inl (cI, 648, .inl (fun _ => 0))), ((rm 13), .inl (cI, 648, .inl (fun _ => 0))), ((rm 16), .inl (cI, 80, .inl (fun _ => 0))), ((rm 18), .inl (cZ, 81, .inl (fun _ => 0))), (o, .inl (cL, 1, .inr (.inl fo)))]) (w1 := [((rx 0), .inr (0, mf_M rx (nI 0) 0 ((xs (1 : Int32).toNatClampNeg) &&& 65535) 0))]) hP hD [0] [1, 2, 3, 4, 5, 6, 7, 8, 9, 10, 11, 12, 13, 14, 15, 16, 17, 18, 19, 20, 21, 22, 23] rfl rfl (by decide) (by decide) hk1 hFc hP1 hD1
  clear hK1 hk1 hPc hDc hFc
  generalize H1 = H at hP hS ht ⊢
  have hP : va_P (dC, dI) mr_cl [((rx 1), .inr (1, [.ref (rx 2), .ref (rx 3)])), ((rx 2), .inl (cI, 8, .inl (fun _ => 0))), ((rx 3), .inl (cI, 8, .inl (fun _ => 0))), ((rx 4), .inl (cR, 80, .inr (.inr (.inr (.inr (fun _ => none)))))), ((rx 5), .inl (cI, 80, .inl (fun _ => 0))), ((rx 6), .inl (cI, 80, .inl (fun _ => 0))), ((rx 7), .inl (cI, 8, .inl (fun _ => 0))), ((rm 0), .inr (3, mf_D rm 0 0 0 0 0)), ((rm 1), .inl (cI, 8, .inl (fun _ => 0))), ((rm 3), .inl (cI, 81, .inl (fun _ => 0))), ((rm 4), .inl (cI, 81, .inl (fun _ => 0))), ((rm 5), .inl (cI, 81, .inl (fun _ => 0))), ((rm 6), .inl (cI, 81, .inl (fun _ => 0))), ((rm 7), .inl (cI, 81, .inl (fun _ => 0))), ((rm 8), .inl (cI, 81, .inl (fun _ => 0))), ((rm 9), .inl (cI, 81, .inl (fun _ => 0))), ((rm 10), .inl (cI, 81, .inl (fun _ => 0))), ((rm 11), .inl (cI, 81, .inl (fun _ => 0))), ((rm 12), .inl (cI, 648, .inl (fun _ => 0))), ((rm 13), .inl (cI, 648, .inl (fun _ => 0))), ((rm 16), .inl (cI, 80, .inl (fun _ => 0))), ((rm 18), .inl (cZ, 81, .inl (fun _ => 0))), (o, .inl (cL, 1, .inr (.inl fo))), ((rx 0), .inr (0, mf_M rx (nI 0) 0 ((xs (1 : Int32).toNatClampNeg) &&& 65535) 0))] H := hP
  have hD : va_D A [((rx 1), .inr (1, [.ref (rx 2), .ref (rx 3)])), ((rx 2), .inl (cI, 8, .inl (fun _ => 0))), ((rx 3), .inl (cI, 8, .inl (fun _ => 0))), ((rx 4), .inl (cR, 80, .inr (.inr (.inr (.inr (fun _ => none)))))), ((rx 5), .inl (cI, 80, .inl (fun _ => 0))), ((rx 6), .inl (cI, 80, .inl (fun _ => 0))), ((rx 7), .inl (cI, 8, .inl (fun _ => 0))), ((rm 0), .inr (3, mf_D rm 0 0 0 0 0)), ((rm 1), .inl (cI, 8, .inl (fun _ => 0))), ((rm 3), .inl (cI, 81, .inl (fun _ => 0))), ((rm 4), .inl (cI, 81, .inl (fun _ => 0))), ((rm 5), .inl (cI, 81, .inl (fun _ => 0))), ((rm 6), .inl (cI, 81, .inl (fun _ => 0))), ((rm 7), .inl (cI, 81, .inl (fun _ => 0))), ((rm 8), .inl (cI, 81, .inl (fun _ => 0))), ((rm 9), .inl (cI, 81, .inl (fun _ => 0))), ((rm 10), .inl (cI, 81, .inl (fun _ => 0))), ((rm 11), .inl (cI, 81, .inl (fun _ => 0))), ((rm 12), .inl (cI, 648, .inl (fun _ => 0))), ((rm 13), .inl (cI, 648, .inl (fun _ => 0))), ((rm 16), .inl (cI, 80, .inl (fun _ => 0))), ((rm 18), .inl (cZ, 81, .inl (fun _ => 0))), (o, .inl (cL, 1, .inr (.inl fo))), ((rx 0), .inr (0, mf_M rx (nI 0) 0 ((xs (1 : Int32).toNatClampNeg) &&& 65535) 0))] := hD
  have hBH := hB.at hS hA0
  refine lv_aload_n hx hb d_L_law_595 rfl (lv_at hl 2 rfl) ?_
  refine lv_aload_n hx hb d_L_law_596 rfl (lv_at hl 4 rfl) ?_
  refine lv_iload hx hb d_L_law_597 (lv_at hl 0 rfl) ?_
  refine lv_iconst (v := 1) hx hb d_L_law_599 (by decide) ?_
  refine lv_iadd hx hb d_L_law_600 ?_
  refine mr_top (y := 1) (by decide) ?_
  refine va_sld hx hb hX hbl hbA hS (i := 1) (by unfold vp_in; decide) d_L_law_601 ?_
  have hPc := hP.sub (ws' := [((rm 0), .inr (3, mf_D rm 0 0 0 0 0))]) [7] rfl
  have hDc := hD.sub (ws' := [((rm 0), .inr (3, mf_D rm 0 0 0 0 0))]) [7] (by decide) rfl
  have hFc := va_free (wc := [((rm 0), .inr (3, mf_D rm 0 0 0 0 0))]) hD hS hA [7] rfl
  refine va_callv (va_runV (As := [.int (xs (1 : Int32).toNatClampNeg)]) (rest := []) (C := R_D) ⟨hx, hb, hml, hown, hts⟩ (mc_D_papers l s dC dI cI cR cL cZ rm 0 _ (xs (1 : Int32).toNatClampNeg)) ⟨(mr_cB 1 (hts (Cond.code y_D_papers b_D_papers 2 none) mw_341) (hts (Cond.initialized y_D_papers.cls) mw_342) (hts (Cond.methodLink "MeasureRowsLaw" 85 y_D_papers) mw_343) rfl rfl (by decide +kernel) ⟨Nat.le_of_ble_eq_true rfl, Nat.le_of_ble_eq_true rfl⟩), (hts (Cond.instanceMethod y_D_papers) mw_344), (hts (Cond.selects "MeasureRowsModel" y_D_papers y_D_papers) mw_345)⟩ (mr_preCV hBH hK hPc (hDc.weaken (fun _ _ _ h => hA0 _ h)) (ci := 3) (q0 := 0) rfl rfl) rfl rfl hl.1 rfl (lv_room (Nat.le_of_ble_eq_true rfl)) d_L_law_602 ⟨Nat.le_of_ble_eq_true rfl, Nat.le_of_ble_eq_true rfl⟩) hS (fun q _ h => hFc q h) hFc (fun u_4 t H1 locs ht hvm hw hB1 hz1 hk1 hS => ?_)
  obtain ⟨rw9, nw9, pb9, lc9, hP1, hK1, hD1⟩ := hB1
  rw [ht] at hP1
  obtain ⟨hP, hD⟩ := va_join (wr := [((rx 1), .inr (1, [.ref (rx 2), .ref (rx 3)])), ((rx 2), .inl (cI, 8, .inl (fun _ => 0))), ((rx 3), .inl (cI, 8, .inl (fun _ => 0))), ((rx 4), .inl (cR, 80, .inr (.inr (.inr (.inr (fun _ => none)))))), ((rx 5), .inl (cI, 80, .inl (fun _ => 0))), ((rx 6), .inl (cI, 80, .inl (fun _ => 0))), ((rx 7), .inl (cI, 8, .inl (fun _ => 0))), ((rm 1), .inl (cI, 8, .inl (fun _ => 0))), ((rm 3), .inl (cI, 81, .inl (fun _ => 0))), ((rm 4), .inl (cI, 81, .inl (fun _ => 0))), ((rm 5), .inl (cI, 81, .inl (fun _ => 0))), ((rm 6), .inl (cI, 81, .inl (fun _ => 0))), ((rm 7), .inl (cI, 81, .inl (fun _ => 0))), ((rm 8), .inl (cI, 81, .inl (fun _ => 0))), ((rm 9), .inl (cI, 81, .inl (fun _ => 0))), ((rm 10), .inl (cI, 81, .inl (fun _ => 0))), ((rm 11), .inl (cI, 81, .inl (fun _ => 0))), ((rm 12), .inl (cI, 648, .inl (fun _ => 0))), ((rm 13), .inl (cI, 648, .inl (fun _ => 0))), ((rm 16), .inl (cI, 80, .inl (fun _ => 0))), ((rm 18), .inl (cZ, 81, .inl (fun _ => 0))), (o, .inl (cL, 1, .inr (.inl fo))), ((rx 0), .inr (0, mf_M rx (nI 0) 0 ((xs (1 : Int32).toNatClampNeg) &&& 65535) 0))]) (w1 := [((rm 0), .inr (3, mf_D rm u_4 rw9 nw9 pb9 lc9))]) hP hD [7] [0, 1, 2, 3, 4, 5, 6, 8, 9, 10, 11, 12, 13, 14, 15, 16, 17, 18, 19, 20, 21, 22, 23] rfl rfl (by decide) (by decide) hk1 hFc hP1 hD1
  clear hK1 hk1 hPc hDc hFc
  generalize H1 = H at hP hS ht ⊢
  have hP : va_P (dC, dI) mr_cl [((rx 1), .inr (1, [.ref (rx 2), .ref (rx 3)])), ((rx 2), .inl (cI, 8, .inl (fun _ => 0))), ((rx 3), .inl (cI, 8, .inl (fun _ => 0))), ((rx 4), .inl (cR, 80, .inr (.inr (.inr (.inr (fun _ => none)))))), ((rx 5), .inl (cI, 80, .inl (fun _ => 0))), ((rx 6), .inl (cI, 80, .inl (fun _ => 0))), ((rx 7), .inl (cI, 8, .inl (fun _ => 0))), ((rm 1), .inl (cI, 8, .inl (fun _ => 0))), ((rm 3), .inl (cI, 81, .inl (fun _ => 0))), ((rm 4), .inl (cI, 81, .inl (fun _ => 0))), ((rm 5), .inl (cI, 81, .inl (fun _ => 0))), ((rm 6), .inl (cI, 81, .inl (fun _ => 0))), ((rm 7), .inl (cI, 81, .inl (fun _ => 0))), ((rm 8), .inl (cI, 81, .inl (fun _ => 0))), ((rm 9), .inl (cI, 81, .inl (fun _ => 0))), ((rm 10), .inl (cI, 81, .inl (fun _ => 0))), ((rm 11), .inl (cI, 81, .inl (fun _ => 0))), ((rm 12), .inl (cI, 648, .inl (fun _ => 0))), ((rm 13), .inl (cI, 648, .inl (fun _ => 0))), ((rm 16), .inl (cI, 80, .inl (fun _ => 0))), ((rm 18), .inl (cZ, 81, .inl (fun _ => 0))), (o, .inl (cL, 1, .inr (.inl fo))), ((rx 0), .inr (0, mf_M rx (nI 0) 0 ((xs (1 : Int32).toNatClampNeg) &&& 65535) 0)), ((rm 0), .inr (3, mf_D rm u_4 rw9 nw9 pb9 lc9))] H := hP
  have hD : va_D A [((rx 1), .inr (1, [.ref (rx 2), .ref (rx 3)])), ((rx 2), .inl (cI, 8, .inl (fun _ => 0))), ((rx 3), .inl (cI, 8, .inl (fun _ => 0))), ((rx 4), .inl (cR, 80, .inr (.inr (.inr (.inr (fun _ => none)))))), ((rx 5), .inl (cI, 80, .inl (fun _ => 0))), ((rx 6), .inl (cI, 80, .inl (fun _ => 0))), ((rx 7), .inl (cI, 8, .inl (fun _ => 0))), ((rm 1), .inl (cI, 8, .inl (fun _ => 0))), ((rm 3), .inl (cI, 81, .inl (fun _ => 0))), ((rm 4), .inl (cI, 81, .inl (fun _ => 0))), ((rm 5), .inl (cI, 81, .inl (fun _ => 0))), ((rm 6), .inl (cI, 81, .inl (fun _ => 0))), ((rm 7), .inl (cI, 81, .inl (fun _ => 0))), ((rm 8), .inl (cI, 81, .inl (fun _ => 0))), ((rm 9), .inl (cI, 81, .inl (fun _ => 0))), ((rm 10), .inl (cI, 81, .inl (fun _ => 0))), ((rm 11), .inl (cI, 81, .inl (fun _ => 0))), ((rm 12), .inl (cI, 648, .inl (fun _ => 0))), ((rm 13), .inl (cI, 648, .inl (fun _ => 0))), ((rm 16), .inl (cI, 80, .inl (fun _ => 0))), ((rm 18), .inl (cZ, 81, .inl (fun _ => 0))), (o, .inl (cL, 1, .inr (.inl fo))), ((rx 0), .inr (0, mf_M rx (nI 0) 0 ((xs (1 : Int32).toNatClampNeg) &&& 65535) 0)), ((rm 0), .inr (3, mf_D rm u_4 rw9 nw9 pb9 lc9))] := hD
  have hBH := hB.at hS hA0
  refine lv_goto (tgt := 978) hx hb d_L_law_605 (by decide) ?_
  refine lv_iinc (v := 8) (lv' := [(4, .int 8), (3, .ref o), (2, .ref (rm 0)), (1, .ref (rx 0)), (0, .ref b)]) hx hb d_L_law_978 hl (k := 0) rfl (by decide) (by decide) rfl (fun ls hl => ?_)
  refine lv_goto (tgt := 23) hx hb d_L_law_981 (by decide) ?_
  refine lv_iload hx hb d_L_law_23 (lv_at hl 0 rfl) ?_
  refine lv_aload_n hx hb d_L_law_25 rfl (lv_at hl 4 rfl) ?_
  refine va_slen hx hb hX hbl hbA hS d_L_law_26 ?_
  refine mr_top (y := 8) (by decide) ?_
  refine lv_bipush (v := 8) hx hb d_L_law_27 (by decide) ?_
  refine lv_isub hx hb d_L_law_29 ?_
  refine mr_top (y := 0) (by decide) ?_
  refine lv_icmp_gt (tgt := 984) hx hb d_L_law_30 (by decide) (fun _ => ?_) (fun c_5 => absurd c_5 (by decide))
  refine lv_iconst (v := 1) hx hb d_L_law_984 (by decide) ?_
  refine va_forget (fun q hq => hA0 _ (hS.2.2 q hq)) ?_
  refine W.widen (k := 600002) (n := 7302231) (by omega) (by omega) ?_
  exact lw_ret hx hb hr hlocks d_L_law_985
set_option maxHeartbeats 4000000 in
set_option maxRecDepth 100000 in
theorem law_8 {p : Program} {l : Launch} {e : Env} {s : State} {m : MethodId} {below : List Frame} {meth : Method} {c : Code} {b : Nat} {xs : Nat → Int32} {dC : Nat → ClassId} {dI : Nat → Nat → Nat} {cI cR cL cZ : ClassId} {rx rm : Nat → Nat} {o : Nat} {fo : Nat → Int64} {A : Nat → Prop} {H : Heap} {locs : List Loc} {ls : Array Slot} (hlt : l.stackTraces = false) (C0 : lw_At p s m meth c b 8 xs) (hB : mr_B s s) (hA : ∀ q : Nat, s.heap.size ≤ q → A q) (hA0 : ∀ q : Nat, A q → s.heap.size ≤ q) (hK : va_K (dC, dI) mr_cl [(cI, .int), (cR, .object "MeasureRows$Row"), (cL, .long), (cZ, .boolean)] s) (hP : va_P (dC, dI) mr_cl [((rx 0), .inr (0, mf_M rx (nI 0) 0 0 0)), ((rx 1), .inr (1, [.ref (rx 2), .ref (rx 3)])), ((rx 2), .inl (cI, 8, .inl (fun _ => 0))), ((rx 3), .inl (cI, 8, .inl (fun _ => 0))), ((rx 4), .inl (cR, 80, .inr (.inr (.inr (.inr (fun _ => none)))))), ((rx 5), .inl (cI, 80, .inl (fun _ => 0))), ((rx 6), .inl (cI, 80, .inl (fun _ => 0))), ((rx 7), .inl (cI, 8, .inl (fun _ => 0))), ((rm 0), .inr (3, mf_D rm 0 0 0 0 0)), ((rm 1), .inl (cI, 8, .inl (fun _ => 0))), ((rm 3), .inl (cI, 81, .inl (fun _ => 0))), ((rm 4), .inl (cI, 81, .inl (fun _ => 0))), ((rm 5), .inl (cI, 81, .inl (fun _ => 0))), ((rm 6), .inl (cI, 81, .inl (fun _ => 0))), ((rm 7), .inl (cI, 81, .inl (fun _ => 0))), ((rm 8), .inl (cI, 81, .inl (fun _ => 0))), ((rm 9), .inl (cI, 81, .inl (fun _ => 0))), ((rm 10), .inl (cI, 81, .inl (fun _ => 0))), ((rm 11), .inl (cI, 81, .inl (fun _ => 0))), ((rm 12), .inl (cI, 648, .inl (fun _ => 0))), ((rm 13), .inl (cI, 648, .inl (fun _ => 0))), ((rm 16), .inl (cI, 80, .inl (fun _ => 0))), ((rm 18), .inl (cZ, 81, .inl (fun _ => 0))), (o, .inl (cL, 1, .inr (.inl fo)))] H) (hD : va_D A [((rx 0), .inr (0, mf_M rx (nI 0) 0 0 0)), ((rx 1), .inr (1, [.ref (rx 2), .ref (rx 3)])), ((rx 2), .inl (cI, 8, .inl (fun _ => 0))), ((rx 3), .inl (cI, 8, .inl (fun _ => 0))), ((rx 4), .inl (cR, 80, .inr (.inr (.inr (.inr (fun _ => none)))))), ((rx 5), .inl (cI, 80, .inl (fun _ => 0))), ((rx 6), .inl (cI, 80, .inl (fun _ => 0))), ((rx 7), .inl (cI, 8, .inl (fun _ => 0))), ((rm 0), .inr (3, mf_D rm 0 0 0 0 0)), ((rm 1), .inl (cI, 8, .inl (fun _ => 0))), ((rm 3), .inl (cI, 81, .inl (fun _ => 0))), ((rm 4), .inl (cI, 81, .inl (fun _ => 0))), ((rm 5), .inl (cI, 81, .inl (fun _ => 0))), ((rm 6), .inl (cI, 81, .inl (fun _ => 0))), ((rm 7), .inl (cI, 81, .inl (fun _ => 0))), ((rm 8), .inl (cI, 81, .inl (fun _ => 0))), ((rm 9), .inl (cI, 81, .inl (fun _ => 0))), ((rm 10), .inl (cI, 81, .inl (fun _ => 0))), ((rm 11), .inl (cI, 81, .inl (fun _ => 0))), ((rm 12), .inl (cI, 648, .inl (fun _ => 0))), ((rm 13), .inl (cI, 648, .inl (fun _ => 0))), ((rm 16), .inl (cI, 80, .inl (fun _ => 0))), ((rm 18), .inl (cZ, 81, .inl (fun _ => 0))), (o, .inl (cL, 1, .inr (.inl fo)))]) (hS : va_S A s.heap H locs) (hl : lv_has ls 7 [(4, .int 0), (3, .ref o), (2, .ref (rm 0)), (1, .ref (rx 0)), (0, .ref b)]) : W p l e room_1 s m #[Value.ref b] below meth c H locs 24 2489 (lw_Z below #[Value.ref b] s) (F0 m 608 ls []) := by
  obtain ⟨hx, hb, hr, hml, hown, hts, hX, hbl, hlocks, hgv⟩ := C0
  have hbA : ¬ A b := fun h => absurd (hA0 b h) (Nat.not_le.mpr hbl)
  have hBH := hB.at hS hA0
  refine lv_aload_n hx hb d_L_law_608 rfl (lv_at hl 3 rfl) ?_
  refine lv_aload_n hx hb d_L_law_609 rfl (lv_at hl 4 rfl) ?_
  refine lv_iload hx hb d_L_law_610 (lv_at hl 0 rfl) ?_
  refine lv_iconst (v := 1) hx hb d_L_law_612 (by decide) ?_
  refine lv_iadd hx hb d_L_law_613 ?_
  refine mr_top (y := 1) (by decide) ?_
  refine va_sld hx hb hX hbl hbA hS (i := 1) (by unfold vp_in; decide) d_L_law_614 ?_
  refine lv_aload_n hx hb d_L_law_615 rfl (lv_at hl 4 rfl) ?_
  refine lv_iload hx hb d_L_law_616 (lv_at hl 0 rfl) ?_
  refine lv_iconst (v := 2) hx hb d_L_law_618 (by decide) ?_
  refine lv_iadd hx hb d_L_law_619 ?_
  refine mr_top (y := 2) (by decide) ?_
  refine va_sld hx hb hX hbl hbA hS (i := 2) (by unfold vp_in; decide) d_L_law_620 ?_
  refine lv_aload_n hx hb d_L_law_621 rfl (lv_at hl 4 rfl) ?_
  refine lv_iload hx hb d_L_law_622 (lv_at hl 0 rfl) ?_
  refine lv_iconst (v := 3) hx hb d_L_law_624 (by decide) ?_
  refine lv_iadd hx hb d_L_law_625 ?_
  refine mr_top (y := 3) (by decide) ?_
  refine va_sld hx hb hX hbl hbA hS (i := 3) (by unfold vp_in; decide) d_L_law_626 ?_
  refine lv_aload_n hx hb d_L_law_627 rfl (lv_at hl 4 rfl) ?_
  refine lv_iload hx hb d_L_law_628 (lv_at hl 0 rfl) ?_
  refine lv_iconst (v := 4) hx hb d_L_law_630 (by decide) ?_
  refine lv_iadd hx hb d_L_law_631 ?_
  refine mr_top (y := 4) (by decide) ?_
  refine va_sld hx hb hX hbl hbA hS (i := 4) (by unfold vp_in; decide) d_L_law_632 ?_
  refine lv_aload_n hx hb d_L_law_633 rfl (lv_at hl 1 rfl) ?_
  have hPc := hP.sub (ws' := [((rx 0), .inr (0, mf_M rx (nI 0) 0 0 0)), ((rx 1), .inr (1, [.ref (rx 2), .ref (rx 3)])), ((rx 2), .inl (cI, 8, .inl (fun _ => 0))), ((rx 3), .inl (cI, 8, .inl (fun _ => 0))), ((rx 4), .inl (cR, 80, .inr (.inr (.inr (.inr (fun _ => none)))))), ((rx 5), .inl (cI, 80, .inl (fun _ => 0))), ((rx 6), .inl (cI, 80, .inl (fun _ => 0))), ((rx 7), .inl (cI, 8, .inl (fun _ => 0))), (o, .inl (cL, 1, .inr (.inl fo)))]) [0, 1, 2, 3, 4, 5, 6, 7, 23] rfl
  have hDc := hD.sub (ws' := [((rx 0), .inr (0, mf_M rx (nI 0) 0 0 0)), ((rx 1), .inr (1, [.ref (rx 2), .ref (rx 3)])), ((rx 2), .inl (cI, 8, .inl (fun _ => 0))), ((rx 3), .inl (cI, 8, .inl (fun _ => 0))), ((rx 4), .inl (cR, 80, .inr (.inr (.inr (.inr (fun _ => none)))))), ((rx 5), .inl (cI, 80, .inl (fun _ => 0))), ((rx 6), .inl (cI, 80, .inl (fun _ => 0))), ((rx 7), .inl (cI, 8, .inl (fun _ => 0))), (o, .inl (cL, 1, .inr (.inl fo)))]) [0, 1, 2, 3, 4, 5, 6, 7, 23] (by decide) rfl
  have hFc := va_free (wc := [((rx 0), .inr (0, mf_M rx (nI 0) 0 0 0)), ((rx 1), .inr (1, [.ref (rx 2), .ref (rx 3)])), ((rx 2), .inl (cI, 8, .inl (fun _ => 0))), ((rx 3), .inl (cI, 8, .inl (fun _ => 0))), ((rx 4), .inl (cR, 80, .inr (.inr (.inr (.inr (fun _ => none)))))), ((rx 5), .inl (cI, 80, .inl (fun _ => 0))), ((rx 6), .inl (cI, 80, .inl (fun _ => 0))), ((rx 7), .inl (cI, 8, .inl (fun _ => 0))), (o, .inl (cL, 1, .inr (.inl fo)))]) hD hS hA [0, 1, 2, 3, 4, 5, 6, 7, 23] rfl
  refine va_calli (mr_runH (n := 6) (As := [.ref (rx 0), .int (xs (1 : Int32).toNatClampNeg), .int (xs (2 : Int32).toNatClampNeg), .int (xs (3 : Int32).toNatClampNeg), .int (xs (4 : Int32).toNatClampNeg), .ref o]) (rest := []) ⟨hx, hb, hml, hown, hts⟩ (mc_L_apply l hlt s dC dI cI cR cL cZ rx o fo _ (xs (1 : Int32).toNatClampNeg) (xs (2 : Int32).toNatClampNeg) (xs (3 : Int32).toNatClampNeg) (xs (4 : Int32).toNatClampNeg)) (hts (Cond.codeWith y_L_apply b_L_apply 7 (some .int) [(0, 14, 17, 22)]) mw_346) (hts (Cond.initialized y_L_apply.cls) mw_347) (hts (Cond.methodLink "MeasureRowsLaw" 86 y_L_apply) mw_348) (hts (Cond.static y_L_apply) mw_349) rfl rfl (by decide +kernel) ⟨Nat.le_of_ble_eq_true rfl, Nat.le_of_ble_eq_true rfl⟩ (mr_preCS hBH hK hPc (hDc.weaken (fun _ _ _ h => hA0 _ h))) rfl hl.1 rfl (Nat.le_of_ble_eq_true rfl) d_L_law_634 ⟨Nat.le_of_ble_eq_true rfl, Nat.le_of_ble_eq_true rfl⟩) hS (fun q _ h => hFc q h) hFc (fun r9 u9 t H1 locs ht hvm hw hB1 hz1 hk1 hS => ?_)
  obtain ⟨hP1, hK1, hD1⟩ := hB1
  rw [ht] at hP1
  obtain ⟨hP, hD⟩ := va_join (wr := [((rm 0), .inr (3, mf_D rm 0 0 0 0 0)), ((rm 1), .inl (cI, 8, .inl (fun _ => 0))), ((rm 3), .inl (cI, 81, .inl (fun _ => 0))), ((rm 4), .inl (cI, 81, .inl (fun _ => 0))), ((rm 5), .inl (cI, 81, .inl (fun _ => 0))), ((rm 6), .inl (cI, 81, .inl (fun _ => 0))), ((rm 7), .inl (cI, 81, .inl (fun _ => 0))), ((rm 8), .inl (cI, 81, .inl (fun _ => 0))), ((rm 9), .inl (cI, 81, .inl (fun _ => 0))), ((rm 10), .inl (cI, 81, .inl (fun _ => 0))), ((rm 11), .inl (cI, 81, .inl (fun _ => 0))), ((rm 12), .inl (cI, 648, .inl (fun _ => 0))), ((rm 13), .inl (cI, 648, .inl (fun _ => 0))), ((rm 16), .inl (cI, 80, .inl (fun _ => 0))), ((rm 18), .inl (cZ, 81, .inl (fun _ => 0)))]) (w1 := [(o, .inl (cL, 1, .inr (.inl u9)))]) hP hD [0, 1, 2, 3, 4, 5, 6, 7, 23] [8, 9, 10, 11, 12, 13, 14, 15, 16, 17, 18, 19, 20, 21, 22] rfl rfl (by decide) (by decide) hk1 hFc hP1 hD1
  clear hK1 hk1 hPc hDc hFc
  generalize H1 = H at hP hS ht ⊢
  obtain ⟨rfl, hu9⟩ := hw
  have hP : va_P (dC, dI) mr_cl [((rm 0), .inr (3, mf_D rm 0 0 0 0 0)), ((rm 1), .inl (cI, 8, .inl (fun _ => 0))), ((rm 3), .inl (cI, 81, .inl (fun _ => 0))), ((rm 4), .inl (cI, 81, .inl (fun _ => 0))), ((rm 5), .inl (cI, 81, .inl (fun _ => 0))), ((rm 6), .inl (cI, 81, .inl (fun _ => 0))), ((rm 7), .inl (cI, 81, .inl (fun _ => 0))), ((rm 8), .inl (cI, 81, .inl (fun _ => 0))), ((rm 9), .inl (cI, 81, .inl (fun _ => 0))), ((rm 10), .inl (cI, 81, .inl (fun _ => 0))), ((rm 11), .inl (cI, 81, .inl (fun _ => 0))), ((rm 12), .inl (cI, 648, .inl (fun _ => 0))), ((rm 13), .inl (cI, 648, .inl (fun _ => 0))), ((rm 16), .inl (cI, 80, .inl (fun _ => 0))), ((rm 18), .inl (cZ, 81, .inl (fun _ => 0))), (o, .inl (cL, 1, .inr (.inl u9)))] H := hP
  have hD : va_D A [((rm 0), .inr (3, mf_D rm 0 0 0 0 0)), ((rm 1), .inl (cI, 8, .inl (fun _ => 0))), ((rm 3), .inl (cI, 81, .inl (fun _ => 0))), ((rm 4), .inl (cI, 81, .inl (fun _ => 0))), ((rm 5), .inl (cI, 81, .inl (fun _ => 0))), ((rm 6), .inl (cI, 81, .inl (fun _ => 0))), ((rm 7), .inl (cI, 81, .inl (fun _ => 0))), ((rm 8), .inl (cI, 81, .inl (fun _ => 0))), ((rm 9), .inl (cI, 81, .inl (fun _ => 0))), ((rm 10), .inl (cI, 81, .inl (fun _ => 0))), ((rm 11), .inl (cI, 81, .inl (fun _ => 0))), ((rm 12), .inl (cI, 648, .inl (fun _ => 0))), ((rm 13), .inl (cI, 648, .inl (fun _ => 0))), ((rm 16), .inl (cI, 80, .inl (fun _ => 0))), ((rm 18), .inl (cZ, 81, .inl (fun _ => 0))), (o, .inl (cL, 1, .inr (.inl u9)))] := hD
  have hBH := hB.at hS hA0
  refine W.widen (k := 25) (n := 2495) (by omega) (by omega) ?_
  refine lv_istore (lv' := [(5, .int (mk_M_apply (xs (1 : Int32).toNatClampNeg) (xs (2 : Int32).toNatClampNeg) (xs (3 : Int32).toNatClampNeg) (xs (4 : Int32).toNatClampNeg))), (4, .int 0), (3, .ref o), (2, .ref (rm 0)), (1, .ref (rx 0)), (0, .ref b)]) hx hb d_L_law_637 hl (by decide) rfl (fun ls hl => ?_)
  refine lv_aload_n hx hb d_L_law_639 rfl (lv_at hl 3 rfl) ?_
  refine lv_aload_n hx hb d_L_law_640 rfl (lv_at hl 5 rfl) ?_
  refine lv_iload hx hb d_L_law_641 (lv_at hl 1 rfl) ?_
  refine lv_iconst (v := 1) hx hb d_L_law_643 (by decide) ?_
  refine lv_iadd hx hb d_L_law_644 ?_
  refine mr_top (y := 1) (by decide) ?_
  refine va_sld hx hb hX hbl hbA hS (i := 1) (by unfold vp_in; decide) d_L_law_645 ?_
  refine lv_aload_n hx hb d_L_law_646 rfl (lv_at hl 5 rfl) ?_
  refine lv_iload hx hb d_L_law_647 (lv_at hl 1 rfl) ?_
  refine lv_iconst (v := 2) hx hb d_L_law_649 (by decide) ?_
  refine lv_iadd hx hb d_L_law_650 ?_
  refine mr_top (y := 2) (by decide) ?_
  refine va_sld hx hb hX hbl hbA hS (i := 2) (by unfold vp_in; decide) d_L_law_651 ?_
  refine lv_aload_n hx hb d_L_law_652 rfl (lv_at hl 5 rfl) ?_
  refine lv_iload hx hb d_L_law_653 (lv_at hl 1 rfl) ?_
  refine lv_iconst (v := 3) hx hb d_L_law_655 (by decide) ?_
  refine lv_iadd hx hb d_L_law_656 ?_
  refine mr_top (y := 3) (by decide) ?_
  refine va_sld hx hb hX hbl hbA hS (i := 3) (by unfold vp_in; decide) d_L_law_657 ?_
  refine lv_aload_n hx hb d_L_law_658 rfl (lv_at hl 5 rfl) ?_
  refine lv_iload hx hb d_L_law_659 (lv_at hl 1 rfl) ?_
  refine lv_iconst (v := 4) hx hb d_L_law_661 (by decide) ?_
  refine lv_iadd hx hb d_L_law_662 ?_
  refine mr_top (y := 4) (by decide) ?_
  refine va_sld hx hb hX hbl hbA hS (i := 4) (by unfold vp_in; decide) d_L_law_663 ?_
  have hPc := hP.sub (ws' := [((rm 0), .inr (3, mf_D rm 0 0 0 0 0))]) [0] rfl
  have hDc := hD.sub (ws' := [((rm 0), .inr (3, mf_D rm 0 0 0 0 0))]) [0] (by decide) rfl
  have hFc := va_free (wc := [((rm 0), .inr (3, mf_D rm 0 0 0 0 0))]) hD hS hA [0] rfl
  refine va_calli (va_runV (As := [.int (xs (1 : Int32).toNatClampNeg), .int (xs (2 : Int32).toNatClampNeg), .int (xs (3 : Int32).toNatClampNeg), .int (xs (4 : Int32).toNatClampNeg)]) (rest := []) (C := R_D) ⟨hx, hb, hml, hown, hts⟩ (mc_D_apply l s dC dI cI cR cL cZ rm 0 _ (xs (1 : Int32).toNatClampNeg) (xs (2 : Int32).toNatClampNeg) (xs (3 : Int32).toNatClampNeg) (xs (4 : Int32).toNatClampNeg)) ⟨(mr_cB 4 (hts (Cond.code y_D_apply b_D_apply 9 (some .int)) mw_350) (hts (Cond.initialized y_D_apply.cls) mw_351) (hts (Cond.methodLink "MeasureRowsLaw" 89 y_D_apply) mw_352) rfl rfl (by decide +kernel) ⟨Nat.le_of_ble_eq_true rfl, Nat.le_of_ble_eq_true rfl⟩), (hts (Cond.instanceMethod y_D_apply) mw_353), (hts (Cond.selects "MeasureRowsModel" y_D_apply y_D_apply) mw_354)⟩ (mr_preCV hBH hK hPc (hDc.weaken (fun _ _ _ h => hA0 _ h)) (ci := 3) (q0 := 0) rfl rfl) rfl rfl hl.1 rfl (lv_room (Nat.le_of_ble_eq_true rfl)) d_L_law_664 ⟨Nat.le_of_ble_eq_true rfl, Nat.le_of_ble_eq_true rfl⟩) hS (fun q _ h => hFc q h) hFc (fun r_1 u_2 t H1 locs ht hvm hw hB1 hz1 hk1 hS => ?_)
  obtain ⟨rw9, nw9, pb9, lc9, hP1, hK1, hD1⟩ := hB1
  rw [ht] at hP1
  obtain ⟨hP, hD⟩ := va_join (wr := [((rm 1), .inl (cI, 8, .inl (fun _ => 0))), ((rm 3), .inl (cI, 81, .inl (fun _ => 0))), ((rm 4), .inl (cI, 81, .inl (fun _ => 0))), ((rm 5), .inl (cI, 81, .inl (fun _ => 0))), ((rm 6), .inl (cI, 81, .inl (fun _ => 0))), ((rm 7), .inl (cI, 81, .inl (fun _ => 0))), ((rm 8), .inl (cI, 81, .inl (fun _ => 0))), ((rm 9), .inl (cI, 81, .inl (fun _ => 0))), ((rm 10), .inl (cI, 81, .inl (fun _ => 0))), ((rm 11), .inl (cI, 81, .inl (fun _ => 0))), ((rm 12), .inl (cI, 648, .inl (fun _ => 0))), ((rm 13), .inl (cI, 648, .inl (fun _ => 0))), ((rm 16), .inl (cI, 80, .inl (fun _ => 0))), ((rm 18), .inl (cZ, 81, .inl (fun _ => 0))), (o, .inl (cL, 1, .inr (.inl u9)))]) (w1 := [((rm 0), .inr (3, mf_D rm u_2 rw9 nw9 pb9 lc9))]) hP hD [0] [1, 2, 3, 4, 5, 6, 7, 8, 9, 10, 11, 12, 13, 14, 15] rfl rfl (by decide) (by decide) hk1 hFc hP1 hD1
  clear hK1 hk1 hPc hDc hFc
  generalize H1 = H at hP hS ht ⊢
  have hP : va_P (dC, dI) mr_cl [((rm 1), .inl (cI, 8, .inl (fun _ => 0))), ((rm 3), .inl (cI, 81, .inl (fun _ => 0))), ((rm 4), .inl (cI, 81, .inl (fun _ => 0))), ((rm 5), .inl (cI, 81, .inl (fun _ => 0))), ((rm 6), .inl (cI, 81, .inl (fun _ => 0))), ((rm 7), .inl (cI, 81, .inl (fun _ => 0))), ((rm 8), .inl (cI, 81, .inl (fun _ => 0))), ((rm 9), .inl (cI, 81, .inl (fun _ => 0))), ((rm 10), .inl (cI, 81, .inl (fun _ => 0))), ((rm 11), .inl (cI, 81, .inl (fun _ => 0))), ((rm 12), .inl (cI, 648, .inl (fun _ => 0))), ((rm 13), .inl (cI, 648, .inl (fun _ => 0))), ((rm 16), .inl (cI, 80, .inl (fun _ => 0))), ((rm 18), .inl (cZ, 81, .inl (fun _ => 0))), (o, .inl (cL, 1, .inr (.inl u9))), ((rm 0), .inr (3, mf_D rm u_2 rw9 nw9 pb9 lc9))] H := hP
  have hD : va_D A [((rm 1), .inl (cI, 8, .inl (fun _ => 0))), ((rm 3), .inl (cI, 81, .inl (fun _ => 0))), ((rm 4), .inl (cI, 81, .inl (fun _ => 0))), ((rm 5), .inl (cI, 81, .inl (fun _ => 0))), ((rm 6), .inl (cI, 81, .inl (fun _ => 0))), ((rm 7), .inl (cI, 81, .inl (fun _ => 0))), ((rm 8), .inl (cI, 81, .inl (fun _ => 0))), ((rm 9), .inl (cI, 81, .inl (fun _ => 0))), ((rm 10), .inl (cI, 81, .inl (fun _ => 0))), ((rm 11), .inl (cI, 81, .inl (fun _ => 0))), ((rm 12), .inl (cI, 648, .inl (fun _ => 0))), ((rm 13), .inl (cI, 648, .inl (fun _ => 0))), ((rm 16), .inl (cI, 80, .inl (fun _ => 0))), ((rm 18), .inl (cZ, 81, .inl (fun _ => 0))), (o, .inl (cL, 1, .inr (.inl u9))), ((rm 0), .inr (3, mf_D rm u_2 rw9 nw9 pb9 lc9))] := hD
  have hBH := hB.at hS hA0
  obtain ⟨rfl, rfl⟩ := hw
  refine lv_istore (lv' := [(6, .int (mv_D_apply0 (xs (1 : Int32).toNatClampNeg) (xs (2 : Int32).toNatClampNeg) (xs (3 : Int32).toNatClampNeg) (xs (4 : Int32).toNatClampNeg))), (5, .int (mk_M_apply (xs (1 : Int32).toNatClampNeg) (xs (2 : Int32).toNatClampNeg) (xs (3 : Int32).toNatClampNeg) (xs (4 : Int32).toNatClampNeg))), (4, .int 0), (3, .ref o), (2, .ref (rm 0)), (1, .ref (rx 0)), (0, .ref b)]) hx hb d_L_law_667 hl (by decide) rfl (fun ls hl => ?_)
  refine lv_aload_n hx hb d_L_law_669 rfl (lv_at hl 4 rfl) ?_
  refine vp_callSi (va_Run.run (va_runV (As := []) (rest := []) (C := R_D) ⟨hx, hb, hml, hown, hts⟩ (mc_D_thrown l s dC dI cI cR cL cZ rm (mt_D_apply0 (xs (1 : Int32).toNatClampNeg) (xs (2 : Int32).toNatClampNeg) (xs (3 : Int32).toNatClampNeg) (xs (4 : Int32).toNatClampNeg)) rw9 nw9 pb9 lc9) ⟨(mr_cB 0 (hts (Cond.code y_D_thrown b_D_thrown 1 (some .int)) mw_284) (hts (Cond.initialized y_D_thrown.cls) mw_285) (hts (Cond.methodLink "MeasureRowsLaw" 58 y_D_thrown) mw_286) rfl rfl (by decide +kernel) ⟨Nat.le_of_ble_eq_true rfl, Nat.le_of_ble_eq_true rfl⟩), (hts (Cond.instanceMethod y_D_thrown) mw_287), (hts (Cond.selects "MeasureRowsModel" y_D_thrown y_D_thrown) mw_288)⟩ (mr_preV hBH hK (hP.sub (ws' := [((rm 0), .inr (3, mf_D rm (mt_D_apply0 (xs (1 : Int32).toNatClampNeg) (xs (2 : Int32).toNatClampNeg) (xs (3 : Int32).toNatClampNeg) (xs (4 : Int32).toNatClampNeg)) rw9 nw9 pb9 lc9))]) [15] rfl) (ci := 3) (q0 := 0) rfl rfl) rfl rfl hl.1 rfl (lv_room (Nat.le_of_ble_eq_true rfl)) d_L_law_670 ⟨Nat.le_of_ble_eq_true rfl, Nat.le_of_ble_eq_true rfl⟩)) (fun r_3 h_4 => ?_)
  subst h_4
  refine mr_top (y := mt_D_apply0 (xs (1 : Int32).toNatClampNeg) (xs (2 : Int32).toNatClampNeg) (xs (3 : Int32).toNatClampNeg) (xs (4 : Int32).toNatClampNeg)) rfl ?_
  refine lv_iload hx hb d_L_law_673 (lv_at hl 1 rfl) ?_
  refine lv_icmp_eq (tgt := 680) hx hb d_L_law_675 (by decide) (fun _ => ?_) (fun c_5 => absurd (vk_apply (xs (1 : Int32).toNatClampNeg) (xs (2 : Int32).toNatClampNeg) (xs (3 : Int32).toNatClampNeg) (xs (4 : Int32).toNatClampNeg)) c_5)
  refine lv_iload hx hb d_L_law_680 (lv_at hl 1 rfl) ?_
  refine lv_if_ne (tgt := 697) hx hb d_L_law_682 (by decide) (fun c_6 => ?_) (fun c_6 => ?_)
  · refine lv_goto (tgt := 978) hx hb d_L_law_697 (by decide) ?_
    refine lv_iinc (v := 8) (lv' := [(4, .int 8), (6, .int (mv_D_apply0 (xs (1 : Int32).toNatClampNeg) (xs (2 : Int32).toNatClampNeg) (xs (3 : Int32).toNatClampNeg) (xs (4 : Int32).toNatClampNeg))), (5, .int (mk_M_apply (xs (1 : Int32).toNatClampNeg) (xs (2 : Int32).toNatClampNeg) (xs (3 : Int32).toNatClampNeg) (xs (4 : Int32).toNatClampNeg))), (3, .ref o), (2, .ref (rm 0)), (1, .ref (rx 0)), (0, .ref b)]) hx hb d_L_law_978 hl (k := 2) rfl (by decide) (by decide) rfl (fun ls hl => ?_)
    refine lv_goto (tgt := 23) hx hb d_L_law_981 (by decide) ?_
    refine lv_iload hx hb d_L_law_23 (lv_at hl 0 rfl) ?_
    refine lv_aload_n hx hb d_L_law_25 rfl (lv_at hl 6 rfl) ?_
    refine va_slen hx hb hX hbl hbA hS d_L_law_26 ?_
    refine mr_top (y := 8) (by decide) ?_
    refine lv_bipush (v := 8) hx hb d_L_law_27 (by decide) ?_
    refine lv_isub hx hb d_L_law_29 ?_
    refine mr_top (y := 0) (by decide) ?_
    refine lv_icmp_gt (tgt := 984) hx hb d_L_law_30 (by decide) (fun _ => ?_) (fun c_7 => absurd c_7 (by decide))
    refine lv_iconst (v := 1) hx hb d_L_law_984 (by decide) ?_
    refine va_forget (fun q hq => hA0 _ (hS.2.2 q hq)) ?_
    refine W.widen (k := 600002) (n := 7302231) (by omega) (by omega) ?_
    exact lw_ret hx hb hr hlocks d_L_law_985
  · refine lv_aload_n hx hb d_L_law_685 rfl (lv_at hl 3 rfl) ?_
    refine lv_iconst (v := 0) hx hb d_L_law_686 (by decide) ?_
    refine va_lald (D := (dC, dI)) hx hb hK hP 14 2 rfl rfl (i := 0) (by unfold vp_in; decide) d_L_law_687 ?_
    refine mr_topv (show Value.long (u9 (0 : Int32).toNatClampNeg) = .long (((mv_M_apply (xs (1 : Int32).toNatClampNeg) (xs (2 : Int32).toNatClampNeg) (xs (3 : Int32).toNatClampNeg) (xs (4 : Int32).toNatClampNeg)) : Int32).toInt64) from congrArg Value.long (hu9 c_6)) ?_
    refine lv_iload hx hb d_L_law_688 (lv_at hl 0 rfl) ?_
    refine lv_i2l (v := (mv_D_apply0 (xs (1 : Int32).toNatClampNeg) (xs (2 : Int32).toNatClampNeg) (xs (3 : Int32).toNatClampNeg) (xs (4 : Int32).toNatClampNeg)).toInt64) hx hb d_L_law_690 rfl ?_
    refine W.lcmp hx hb d_L_law_691 ?_
    refine lv_if_eq (tgt := 697) hx hb d_L_law_692 (by decide) (fun _ => ?_) (fun c_8 => absurd (v_li (v_apply (xs (1 : Int32).toNatClampNeg) (xs (2 : Int32).toNatClampNeg) (xs (3 : Int32).toNatClampNeg) (xs (4 : Int32).toNatClampNeg))) c_8)
    refine lv_goto (tgt := 978) hx hb d_L_law_697 (by decide) ?_
    refine lv_iinc (v := 8) (lv' := [(4, .int 8), (6, .int (mv_D_apply0 (xs (1 : Int32).toNatClampNeg) (xs (2 : Int32).toNatClampNeg) (xs (3 : Int32).toNatClampNeg) (xs (4 : Int32).toNatClampNeg))), (5, .int (mk_M_apply (xs (1 : Int32).toNatClampNeg) (xs (2 : Int32).toNatClampNeg) (xs (3 : Int32).toNatClampNeg) (xs (4 : Int32).toNatClampNeg))), (3, .ref o), (2, .ref (rm 0)), (1, .ref (rx 0)), (0, .ref b)]) hx hb d_L_law_978 hl (k := 2) rfl (by decide) (by decide) rfl (fun ls hl => ?_)
    refine lv_goto (tgt := 23) hx hb d_L_law_981 (by decide) ?_
    refine lv_iload hx hb d_L_law_23 (lv_at hl 0 rfl) ?_
    refine lv_aload_n hx hb d_L_law_25 rfl (lv_at hl 6 rfl) ?_
    refine va_slen hx hb hX hbl hbA hS d_L_law_26 ?_
    refine mr_top (y := 8) (by decide) ?_
    refine lv_bipush (v := 8) hx hb d_L_law_27 (by decide) ?_
    refine lv_isub hx hb d_L_law_29 ?_
    refine mr_top (y := 0) (by decide) ?_
    refine lv_icmp_gt (tgt := 984) hx hb d_L_law_30 (by decide) (fun _ => ?_) (fun c_9 => absurd c_9 (by decide))
    refine lv_iconst (v := 1) hx hb d_L_law_984 (by decide) ?_
    refine va_forget (fun q hq => hA0 _ (hS.2.2 q hq)) ?_
    refine W.widen (k := 600002) (n := 7302231) (by omega) (by omega) ?_
    exact lw_ret hx hb hr hlocks d_L_law_985
set_option maxHeartbeats 4000000 in
set_option maxRecDepth 100000 in
theorem law_9 {p : Program} {l : Launch} {e : Env} {s : State} {m : MethodId} {below : List Frame} {meth : Method} {c : Code} {b : Nat} {xs : Nat → Int32} {dC : Nat → ClassId} {dI : Nat → Nat → Nat} {cI cR cL cZ : ClassId} {rx rm : Nat → Nat} {o : Nat} {fo : Nat → Int64} {A : Nat → Prop} {H : Heap} {locs : List Loc} {ls : Array Slot} (hlt : l.stackTraces = false) (C0 : lw_At p s m meth c b 8 xs) (hB : mr_B s s) (hA : ∀ q : Nat, s.heap.size ≤ q → A q) (hA0 : ∀ q : Nat, A q → s.heap.size ≤ q) (hK : va_K (dC, dI) mr_cl [(cI, .int), (cR, .object "MeasureRows$Row"), (cL, .long), (cZ, .boolean)] s) (hP : va_P (dC, dI) mr_cl [((rx 0), .inr (0, mf_M rx (nI 0) 0 0 0)), ((rx 1), .inr (1, [.ref (rx 2), .ref (rx 3)])), ((rx 2), .inl (cI, 8, .inl (fun _ => 0))), ((rx 3), .inl (cI, 8, .inl (fun _ => 0))), ((rx 4), .inl (cR, 80, .inr (.inr (.inr (.inr (fun _ => none)))))), ((rx 5), .inl (cI, 80, .inl (fun _ => 0))), ((rx 6), .inl (cI, 80, .inl (fun _ => 0))), ((rx 7), .inl (cI, 8, .inl (fun _ => 0))), ((rm 0), .inr (3, mf_D rm 0 0 0 0 0)), ((rm 1), .inl (cI, 8, .inl (fun _ => 0))), ((rm 3), .inl (cI, 81, .inl (fun _ => 0))), ((rm 4), .inl (cI, 81, .inl (fun _ => 0))), ((rm 5), .inl (cI, 81, .inl (fun _ => 0))), ((rm 6), .inl (cI, 81, .inl (fun _ => 0))), ((rm 7), .inl (cI, 81, .inl (fun _ => 0))), ((rm 8), .inl (cI, 81, .inl (fun _ => 0))), ((rm 9), .inl (cI, 81, .inl (fun _ => 0))), ((rm 10), .inl (cI, 81, .inl (fun _ => 0))), ((rm 11), .inl (cI, 81, .inl (fun _ => 0))), ((rm 12), .inl (cI, 648, .inl (fun _ => 0))), ((rm 13), .inl (cI, 648, .inl (fun _ => 0))), ((rm 16), .inl (cI, 80, .inl (fun _ => 0))), ((rm 18), .inl (cZ, 81, .inl (fun _ => 0))), (o, .inl (cL, 1, .inr (.inl fo)))] H) (hD : va_D A [((rx 0), .inr (0, mf_M rx (nI 0) 0 0 0)), ((rx 1), .inr (1, [.ref (rx 2), .ref (rx 3)])), ((rx 2), .inl (cI, 8, .inl (fun _ => 0))), ((rx 3), .inl (cI, 8, .inl (fun _ => 0))), ((rx 4), .inl (cR, 80, .inr (.inr (.inr (.inr (fun _ => none)))))), ((rx 5), .inl (cI, 80, .inl (fun _ => 0))), ((rx 6), .inl (cI, 80, .inl (fun _ => 0))), ((rx 7), .inl (cI, 8, .inl (fun _ => 0))), ((rm 0), .inr (3, mf_D rm 0 0 0 0 0)), ((rm 1), .inl (cI, 8, .inl (fun _ => 0))), ((rm 3), .inl (cI, 81, .inl (fun _ => 0))), ((rm 4), .inl (cI, 81, .inl (fun _ => 0))), ((rm 5), .inl (cI, 81, .inl (fun _ => 0))), ((rm 6), .inl (cI, 81, .inl (fun _ => 0))), ((rm 7), .inl (cI, 81, .inl (fun _ => 0))), ((rm 8), .inl (cI, 81, .inl (fun _ => 0))), ((rm 9), .inl (cI, 81, .inl (fun _ => 0))), ((rm 10), .inl (cI, 81, .inl (fun _ => 0))), ((rm 11), .inl (cI, 81, .inl (fun _ => 0))), ((rm 12), .inl (cI, 648, .inl (fun _ => 0))), ((rm 13), .inl (cI, 648, .inl (fun _ => 0))), ((rm 16), .inl (cI, 80, .inl (fun _ => 0))), ((rm 18), .inl (cZ, 81, .inl (fun _ => 0))), (o, .inl (cL, 1, .inr (.inl fo)))]) (hS : va_S A s.heap H locs) (hl : lv_has ls 7 [(4, .int 0), (3, .ref o), (2, .ref (rm 0)), (1, .ref (rx 0)), (0, .ref b)]) : W p l e room_1 s m #[Value.ref b] below meth c H locs 24 2489 (lw_Z below #[Value.ref b] s) (F0 m 700 ls []) := by
  obtain ⟨hx, hb, hr, hml, hown, hts, hX, hbl, hlocks, hgv⟩ := C0
  have hbA : ¬ A b := fun h => absurd (hA0 b h) (Nat.not_le.mpr hbl)
  have hBH := hB.at hS hA0
  refine lv_aload_n hx hb d_L_law_700 rfl (lv_at hl 3 rfl) ?_
  refine lv_aload_n hx hb d_L_law_701 rfl (lv_at hl 4 rfl) ?_
  refine lv_iload hx hb d_L_law_702 (lv_at hl 0 rfl) ?_
  refine lv_iconst (v := 1) hx hb d_L_law_704 (by decide) ?_
  refine lv_iadd hx hb d_L_law_705 ?_
  refine mr_top (y := 1) (by decide) ?_
  refine va_sld hx hb hX hbl hbA hS (i := 1) (by unfold vp_in; decide) d_L_law_706 ?_
  refine vp_callSi (va_Run.run (va_runV (As := [.int (xs (1 : Int32).toNatClampNeg)]) (rest := []) (C := R_M) ⟨hx, hb, hml, hown, hts⟩ (mc_M_at l s dC dI cI cR cL cZ rx (xs (1 : Int32).toNatClampNeg)) ⟨(mr_cB 1 (hts (Cond.code y_M_at b_M_at 2 (some .int)) mw_355) (hts (Cond.initialized y_M_at.cls) mw_356) (hts (Cond.methodLink "MeasureRowsLaw" 90 y_M_at) mw_357) rfl rfl (by decide +kernel) ⟨Nat.le_of_ble_eq_true rfl, Nat.le_of_ble_eq_true rfl⟩), (hts (Cond.instanceMethod y_M_at) mw_358), (hts (Cond.selects "MeasureRows" y_M_at y_M_at) mw_359)⟩ (mr_preV hBH hK (hP.sub (ws' := [((rx 0), .inr (0, mf_M rx (nI 0) 0 0 0)), ((rx 1), .inr (1, [.ref (rx 2), .ref (rx 3)])), ((rx 2), .inl (cI, 8, .inl (fun _ => 0))), ((rx 3), .inl (cI, 8, .inl (fun _ => 0))), ((rx 4), .inl (cR, 80, .inr (.inr (.inr (.inr (fun _ => none)))))), ((rx 5), .inl (cI, 80, .inl (fun _ => 0))), ((rx 6), .inl (cI, 80, .inl (fun _ => 0))), ((rx 7), .inl (cI, 8, .inl (fun _ => 0)))]) [0, 1, 2, 3, 4, 5, 6, 7] rfl) (ci := 0) (q0 := 0) rfl rfl) rfl rfl hl.1 rfl (lv_room (Nat.le_of_ble_eq_true rfl)) d_L_law_707 ⟨Nat.le_of_ble_eq_true rfl, Nat.le_of_ble_eq_true rfl⟩)) (fun r_1 h_2 => ?_)
  subst h_2
  refine lv_aload_n hx hb d_L_law_710 rfl (lv_at hl 2 rfl) ?_
  refine lv_aload_n hx hb d_L_law_711 rfl (lv_at hl 4 rfl) ?_
  refine lv_iload hx hb d_L_law_712 (lv_at hl 0 rfl) ?_
  refine lv_iconst (v := 1) hx hb d_L_law_714 (by decide) ?_
  refine lv_iadd hx hb d_L_law_715 ?_
  refine mr_top (y := 1) (by decide) ?_
  refine va_sld hx hb hX hbl hbA hS (i := 1) (by unfold vp_in; decide) d_L_law_716 ?_
  have hPc := hP.sub (ws' := [((rm 0), .inr (3, mf_D rm 0 0 0 0 0)), ((rm 16), .inl (cI, 80, .inl (fun _ => 0)))]) [8, 21] rfl
  have hDc := hD.sub (ws' := [((rm 0), .inr (3, mf_D rm 0 0 0 0 0)), ((rm 16), .inl (cI, 80, .inl (fun _ => 0)))]) [8, 21] (by decide) rfl
  have hFc := va_free (wc := [((rm 0), .inr (3, mf_D rm 0 0 0 0 0)), ((rm 16), .inl (cI, 80, .inl (fun _ => 0)))]) hD hS hA [8, 21] rfl
  refine va_calli (va_runV (As := [.int (xs (1 : Int32).toNatClampNeg)]) (rest := [.int (mv_M_at  (xs (1 : Int32).toNatClampNeg))]) (C := R_D) ⟨hx, hb, hml, hown, hts⟩ (mc_D_at l s dC dI cI cR cL cZ rm 0 _ (xs (1 : Int32).toNatClampNeg)) ⟨(mr_cB 1 (hts (Cond.code y_D_at b_D_at 2 (some .int)) mw_360) (hts (Cond.initialized y_D_at.cls) mw_361) (hts (Cond.methodLink "MeasureRowsLaw" 94 y_D_at) mw_362) rfl rfl (by decide +kernel) ⟨Nat.le_of_ble_eq_true rfl, Nat.le_of_ble_eq_true rfl⟩), (hts (Cond.instanceMethod y_D_at) mw_363), (hts (Cond.selects "MeasureRowsModel" y_D_at y_D_at) mw_364)⟩ (mr_preCV hBH hK hPc (hDc.weaken (fun _ _ _ h => hA0 _ h)) (ci := 3) (q0 := 0) rfl rfl) rfl rfl hl.1 rfl (lv_room (Nat.le_of_ble_eq_true rfl)) d_L_law_717 ⟨Nat.le_of_ble_eq_true rfl, Nat.le_of_ble_eq_true rfl⟩) hS (fun q _ h => hFc q h) hFc (fun r_3 u_4 t H1 locs ht hvm hw hB1 hz1 hk1 hS => ?_)
  obtain ⟨rw9, nw9, pb9, lc9, hP1, hK1, hD1⟩ := hB1
  rw [ht] at hP1
  obtain ⟨hP, hD⟩ := va_join (wr := [((rx 0), .inr (0, mf_M rx (nI 0) 0 0 0)), ((rx 1), .inr (1, [.ref (rx 2), .ref (rx 3)])), ((rx 2), .inl (cI, 8, .inl (fun _ => 0))), ((rx 3), .inl (cI, 8, .inl (fun _ => 0))), ((rx 4), .inl (cR, 80, .inr (.inr (.inr (.inr (fun _ => none)))))), ((rx 5), .inl (cI, 80, .inl (fun _ => 0))), ((rx 6), .inl (cI, 80, .inl (fun _ => 0))), ((rx 7), .inl (cI, 8, .inl (fun _ => 0))), ((rm 1), .inl (cI, 8, .inl (fun _ => 0))), ((rm 3), .inl (cI, 81, .inl (fun _ => 0))), ((rm 4), .inl (cI, 81, .inl (fun _ => 0))), ((rm 5), .inl (cI, 81, .inl (fun _ => 0))), ((rm 6), .inl (cI, 81, .inl (fun _ => 0))), ((rm 7), .inl (cI, 81, .inl (fun _ => 0))), ((rm 8), .inl (cI, 81, .inl (fun _ => 0))), ((rm 9), .inl (cI, 81, .inl (fun _ => 0))), ((rm 10), .inl (cI, 81, .inl (fun _ => 0))), ((rm 11), .inl (cI, 81, .inl (fun _ => 0))), ((rm 12), .inl (cI, 648, .inl (fun _ => 0))), ((rm 13), .inl (cI, 648, .inl (fun _ => 0))), ((rm 18), .inl (cZ, 81, .inl (fun _ => 0))), (o, .inl (cL, 1, .inr (.inl fo)))]) (w1 := [((rm 0), .inr (3, mf_D rm u_4 rw9 nw9 pb9 lc9))]) hP hD [8, 21] [0, 1, 2, 3, 4, 5, 6, 7, 9, 10, 11, 12, 13, 14, 15, 16, 17, 18, 19, 20, 22, 23] rfl rfl (by decide) (by decide) hk1 hFc hP1 hD1
  clear hK1 hk1 hPc hDc hFc
  generalize H1 = H at hP hS ht ⊢
  have hP : va_P (dC, dI) mr_cl [((rx 0), .inr (0, mf_M rx (nI 0) 0 0 0)), ((rx 1), .inr (1, [.ref (rx 2), .ref (rx 3)])), ((rx 2), .inl (cI, 8, .inl (fun _ => 0))), ((rx 3), .inl (cI, 8, .inl (fun _ => 0))), ((rx 4), .inl (cR, 80, .inr (.inr (.inr (.inr (fun _ => none)))))), ((rx 5), .inl (cI, 80, .inl (fun _ => 0))), ((rx 6), .inl (cI, 80, .inl (fun _ => 0))), ((rx 7), .inl (cI, 8, .inl (fun _ => 0))), ((rm 1), .inl (cI, 8, .inl (fun _ => 0))), ((rm 3), .inl (cI, 81, .inl (fun _ => 0))), ((rm 4), .inl (cI, 81, .inl (fun _ => 0))), ((rm 5), .inl (cI, 81, .inl (fun _ => 0))), ((rm 6), .inl (cI, 81, .inl (fun _ => 0))), ((rm 7), .inl (cI, 81, .inl (fun _ => 0))), ((rm 8), .inl (cI, 81, .inl (fun _ => 0))), ((rm 9), .inl (cI, 81, .inl (fun _ => 0))), ((rm 10), .inl (cI, 81, .inl (fun _ => 0))), ((rm 11), .inl (cI, 81, .inl (fun _ => 0))), ((rm 12), .inl (cI, 648, .inl (fun _ => 0))), ((rm 13), .inl (cI, 648, .inl (fun _ => 0))), ((rm 18), .inl (cZ, 81, .inl (fun _ => 0))), (o, .inl (cL, 1, .inr (.inl fo))), ((rm 0), .inr (3, mf_D rm u_4 rw9 nw9 pb9 lc9))] H := hP
  have hD : va_D A [((rx 0), .inr (0, mf_M rx (nI 0) 0 0 0)), ((rx 1), .inr (1, [.ref (rx 2), .ref (rx 3)])), ((rx 2), .inl (cI, 8, .inl (fun _ => 0))), ((rx 3), .inl (cI, 8, .inl (fun _ => 0))), ((rx 4), .inl (cR, 80, .inr (.inr (.inr (.inr (fun _ => none)))))), ((rx 5), .inl (cI, 80, .inl (fun _ => 0))), ((rx 6), .inl (cI, 80, .inl (fun _ => 0))), ((rx 7), .inl (cI, 8, .inl (fun _ => 0))), ((rm 1), .inl (cI, 8, .inl (fun _ => 0))), ((rm 3), .inl (cI, 81, .inl (fun _ => 0))), ((rm 4), .inl (cI, 81, .inl (fun _ => 0))), ((rm 5), .inl (cI, 81, .inl (fun _ => 0))), ((rm 6), .inl (cI, 81, .inl (fun _ => 0))), ((rm 7), .inl (cI, 81, .inl (fun _ => 0))), ((rm 8), .inl (cI, 81, .inl (fun _ => 0))), ((rm 9), .inl (cI, 81, .inl (fun _ => 0))), ((rm 10), .inl (cI, 81, .inl (fun _ => 0))), ((rm 11), .inl (cI, 81, .inl (fun _ => 0))), ((rm 12), .inl (cI, 648, .inl (fun _ => 0))), ((rm 13), .inl (cI, 648, .inl (fun _ => 0))), ((rm 18), .inl (cZ, 81, .inl (fun _ => 0))), (o, .inl (cL, 1, .inr (.inl fo))), ((rm 0), .inr (3, mf_D rm u_4 rw9 nw9 pb9 lc9))] := hD
  have hBH := hB.at hS hA0
  obtain ⟨rfl, rfl⟩ := hw
  refine lv_icmp_eq (tgt := 978) hx hb d_L_law_720 (by decide) (fun _ => ?_) (fun c_5 => absurd (v_at (xs (1 : Int32).toNatClampNeg)) c_5)
  refine lv_iinc (v := 8) (lv' := [(4, .int 8), (3, .ref o), (2, .ref (rm 0)), (1, .ref (rx 0)), (0, .ref b)]) hx hb d_L_law_978 hl (k := 0) rfl (by decide) (by decide) rfl (fun ls hl => ?_)
  refine lv_goto (tgt := 23) hx hb d_L_law_981 (by decide) ?_
  refine lv_iload hx hb d_L_law_23 (lv_at hl 0 rfl) ?_
  refine lv_aload_n hx hb d_L_law_25 rfl (lv_at hl 4 rfl) ?_
  refine va_slen hx hb hX hbl hbA hS d_L_law_26 ?_
  refine mr_top (y := 8) (by decide) ?_
  refine lv_bipush (v := 8) hx hb d_L_law_27 (by decide) ?_
  refine lv_isub hx hb d_L_law_29 ?_
  refine mr_top (y := 0) (by decide) ?_
  refine lv_icmp_gt (tgt := 984) hx hb d_L_law_30 (by decide) (fun _ => ?_) (fun c_6 => absurd c_6 (by decide))
  refine lv_iconst (v := 1) hx hb d_L_law_984 (by decide) ?_
  refine va_forget (fun q hq => hA0 _ (hS.2.2 q hq)) ?_
  refine W.widen (k := 600002) (n := 7302231) (by omega) (by omega) ?_
  exact lw_ret hx hb hr hlocks d_L_law_985
set_option maxHeartbeats 4000000 in
set_option maxRecDepth 100000 in
theorem law_10 {p : Program} {l : Launch} {e : Env} {s : State} {m : MethodId} {below : List Frame} {meth : Method} {c : Code} {b : Nat} {xs : Nat → Int32} {dC : Nat → ClassId} {dI : Nat → Nat → Nat} {cI cR cL cZ : ClassId} {rx rm : Nat → Nat} {o : Nat} {fo : Nat → Int64} {A : Nat → Prop} {H : Heap} {locs : List Loc} {ls : Array Slot} (hlt : l.stackTraces = false) (C0 : lw_At p s m meth c b 8 xs) (hB : mr_B s s) (hA : ∀ q : Nat, s.heap.size ≤ q → A q) (hA0 : ∀ q : Nat, A q → s.heap.size ≤ q) (hK : va_K (dC, dI) mr_cl [(cI, .int), (cR, .object "MeasureRows$Row"), (cL, .long), (cZ, .boolean)] s) (hP : va_P (dC, dI) mr_cl [((rx 0), .inr (0, mf_M rx (nI 0) 0 0 0)), ((rx 1), .inr (1, [.ref (rx 2), .ref (rx 3)])), ((rx 2), .inl (cI, 8, .inl (fun _ => 0))), ((rx 3), .inl (cI, 8, .inl (fun _ => 0))), ((rx 4), .inl (cR, 80, .inr (.inr (.inr (.inr (fun _ => none)))))), ((rx 5), .inl (cI, 80, .inl (fun _ => 0))), ((rx 6), .inl (cI, 80, .inl (fun _ => 0))), ((rx 7), .inl (cI, 8, .inl (fun _ => 0))), ((rm 0), .inr (3, mf_D rm 0 0 0 0 0)), ((rm 1), .inl (cI, 8, .inl (fun _ => 0))), ((rm 3), .inl (cI, 81, .inl (fun _ => 0))), ((rm 4), .inl (cI, 81, .inl (fun _ => 0))), ((rm 5), .inl (cI, 81, .inl (fun _ => 0))), ((rm 6), .inl (cI, 81, .inl (fun _ => 0))), ((rm 7), .inl (cI, 81, .inl (fun _ => 0))), ((rm 8), .inl (cI, 81, .inl (fun _ => 0))), ((rm 9), .inl (cI, 81, .inl (fun _ => 0))), ((rm 10), .inl (cI, 81, .inl (fun _ => 0))), ((rm 11), .inl (cI, 81, .inl (fun _ => 0))), ((rm 12), .inl (cI, 648, .inl (fun _ => 0))), ((rm 13), .inl (cI, 648, .inl (fun _ => 0))), ((rm 16), .inl (cI, 80, .inl (fun _ => 0))), ((rm 18), .inl (cZ, 81, .inl (fun _ => 0))), (o, .inl (cL, 1, .inr (.inl fo)))] H) (hD : va_D A [((rx 0), .inr (0, mf_M rx (nI 0) 0 0 0)), ((rx 1), .inr (1, [.ref (rx 2), .ref (rx 3)])), ((rx 2), .inl (cI, 8, .inl (fun _ => 0))), ((rx 3), .inl (cI, 8, .inl (fun _ => 0))), ((rx 4), .inl (cR, 80, .inr (.inr (.inr (.inr (fun _ => none)))))), ((rx 5), .inl (cI, 80, .inl (fun _ => 0))), ((rx 6), .inl (cI, 80, .inl (fun _ => 0))), ((rx 7), .inl (cI, 8, .inl (fun _ => 0))), ((rm 0), .inr (3, mf_D rm 0 0 0 0 0)), ((rm 1), .inl (cI, 8, .inl (fun _ => 0))), ((rm 3), .inl (cI, 81, .inl (fun _ => 0))), ((rm 4), .inl (cI, 81, .inl (fun _ => 0))), ((rm 5), .inl (cI, 81, .inl (fun _ => 0))), ((rm 6), .inl (cI, 81, .inl (fun _ => 0))), ((rm 7), .inl (cI, 81, .inl (fun _ => 0))), ((rm 8), .inl (cI, 81, .inl (fun _ => 0))), ((rm 9), .inl (cI, 81, .inl (fun _ => 0))), ((rm 10), .inl (cI, 81, .inl (fun _ => 0))), ((rm 11), .inl (cI, 81, .inl (fun _ => 0))), ((rm 12), .inl (cI, 648, .inl (fun _ => 0))), ((rm 13), .inl (cI, 648, .inl (fun _ => 0))), ((rm 16), .inl (cI, 80, .inl (fun _ => 0))), ((rm 18), .inl (cZ, 81, .inl (fun _ => 0))), (o, .inl (cL, 1, .inr (.inl fo)))]) (hS : va_S A s.heap H locs) (hl : lv_has ls 7 [(4, .int 0), (3, .ref o), (2, .ref (rm 0)), (1, .ref (rx 0)), (0, .ref b)]) : W p l e room_1 s m #[Value.ref b] below meth c H locs 24 2489 (lw_Z below #[Value.ref b] s) (F0 m 725 ls []) := by
  obtain ⟨hx, hb, hr, hml, hown, hts, hX, hbl, hlocks, hgv⟩ := C0
  have hbA : ¬ A b := fun h => absurd (hA0 b h) (Nat.not_le.mpr hbl)
  have hBH := hB.at hS hA0
  refine lv_aload_n hx hb d_L_law_725 rfl (lv_at hl 3 rfl) ?_
  refine lv_aload_n hx hb d_L_law_726 rfl (lv_at hl 4 rfl) ?_
  refine lv_iload hx hb d_L_law_727 (lv_at hl 0 rfl) ?_
  refine lv_iconst (v := 1) hx hb d_L_law_729 (by decide) ?_
  refine lv_iadd hx hb d_L_law_730 ?_
  refine mr_top (y := 1) (by decide) ?_
  refine va_sld hx hb hX hbl hbA hS (i := 1) (by unfold vp_in; decide) d_L_law_731 ?_
  refine lv_aload_n hx hb d_L_law_732 rfl (lv_at hl 4 rfl) ?_
  refine lv_iload hx hb d_L_law_733 (lv_at hl 0 rfl) ?_
  refine lv_iconst (v := 2) hx hb d_L_law_735 (by decide) ?_
  refine lv_iadd hx hb d_L_law_736 ?_
  refine mr_top (y := 2) (by decide) ?_
  refine va_sld hx hb hX hbl hbA hS (i := 2) (by unfold vp_in; decide) d_L_law_737 ?_
  refine lv_aload_n hx hb d_L_law_738 rfl (lv_at hl 4 rfl) ?_
  refine lv_iload hx hb d_L_law_739 (lv_at hl 0 rfl) ?_
  refine lv_iconst (v := 3) hx hb d_L_law_741 (by decide) ?_
  refine lv_iadd hx hb d_L_law_742 ?_
  refine mr_top (y := 3) (by decide) ?_
  refine va_sld hx hb hX hbl hbA hS (i := 3) (by unfold vp_in; decide) d_L_law_743 ?_
  refine lv_aload_n hx hb d_L_law_744 rfl (lv_at hl 1 rfl) ?_
  have hPc := hP.sub (ws' := [((rx 0), .inr (0, mf_M rx (nI 0) 0 0 0)), ((rx 1), .inr (1, [.ref (rx 2), .ref (rx 3)])), ((rx 2), .inl (cI, 8, .inl (fun _ => 0))), ((rx 3), .inl (cI, 8, .inl (fun _ => 0))), ((rx 4), .inl (cR, 80, .inr (.inr (.inr (.inr (fun _ => none)))))), ((rx 5), .inl (cI, 80, .inl (fun _ => 0))), ((rx 6), .inl (cI, 80, .inl (fun _ => 0))), ((rx 7), .inl (cI, 8, .inl (fun _ => 0))), (o, .inl (cL, 1, .inr (.inl fo)))]) [0, 1, 2, 3, 4, 5, 6, 7, 23] rfl
  have hDc := hD.sub (ws' := [((rx 0), .inr (0, mf_M rx (nI 0) 0 0 0)), ((rx 1), .inr (1, [.ref (rx 2), .ref (rx 3)])), ((rx 2), .inl (cI, 8, .inl (fun _ => 0))), ((rx 3), .inl (cI, 8, .inl (fun _ => 0))), ((rx 4), .inl (cR, 80, .inr (.inr (.inr (.inr (fun _ => none)))))), ((rx 5), .inl (cI, 80, .inl (fun _ => 0))), ((rx 6), .inl (cI, 80, .inl (fun _ => 0))), ((rx 7), .inl (cI, 8, .inl (fun _ => 0))), (o, .inl (cL, 1, .inr (.inl fo)))]) [0, 1, 2, 3, 4, 5, 6, 7, 23] (by decide) rfl
  have hFc := va_free (wc := [((rx 0), .inr (0, mf_M rx (nI 0) 0 0 0)), ((rx 1), .inr (1, [.ref (rx 2), .ref (rx 3)])), ((rx 2), .inl (cI, 8, .inl (fun _ => 0))), ((rx 3), .inl (cI, 8, .inl (fun _ => 0))), ((rx 4), .inl (cR, 80, .inr (.inr (.inr (.inr (fun _ => none)))))), ((rx 5), .inl (cI, 80, .inl (fun _ => 0))), ((rx 6), .inl (cI, 80, .inl (fun _ => 0))), ((rx 7), .inl (cI, 8, .inl (fun _ => 0))), (o, .inl (cL, 1, .inr (.inl fo)))]) hD hS hA [0, 1, 2, 3, 4, 5, 6, 7, 23] rfl
  refine va_calli (mr_runH (n := 5) (As := [.ref (rx 0), .int (xs (1 : Int32).toNatClampNeg), .int (xs (2 : Int32).toNatClampNeg), .int (xs (3 : Int32).toNatClampNeg), .ref o]) (rest := []) ⟨hx, hb, hml, hown, hts⟩ (mc_L_scan l hlt s dC dI cI cR cL cZ rx o fo _ (xs (1 : Int32).toNatClampNeg) (xs (2 : Int32).toNatClampNeg) (xs (3 : Int32).toNatClampNeg)) (hts (Cond.codeWith y_L_scan b_L_scan 6 (some .int) [(0, 12, 15, 22)]) mw_365) (hts (Cond.initialized y_L_scan.cls) mw_366) (hts (Cond.methodLink "MeasureRowsLaw" 95 y_L_scan) mw_367) (hts (Cond.static y_L_scan) mw_368) rfl rfl (by decide +kernel) ⟨Nat.le_of_ble_eq_true rfl, Nat.le_of_ble_eq_true rfl⟩ (mr_preCS hBH hK hPc (hDc.weaken (fun _ _ _ h => hA0 _ h))) rfl hl.1 rfl (Nat.le_of_ble_eq_true rfl) d_L_law_745 ⟨Nat.le_of_ble_eq_true rfl, Nat.le_of_ble_eq_true rfl⟩) hS (fun q _ h => hFc q h) hFc (fun r9 u9 t H1 locs ht hvm hw hB1 hz1 hk1 hS => ?_)
  obtain ⟨hP1, hK1, hD1⟩ := hB1
  rw [ht] at hP1
  obtain ⟨hP, hD⟩ := va_join (wr := [((rm 0), .inr (3, mf_D rm 0 0 0 0 0)), ((rm 1), .inl (cI, 8, .inl (fun _ => 0))), ((rm 3), .inl (cI, 81, .inl (fun _ => 0))), ((rm 4), .inl (cI, 81, .inl (fun _ => 0))), ((rm 5), .inl (cI, 81, .inl (fun _ => 0))), ((rm 6), .inl (cI, 81, .inl (fun _ => 0))), ((rm 7), .inl (cI, 81, .inl (fun _ => 0))), ((rm 8), .inl (cI, 81, .inl (fun _ => 0))), ((rm 9), .inl (cI, 81, .inl (fun _ => 0))), ((rm 10), .inl (cI, 81, .inl (fun _ => 0))), ((rm 11), .inl (cI, 81, .inl (fun _ => 0))), ((rm 12), .inl (cI, 648, .inl (fun _ => 0))), ((rm 13), .inl (cI, 648, .inl (fun _ => 0))), ((rm 16), .inl (cI, 80, .inl (fun _ => 0))), ((rm 18), .inl (cZ, 81, .inl (fun _ => 0)))]) (w1 := [(o, .inl (cL, 1, .inr (.inl u9)))]) hP hD [0, 1, 2, 3, 4, 5, 6, 7, 23] [8, 9, 10, 11, 12, 13, 14, 15, 16, 17, 18, 19, 20, 21, 22] rfl rfl (by decide) (by decide) hk1 hFc hP1 hD1
  clear hK1 hk1 hPc hDc hFc
  generalize H1 = H at hP hS ht ⊢
  obtain ⟨rfl, hu9⟩ := hw
  have hP : va_P (dC, dI) mr_cl [((rm 0), .inr (3, mf_D rm 0 0 0 0 0)), ((rm 1), .inl (cI, 8, .inl (fun _ => 0))), ((rm 3), .inl (cI, 81, .inl (fun _ => 0))), ((rm 4), .inl (cI, 81, .inl (fun _ => 0))), ((rm 5), .inl (cI, 81, .inl (fun _ => 0))), ((rm 6), .inl (cI, 81, .inl (fun _ => 0))), ((rm 7), .inl (cI, 81, .inl (fun _ => 0))), ((rm 8), .inl (cI, 81, .inl (fun _ => 0))), ((rm 9), .inl (cI, 81, .inl (fun _ => 0))), ((rm 10), .inl (cI, 81, .inl (fun _ => 0))), ((rm 11), .inl (cI, 81, .inl (fun _ => 0))), ((rm 12), .inl (cI, 648, .inl (fun _ => 0))), ((rm 13), .inl (cI, 648, .inl (fun _ => 0))), ((rm 16), .inl (cI, 80, .inl (fun _ => 0))), ((rm 18), .inl (cZ, 81, .inl (fun _ => 0))), (o, .inl (cL, 1, .inr (.inl u9)))] H := hP
  have hD : va_D A [((rm 0), .inr (3, mf_D rm 0 0 0 0 0)), ((rm 1), .inl (cI, 8, .inl (fun _ => 0))), ((rm 3), .inl (cI, 81, .inl (fun _ => 0))), ((rm 4), .inl (cI, 81, .inl (fun _ => 0))), ((rm 5), .inl (cI, 81, .inl (fun _ => 0))), ((rm 6), .inl (cI, 81, .inl (fun _ => 0))), ((rm 7), .inl (cI, 81, .inl (fun _ => 0))), ((rm 8), .inl (cI, 81, .inl (fun _ => 0))), ((rm 9), .inl (cI, 81, .inl (fun _ => 0))), ((rm 10), .inl (cI, 81, .inl (fun _ => 0))), ((rm 11), .inl (cI, 81, .inl (fun _ => 0))), ((rm 12), .inl (cI, 648, .inl (fun _ => 0))), ((rm 13), .inl (cI, 648, .inl (fun _ => 0))), ((rm 16), .inl (cI, 80, .inl (fun _ => 0))), ((rm 18), .inl (cZ, 81, .inl (fun _ => 0))), (o, .inl (cL, 1, .inr (.inl u9)))] := hD
  have hBH := hB.at hS hA0
  refine W.widen (k := 25) (n := 2495) (by omega) (by omega) ?_
  refine lv_istore (lv' := [(5, .int (mk_M_scan (xs (1 : Int32).toNatClampNeg) (xs (2 : Int32).toNatClampNeg) (xs (3 : Int32).toNatClampNeg))), (4, .int 0), (3, .ref o), (2, .ref (rm 0)), (1, .ref (rx 0)), (0, .ref b)]) hx hb d_L_law_748 hl (by decide) rfl (fun ls hl => ?_)
  refine lv_aload_n hx hb d_L_law_750 rfl (lv_at hl 3 rfl) ?_
  refine lv_aload_n hx hb d_L_law_751 rfl (lv_at hl 5 rfl) ?_
  refine lv_iload hx hb d_L_law_752 (lv_at hl 1 rfl) ?_
  refine lv_iconst (v := 1) hx hb d_L_law_754 (by decide) ?_
  refine lv_iadd hx hb d_L_law_755 ?_
  refine mr_top (y := 1) (by decide) ?_
  refine va_sld hx hb hX hbl hbA hS (i := 1) (by unfold vp_in; decide) d_L_law_756 ?_
  refine lv_aload_n hx hb d_L_law_757 rfl (lv_at hl 5 rfl) ?_
  refine lv_iload hx hb d_L_law_758 (lv_at hl 1 rfl) ?_
  refine lv_iconst (v := 2) hx hb d_L_law_760 (by decide) ?_
  refine lv_iadd hx hb d_L_law_761 ?_
  refine mr_top (y := 2) (by decide) ?_
  refine va_sld hx hb hX hbl hbA hS (i := 2) (by unfold vp_in; decide) d_L_law_762 ?_
  refine lv_aload_n hx hb d_L_law_763 rfl (lv_at hl 5 rfl) ?_
  refine lv_iload hx hb d_L_law_764 (lv_at hl 1 rfl) ?_
  refine lv_iconst (v := 3) hx hb d_L_law_766 (by decide) ?_
  refine lv_iadd hx hb d_L_law_767 ?_
  refine mr_top (y := 3) (by decide) ?_
  refine va_sld hx hb hX hbl hbA hS (i := 3) (by unfold vp_in; decide) d_L_law_768 ?_
  have hPc := hP.sub (ws' := [((rm 0), .inr (3, mf_D rm 0 0 0 0 0))]) [0] rfl
  have hDc := hD.sub (ws' := [((rm 0), .inr (3, mf_D rm 0 0 0 0 0))]) [0] (by decide) rfl
  have hFc := va_free (wc := [((rm 0), .inr (3, mf_D rm 0 0 0 0 0))]) hD hS hA [0] rfl
  refine va_calli (va_runV (As := [.int (xs (1 : Int32).toNatClampNeg), .int (xs (2 : Int32).toNatClampNeg), .int (xs (3 : Int32).toNatClampNeg)]) (rest := []) (C := R_D) ⟨hx, hb, hml, hown, hts⟩ (mc_D_scan l s dC dI cI cR cL cZ rm 0 _ (xs (1 : Int32).toNatClampNeg) (xs (2 : Int32).toNatClampNeg) (xs (3 : Int32).toNatClampNeg)) ⟨(mr_cB 3 (hts (Cond.code y_D_scan b_D_scan 5 (some .int)) mw_369) (hts (Cond.initialized y_D_scan.cls) mw_370) (hts (Cond.methodLink "MeasureRowsLaw" 97 y_D_scan) mw_371) rfl rfl (by decide +kernel) ⟨Nat.le_of_ble_eq_true rfl, Nat.le_of_ble_eq_true rfl⟩), (hts (Cond.instanceMethod y_D_scan) mw_372), (hts (Cond.selects "MeasureRowsModel" y_D_scan y_D_scan) mw_373)⟩ (mr_preCV hBH hK hPc (hDc.weaken (fun _ _ _ h => hA0 _ h)) (ci := 3) (q0 := 0) rfl rfl) rfl rfl hl.1 rfl (lv_room (Nat.le_of_ble_eq_true rfl)) d_L_law_769 ⟨Nat.le_of_ble_eq_true rfl, Nat.le_of_ble_eq_true rfl⟩) hS (fun q _ h => hFc q h) hFc (fun r_1 u_2 t H1 locs ht hvm hw hB1 hz1 hk1 hS => ?_)
  obtain ⟨rw9, nw9, pb9, lc9, hP1, hK1, hD1⟩ := hB1
  rw [ht] at hP1
  obtain ⟨hP, hD⟩ := va_join (wr := [((rm 1), .inl (cI, 8, .inl (fun _ => 0))), ((rm 3), .inl (cI, 81, .inl (fun _ => 0))), ((rm 4), .inl (cI, 81, .inl (fun _ => 0))), ((rm 5), .inl (cI, 81, .inl (fun _ => 0))), ((rm 6), .inl (cI, 81, .inl (fun _ => 0))), ((rm 7), .inl (cI, 81, .inl (fun _ => 0))), ((rm 8), .inl (cI, 81, .inl (fun _ => 0))), ((rm 9), .inl (cI, 81, .inl (fun _ => 0))), ((rm 10), .inl (cI, 81, .inl (fun _ => 0))), ((rm 11), .inl (cI, 81, .inl (fun _ => 0))), ((rm 12), .inl (cI, 648, .inl (fun _ => 0))), ((rm 13), .inl (cI, 648, .inl (fun _ => 0))), ((rm 16), .inl (cI, 80, .inl (fun _ => 0))), ((rm 18), .inl (cZ, 81, .inl (fun _ => 0))), (o, .inl (cL, 1, .inr (.inl u9)))]) (w1 := [((rm 0), .inr (3, mf_D rm u_2 rw9 nw9 pb9 lc9))]) hP hD [0] [1, 2, 3, 4, 5, 6, 7, 8, 9, 10, 11, 12, 13, 14, 15] rfl rfl (by decide) (by decide) hk1 hFc hP1 hD1
  clear hK1 hk1 hPc hDc hFc
  generalize H1 = H at hP hS ht ⊢
  have hP : va_P (dC, dI) mr_cl [((rm 1), .inl (cI, 8, .inl (fun _ => 0))), ((rm 3), .inl (cI, 81, .inl (fun _ => 0))), ((rm 4), .inl (cI, 81, .inl (fun _ => 0))), ((rm 5), .inl (cI, 81, .inl (fun _ => 0))), ((rm 6), .inl (cI, 81, .inl (fun _ => 0))), ((rm 7), .inl (cI, 81, .inl (fun _ => 0))), ((rm 8), .inl (cI, 81, .inl (fun _ => 0))), ((rm 9), .inl (cI, 81, .inl (fun _ => 0))), ((rm 10), .inl (cI, 81, .inl (fun _ => 0))), ((rm 11), .inl (cI, 81, .inl (fun _ => 0))), ((rm 12), .inl (cI, 648, .inl (fun _ => 0))), ((rm 13), .inl (cI, 648, .inl (fun _ => 0))), ((rm 16), .inl (cI, 80, .inl (fun _ => 0))), ((rm 18), .inl (cZ, 81, .inl (fun _ => 0))), (o, .inl (cL, 1, .inr (.inl u9))), ((rm 0), .inr (3, mf_D rm u_2 rw9 nw9 pb9 lc9))] H := hP
  have hD : va_D A [((rm 1), .inl (cI, 8, .inl (fun _ => 0))), ((rm 3), .inl (cI, 81, .inl (fun _ => 0))), ((rm 4), .inl (cI, 81, .inl (fun _ => 0))), ((rm 5), .inl (cI, 81, .inl (fun _ => 0))), ((rm 6), .inl (cI, 81, .inl (fun _ => 0))), ((rm 7), .inl (cI, 81, .inl (fun _ => 0))), ((rm 8), .inl (cI, 81, .inl (fun _ => 0))), ((rm 9), .inl (cI, 81, .inl (fun _ => 0))), ((rm 10), .inl (cI, 81, .inl (fun _ => 0))), ((rm 11), .inl (cI, 81, .inl (fun _ => 0))), ((rm 12), .inl (cI, 648, .inl (fun _ => 0))), ((rm 13), .inl (cI, 648, .inl (fun _ => 0))), ((rm 16), .inl (cI, 80, .inl (fun _ => 0))), ((rm 18), .inl (cZ, 81, .inl (fun _ => 0))), (o, .inl (cL, 1, .inr (.inl u9))), ((rm 0), .inr (3, mf_D rm u_2 rw9 nw9 pb9 lc9))] := hD
  have hBH := hB.at hS hA0
  obtain ⟨rfl, rfl⟩ := hw
  refine lv_istore (lv' := [(6, .int (mv_D_scan0 (xs (1 : Int32).toNatClampNeg) (xs (2 : Int32).toNatClampNeg) (xs (3 : Int32).toNatClampNeg))), (5, .int (mk_M_scan (xs (1 : Int32).toNatClampNeg) (xs (2 : Int32).toNatClampNeg) (xs (3 : Int32).toNatClampNeg))), (4, .int 0), (3, .ref o), (2, .ref (rm 0)), (1, .ref (rx 0)), (0, .ref b)]) hx hb d_L_law_772 hl (by decide) rfl (fun ls hl => ?_)
  refine lv_aload_n hx hb d_L_law_774 rfl (lv_at hl 4 rfl) ?_
  refine vp_callSi (va_Run.run (va_runV (As := []) (rest := []) (C := R_D) ⟨hx, hb, hml, hown, hts⟩ (mc_D_thrown l s dC dI cI cR cL cZ rm (mt_D_scan0 (xs (1 : Int32).toNatClampNeg) (xs (2 : Int32).toNatClampNeg) (xs (3 : Int32).toNatClampNeg)) rw9 nw9 pb9 lc9) ⟨(mr_cB 0 (hts (Cond.code y_D_thrown b_D_thrown 1 (some .int)) mw_284) (hts (Cond.initialized y_D_thrown.cls) mw_285) (hts (Cond.methodLink "MeasureRowsLaw" 58 y_D_thrown) mw_286) rfl rfl (by decide +kernel) ⟨Nat.le_of_ble_eq_true rfl, Nat.le_of_ble_eq_true rfl⟩), (hts (Cond.instanceMethod y_D_thrown) mw_287), (hts (Cond.selects "MeasureRowsModel" y_D_thrown y_D_thrown) mw_288)⟩ (mr_preV hBH hK (hP.sub (ws' := [((rm 0), .inr (3, mf_D rm (mt_D_scan0 (xs (1 : Int32).toNatClampNeg) (xs (2 : Int32).toNatClampNeg) (xs (3 : Int32).toNatClampNeg)) rw9 nw9 pb9 lc9))]) [15] rfl) (ci := 3) (q0 := 0) rfl rfl) rfl rfl hl.1 rfl (lv_room (Nat.le_of_ble_eq_true rfl)) d_L_law_775 ⟨Nat.le_of_ble_eq_true rfl, Nat.le_of_ble_eq_true rfl⟩)) (fun r_3 h_4 => ?_)
  subst h_4
  refine mr_top (y := mt_D_scan0 (xs (1 : Int32).toNatClampNeg) (xs (2 : Int32).toNatClampNeg) (xs (3 : Int32).toNatClampNeg)) rfl ?_
  refine lv_iload hx hb d_L_law_778 (lv_at hl 1 rfl) ?_
  refine lv_icmp_eq (tgt := 785) hx hb d_L_law_780 (by decide) (fun _ => ?_) (fun c_5 => absurd (vk_scan (xs (1 : Int32).toNatClampNeg) (xs (2 : Int32).toNatClampNeg) (xs (3 : Int32).toNatClampNeg)) c_5)
  refine lv_iload hx hb d_L_law_785 (lv_at hl 1 rfl) ?_
  refine lv_if_ne (tgt := 802) hx hb d_L_law_787 (by decide) (fun c_6 => ?_) (fun c_6 => ?_)
  · refine lv_goto (tgt := 978) hx hb d_L_law_802 (by decide) ?_
    refine lv_iinc (v := 8) (lv' := [(4, .int 8), (6, .int (mv_D_scan0 (xs (1 : Int32).toNatClampNeg) (xs (2 : Int32).toNatClampNeg) (xs (3 : Int32).toNatClampNeg))), (5, .int (mk_M_scan (xs (1 : Int32).toNatClampNeg) (xs (2 : Int32).toNatClampNeg) (xs (3 : Int32).toNatClampNeg))), (3, .ref o), (2, .ref (rm 0)), (1, .ref (rx 0)), (0, .ref b)]) hx hb d_L_law_978 hl (k := 2) rfl (by decide) (by decide) rfl (fun ls hl => ?_)
    refine lv_goto (tgt := 23) hx hb d_L_law_981 (by decide) ?_
    refine lv_iload hx hb d_L_law_23 (lv_at hl 0 rfl) ?_
    refine lv_aload_n hx hb d_L_law_25 rfl (lv_at hl 6 rfl) ?_
    refine va_slen hx hb hX hbl hbA hS d_L_law_26 ?_
    refine mr_top (y := 8) (by decide) ?_
    refine lv_bipush (v := 8) hx hb d_L_law_27 (by decide) ?_
    refine lv_isub hx hb d_L_law_29 ?_
    refine mr_top (y := 0) (by decide) ?_
    refine lv_icmp_gt (tgt := 984) hx hb d_L_law_30 (by decide) (fun _ => ?_) (fun c_7 => absurd c_7 (by decide))
    refine lv_iconst (v := 1) hx hb d_L_law_984 (by decide) ?_
    refine va_forget (fun q hq => hA0 _ (hS.2.2 q hq)) ?_
    refine W.widen (k := 600002) (n := 7302231) (by omega) (by omega) ?_
    exact lw_ret hx hb hr hlocks d_L_law_985
  · refine lv_aload_n hx hb d_L_law_790 rfl (lv_at hl 3 rfl) ?_
    refine lv_iconst (v := 0) hx hb d_L_law_791 (by decide) ?_
    refine va_lald (D := (dC, dI)) hx hb hK hP 14 2 rfl rfl (i := 0) (by unfold vp_in; decide) d_L_law_792 ?_
    refine mr_topv (show Value.long (u9 (0 : Int32).toNatClampNeg) = .long (((mv_M_scan (xs (1 : Int32).toNatClampNeg) (xs (2 : Int32).toNatClampNeg) (xs (3 : Int32).toNatClampNeg)) : Int32).toInt64) from congrArg Value.long (hu9 c_6)) ?_
    refine lv_iload hx hb d_L_law_793 (lv_at hl 0 rfl) ?_
    refine lv_i2l (v := (mv_D_scan0 (xs (1 : Int32).toNatClampNeg) (xs (2 : Int32).toNatClampNeg) (xs (3 : Int32).toNatClampNeg)).toInt64) hx hb d_L_law_795 rfl ?_
    refine W.lcmp hx hb d_L_law_796 ?_
    refine lv_if_eq (tgt := 802) hx hb d_L_law_797 (by decide) (fun _ => ?_) (fun c_8 => absurd (v_li (v_scan (xs (1 : Int32).toNatClampNeg) (xs (2 : Int32).toNatClampNeg) (xs (3 : Int32).toNatClampNeg))) c_8)
    refine lv_goto (tgt := 978) hx hb d_L_law_802 (by decide) ?_
    refine lv_iinc (v := 8) (lv' := [(4, .int 8), (6, .int (mv_D_scan0 (xs (1 : Int32).toNatClampNeg) (xs (2 : Int32).toNatClampNeg) (xs (3 : Int32).toNatClampNeg))), (5, .int (mk_M_scan (xs (1 : Int32).toNatClampNeg) (xs (2 : Int32).toNatClampNeg) (xs (3 : Int32).toNatClampNeg))), (3, .ref o), (2, .ref (rm 0)), (1, .ref (rx 0)), (0, .ref b)]) hx hb d_L_law_978 hl (k := 2) rfl (by decide) (by decide) rfl (fun ls hl => ?_)
    refine lv_goto (tgt := 23) hx hb d_L_law_981 (by decide) ?_
    refine lv_iload hx hb d_L_law_23 (lv_at hl 0 rfl) ?_
    refine lv_aload_n hx hb d_L_law_25 rfl (lv_at hl 6 rfl) ?_
    refine va_slen hx hb hX hbl hbA hS d_L_law_26 ?_
    refine mr_top (y := 8) (by decide) ?_
    refine lv_bipush (v := 8) hx hb d_L_law_27 (by decide) ?_
    refine lv_isub hx hb d_L_law_29 ?_
    refine mr_top (y := 0) (by decide) ?_
    refine lv_icmp_gt (tgt := 984) hx hb d_L_law_30 (by decide) (fun _ => ?_) (fun c_9 => absurd c_9 (by decide))
    refine lv_iconst (v := 1) hx hb d_L_law_984 (by decide) ?_
    refine va_forget (fun q hq => hA0 _ (hS.2.2 q hq)) ?_
    refine W.widen (k := 600002) (n := 7302231) (by omega) (by omega) ?_
    exact lw_ret hx hb hr hlocks d_L_law_985
set_option maxHeartbeats 4000000 in
set_option maxRecDepth 100000 in
theorem law_11 {p : Program} {l : Launch} {e : Env} {s : State} {m : MethodId} {below : List Frame} {meth : Method} {c : Code} {b : Nat} {xs : Nat → Int32} {dC : Nat → ClassId} {dI : Nat → Nat → Nat} {cI cR cL cZ : ClassId} {rx rm : Nat → Nat} {o : Nat} {fo : Nat → Int64} {A : Nat → Prop} {H : Heap} {locs : List Loc} {ls : Array Slot} (hlt : l.stackTraces = false) (C0 : lw_At p s m meth c b 8 xs) (hB : mr_B s s) (hA : ∀ q : Nat, s.heap.size ≤ q → A q) (hA0 : ∀ q : Nat, A q → s.heap.size ≤ q) (hK : va_K (dC, dI) mr_cl [(cI, .int), (cR, .object "MeasureRows$Row"), (cL, .long), (cZ, .boolean)] s) (hP : va_P (dC, dI) mr_cl [((rx 0), .inr (0, mf_M rx (nI 0) 0 0 0)), ((rx 1), .inr (1, [.ref (rx 2), .ref (rx 3)])), ((rx 2), .inl (cI, 8, .inl (fun _ => 0))), ((rx 3), .inl (cI, 8, .inl (fun _ => 0))), ((rx 4), .inl (cR, 80, .inr (.inr (.inr (.inr (fun _ => none)))))), ((rx 5), .inl (cI, 80, .inl (fun _ => 0))), ((rx 6), .inl (cI, 80, .inl (fun _ => 0))), ((rx 7), .inl (cI, 8, .inl (fun _ => 0))), ((rm 0), .inr (3, mf_D rm 0 0 0 0 0)), ((rm 1), .inl (cI, 8, .inl (fun _ => 0))), ((rm 3), .inl (cI, 81, .inl (fun _ => 0))), ((rm 4), .inl (cI, 81, .inl (fun _ => 0))), ((rm 5), .inl (cI, 81, .inl (fun _ => 0))), ((rm 6), .inl (cI, 81, .inl (fun _ => 0))), ((rm 7), .inl (cI, 81, .inl (fun _ => 0))), ((rm 8), .inl (cI, 81, .inl (fun _ => 0))), ((rm 9), .inl (cI, 81, .inl (fun _ => 0))), ((rm 10), .inl (cI, 81, .inl (fun _ => 0))), ((rm 11), .inl (cI, 81, .inl (fun _ => 0))), ((rm 12), .inl (cI, 648, .inl (fun _ => 0))), ((rm 13), .inl (cI, 648, .inl (fun _ => 0))), ((rm 16), .inl (cI, 80, .inl (fun _ => 0))), ((rm 18), .inl (cZ, 81, .inl (fun _ => 0))), (o, .inl (cL, 1, .inr (.inl fo)))] H) (hD : va_D A [((rx 0), .inr (0, mf_M rx (nI 0) 0 0 0)), ((rx 1), .inr (1, [.ref (rx 2), .ref (rx 3)])), ((rx 2), .inl (cI, 8, .inl (fun _ => 0))), ((rx 3), .inl (cI, 8, .inl (fun _ => 0))), ((rx 4), .inl (cR, 80, .inr (.inr (.inr (.inr (fun _ => none)))))), ((rx 5), .inl (cI, 80, .inl (fun _ => 0))), ((rx 6), .inl (cI, 80, .inl (fun _ => 0))), ((rx 7), .inl (cI, 8, .inl (fun _ => 0))), ((rm 0), .inr (3, mf_D rm 0 0 0 0 0)), ((rm 1), .inl (cI, 8, .inl (fun _ => 0))), ((rm 3), .inl (cI, 81, .inl (fun _ => 0))), ((rm 4), .inl (cI, 81, .inl (fun _ => 0))), ((rm 5), .inl (cI, 81, .inl (fun _ => 0))), ((rm 6), .inl (cI, 81, .inl (fun _ => 0))), ((rm 7), .inl (cI, 81, .inl (fun _ => 0))), ((rm 8), .inl (cI, 81, .inl (fun _ => 0))), ((rm 9), .inl (cI, 81, .inl (fun _ => 0))), ((rm 10), .inl (cI, 81, .inl (fun _ => 0))), ((rm 11), .inl (cI, 81, .inl (fun _ => 0))), ((rm 12), .inl (cI, 648, .inl (fun _ => 0))), ((rm 13), .inl (cI, 648, .inl (fun _ => 0))), ((rm 16), .inl (cI, 80, .inl (fun _ => 0))), ((rm 18), .inl (cZ, 81, .inl (fun _ => 0))), (o, .inl (cL, 1, .inr (.inl fo)))]) (hS : va_S A s.heap H locs) (hl : lv_has ls 7 [(4, .int 0), (3, .ref o), (2, .ref (rm 0)), (1, .ref (rx 0)), (0, .ref b)]) : W p l e room_1 s m #[Value.ref b] below meth c H locs 24 2489 (lw_Z below #[Value.ref b] s) (F0 m 805 ls []) := by
  obtain ⟨hx, hb, hr, hml, hown, hts, hX, hbl, hlocks, hgv⟩ := C0
  have hbA : ¬ A b := fun h => absurd (hA0 b h) (Nat.not_le.mpr hbl)
  have hBH := hB.at hS hA0
  refine lv_aload_n hx hb d_L_law_805 rfl (lv_at hl 3 rfl) ?_
  refine lv_aload_n hx hb d_L_law_806 rfl (lv_at hl 4 rfl) ?_
  refine lv_iload hx hb d_L_law_807 (lv_at hl 0 rfl) ?_
  refine lv_iconst (v := 1) hx hb d_L_law_809 (by decide) ?_
  refine lv_iadd hx hb d_L_law_810 ?_
  refine mr_top (y := 1) (by decide) ?_
  refine va_sld hx hb hX hbl hbA hS (i := 1) (by unfold vp_in; decide) d_L_law_811 ?_
  refine lv_aload_n hx hb d_L_law_812 rfl (lv_at hl 4 rfl) ?_
  refine lv_iload hx hb d_L_law_813 (lv_at hl 0 rfl) ?_
  refine lv_iconst (v := 2) hx hb d_L_law_815 (by decide) ?_
  refine lv_iadd hx hb d_L_law_816 ?_
  refine mr_top (y := 2) (by decide) ?_
  refine va_sld hx hb hX hbl hbA hS (i := 2) (by unfold vp_in; decide) d_L_law_817 ?_
  refine lv_aload_n hx hb d_L_law_818 rfl (lv_at hl 4 rfl) ?_
  refine lv_iload hx hb d_L_law_819 (lv_at hl 0 rfl) ?_
  refine lv_iconst (v := 3) hx hb d_L_law_821 (by decide) ?_
  refine lv_iadd hx hb d_L_law_822 ?_
  refine mr_top (y := 3) (by decide) ?_
  refine va_sld hx hb hX hbl hbA hS (i := 3) (by unfold vp_in; decide) d_L_law_823 ?_
  refine lv_aload_n hx hb d_L_law_824 rfl (lv_at hl 1 rfl) ?_
  have hPc := hP.sub (ws' := [((rx 0), .inr (0, mf_M rx (nI 0) 0 0 0)), ((rx 1), .inr (1, [.ref (rx 2), .ref (rx 3)])), ((rx 2), .inl (cI, 8, .inl (fun _ => 0))), ((rx 3), .inl (cI, 8, .inl (fun _ => 0))), ((rx 4), .inl (cR, 80, .inr (.inr (.inr (.inr (fun _ => none)))))), ((rx 5), .inl (cI, 80, .inl (fun _ => 0))), ((rx 6), .inl (cI, 80, .inl (fun _ => 0))), ((rx 7), .inl (cI, 8, .inl (fun _ => 0))), (o, .inl (cL, 1, .inr (.inl fo)))]) [0, 1, 2, 3, 4, 5, 6, 7, 23] rfl
  have hDc := hD.sub (ws' := [((rx 0), .inr (0, mf_M rx (nI 0) 0 0 0)), ((rx 1), .inr (1, [.ref (rx 2), .ref (rx 3)])), ((rx 2), .inl (cI, 8, .inl (fun _ => 0))), ((rx 3), .inl (cI, 8, .inl (fun _ => 0))), ((rx 4), .inl (cR, 80, .inr (.inr (.inr (.inr (fun _ => none)))))), ((rx 5), .inl (cI, 80, .inl (fun _ => 0))), ((rx 6), .inl (cI, 80, .inl (fun _ => 0))), ((rx 7), .inl (cI, 8, .inl (fun _ => 0))), (o, .inl (cL, 1, .inr (.inl fo)))]) [0, 1, 2, 3, 4, 5, 6, 7, 23] (by decide) rfl
  have hFc := va_free (wc := [((rx 0), .inr (0, mf_M rx (nI 0) 0 0 0)), ((rx 1), .inr (1, [.ref (rx 2), .ref (rx 3)])), ((rx 2), .inl (cI, 8, .inl (fun _ => 0))), ((rx 3), .inl (cI, 8, .inl (fun _ => 0))), ((rx 4), .inl (cR, 80, .inr (.inr (.inr (.inr (fun _ => none)))))), ((rx 5), .inl (cI, 80, .inl (fun _ => 0))), ((rx 6), .inl (cI, 80, .inl (fun _ => 0))), ((rx 7), .inl (cI, 8, .inl (fun _ => 0))), (o, .inl (cL, 1, .inr (.inl fo)))]) hD hS hA [0, 1, 2, 3, 4, 5, 6, 7, 23] rfl
  refine va_calli (mr_runH (n := 5) (As := [.ref (rx 0), .int (xs (1 : Int32).toNatClampNeg), .int (xs (2 : Int32).toNatClampNeg), .int (xs (3 : Int32).toNatClampNeg), .ref o]) (rest := []) ⟨hx, hb, hml, hown, hts⟩ (mc_L_change l hlt s dC dI cI cR cL cZ rx o fo _ (xs (1 : Int32).toNatClampNeg) (xs (2 : Int32).toNatClampNeg) (xs (3 : Int32).toNatClampNeg)) (hts (Cond.codeWith y_L_change b_L_change 6 (some .int) [(0, 12, 15, 22)]) mw_374) (hts (Cond.initialized y_L_change.cls) mw_375) (hts (Cond.methodLink "MeasureRowsLaw" 98 y_L_change) mw_376) (hts (Cond.static y_L_change) mw_377) rfl rfl (by decide +kernel) ⟨Nat.le_of_ble_eq_true rfl, Nat.le_of_ble_eq_true rfl⟩ (mr_preCS hBH hK hPc (hDc.weaken (fun _ _ _ h => hA0 _ h))) rfl hl.1 rfl (Nat.le_of_ble_eq_true rfl) d_L_law_825 ⟨Nat.le_of_ble_eq_true rfl, Nat.le_of_ble_eq_true rfl⟩) hS (fun q _ h => hFc q h) hFc (fun r9 u9 t H1 locs ht hvm hw hB1 hz1 hk1 hS => ?_)
  obtain ⟨hP1, hK1, hD1⟩ := hB1
  rw [ht] at hP1
  obtain ⟨hP, hD⟩ := va_join (wr := [((rm 0), .inr (3, mf_D rm 0 0 0 0 0)), ((rm 1), .inl (cI, 8, .inl (fun _ => 0))), ((rm 3), .inl (cI, 81, .inl (fun _ => 0))), ((rm 4), .inl (cI, 81, .inl (fun _ => 0))), ((rm 5), .inl (cI, 81, .inl (fun _ => 0))), ((rm 6), .inl (cI, 81, .inl (fun _ => 0))), ((rm 7), .inl (cI, 81, .inl (fun _ => 0))), ((rm 8), .inl (cI, 81, .inl (fun _ => 0))), ((rm 9), .inl (cI, 81, .inl (fun _ => 0))), ((rm 10), .inl (cI, 81, .inl (fun _ => 0))), ((rm 11), .inl (cI, 81, .inl (fun _ => 0))), ((rm 12), .inl (cI, 648, .inl (fun _ => 0))), ((rm 13), .inl (cI, 648, .inl (fun _ => 0))), ((rm 16), .inl (cI, 80, .inl (fun _ => 0))), ((rm 18), .inl (cZ, 81, .inl (fun _ => 0)))]) (w1 := [(o, .inl (cL, 1, .inr (.inl u9)))]) hP hD [0, 1, 2, 3, 4, 5, 6, 7, 23] [8, 9, 10, 11, 12, 13, 14, 15, 16, 17, 18, 19, 20, 21, 22] rfl rfl (by decide) (by decide) hk1 hFc hP1 hD1
  clear hK1 hk1 hPc hDc hFc
  generalize H1 = H at hP hS ht ⊢
  obtain ⟨rfl, hu9⟩ := hw
  have hP : va_P (dC, dI) mr_cl [((rm 0), .inr (3, mf_D rm 0 0 0 0 0)), ((rm 1), .inl (cI, 8, .inl (fun _ => 0))), ((rm 3), .inl (cI, 81, .inl (fun _ => 0))), ((rm 4), .inl (cI, 81, .inl (fun _ => 0))), ((rm 5), .inl (cI, 81, .inl (fun _ => 0))), ((rm 6), .inl (cI, 81, .inl (fun _ => 0))), ((rm 7), .inl (cI, 81, .inl (fun _ => 0))), ((rm 8), .inl (cI, 81, .inl (fun _ => 0))), ((rm 9), .inl (cI, 81, .inl (fun _ => 0))), ((rm 10), .inl (cI, 81, .inl (fun _ => 0))), ((rm 11), .inl (cI, 81, .inl (fun _ => 0))), ((rm 12), .inl (cI, 648, .inl (fun _ => 0))), ((rm 13), .inl (cI, 648, .inl (fun _ => 0))), ((rm 16), .inl (cI, 80, .inl (fun _ => 0))), ((rm 18), .inl (cZ, 81, .inl (fun _ => 0))), (o, .inl (cL, 1, .inr (.inl u9)))] H := hP
  have hD : va_D A [((rm 0), .inr (3, mf_D rm 0 0 0 0 0)), ((rm 1), .inl (cI, 8, .inl (fun _ => 0))), ((rm 3), .inl (cI, 81, .inl (fun _ => 0))), ((rm 4), .inl (cI, 81, .inl (fun _ => 0))), ((rm 5), .inl (cI, 81, .inl (fun _ => 0))), ((rm 6), .inl (cI, 81, .inl (fun _ => 0))), ((rm 7), .inl (cI, 81, .inl (fun _ => 0))), ((rm 8), .inl (cI, 81, .inl (fun _ => 0))), ((rm 9), .inl (cI, 81, .inl (fun _ => 0))), ((rm 10), .inl (cI, 81, .inl (fun _ => 0))), ((rm 11), .inl (cI, 81, .inl (fun _ => 0))), ((rm 12), .inl (cI, 648, .inl (fun _ => 0))), ((rm 13), .inl (cI, 648, .inl (fun _ => 0))), ((rm 16), .inl (cI, 80, .inl (fun _ => 0))), ((rm 18), .inl (cZ, 81, .inl (fun _ => 0))), (o, .inl (cL, 1, .inr (.inl u9)))] := hD
  have hBH := hB.at hS hA0
  refine W.widen (k := 25) (n := 2495) (by omega) (by omega) ?_
  refine lv_istore (lv' := [(5, .int (mk_M_change (xs (1 : Int32).toNatClampNeg) (xs (2 : Int32).toNatClampNeg) (xs (3 : Int32).toNatClampNeg))), (4, .int 0), (3, .ref o), (2, .ref (rm 0)), (1, .ref (rx 0)), (0, .ref b)]) hx hb d_L_law_828 hl (by decide) rfl (fun ls hl => ?_)
  refine lv_aload_n hx hb d_L_law_830 rfl (lv_at hl 3 rfl) ?_
  refine lv_aload_n hx hb d_L_law_831 rfl (lv_at hl 5 rfl) ?_
  refine lv_iload hx hb d_L_law_832 (lv_at hl 1 rfl) ?_
  refine lv_iconst (v := 1) hx hb d_L_law_834 (by decide) ?_
  refine lv_iadd hx hb d_L_law_835 ?_
  refine mr_top (y := 1) (by decide) ?_
  refine va_sld hx hb hX hbl hbA hS (i := 1) (by unfold vp_in; decide) d_L_law_836 ?_
  refine lv_aload_n hx hb d_L_law_837 rfl (lv_at hl 5 rfl) ?_
  refine lv_iload hx hb d_L_law_838 (lv_at hl 1 rfl) ?_
  refine lv_iconst (v := 2) hx hb d_L_law_840 (by decide) ?_
  refine lv_iadd hx hb d_L_law_841 ?_
  refine mr_top (y := 2) (by decide) ?_
  refine va_sld hx hb hX hbl hbA hS (i := 2) (by unfold vp_in; decide) d_L_law_842 ?_
  refine lv_aload_n hx hb d_L_law_843 rfl (lv_at hl 5 rfl) ?_
  refine lv_iload hx hb d_L_law_844 (lv_at hl 1 rfl) ?_
  refine lv_iconst (v := 3) hx hb d_L_law_846 (by decide) ?_
  refine lv_iadd hx hb d_L_law_847 ?_
  refine mr_top (y := 3) (by decide) ?_
  refine va_sld hx hb hX hbl hbA hS (i := 3) (by unfold vp_in; decide) d_L_law_848 ?_
  have hPc := hP.sub (ws' := [((rm 0), .inr (3, mf_D rm 0 0 0 0 0))]) [0] rfl
  have hDc := hD.sub (ws' := [((rm 0), .inr (3, mf_D rm 0 0 0 0 0))]) [0] (by decide) rfl
  have hFc := va_free (wc := [((rm 0), .inr (3, mf_D rm 0 0 0 0 0))]) hD hS hA [0] rfl
  refine va_calli (va_runV (As := [.int (xs (1 : Int32).toNatClampNeg), .int (xs (2 : Int32).toNatClampNeg), .int (xs (3 : Int32).toNatClampNeg)]) (rest := []) (C := R_D) ⟨hx, hb, hml, hown, hts⟩ (mc_D_change l s dC dI cI cR cL cZ rm 0 _ (xs (1 : Int32).toNatClampNeg) (xs (2 : Int32).toNatClampNeg) (xs (3 : Int32).toNatClampNeg)) ⟨(mr_cB 3 (hts (Cond.code y_D_change b_D_change 6 (some .int)) mw_378) (hts (Cond.initialized y_D_change.cls) mw_379) (hts (Cond.methodLink "MeasureRowsLaw" 100 y_D_change) mw_380) rfl rfl (by decide +kernel) ⟨Nat.le_of_ble_eq_true rfl, Nat.le_of_ble_eq_true rfl⟩), (hts (Cond.instanceMethod y_D_change) mw_381), (hts (Cond.selects "MeasureRowsModel" y_D_change y_D_change) mw_382)⟩ (mr_preCV hBH hK hPc (hDc.weaken (fun _ _ _ h => hA0 _ h)) (ci := 3) (q0 := 0) rfl rfl) rfl rfl hl.1 rfl (lv_room (Nat.le_of_ble_eq_true rfl)) d_L_law_849 ⟨Nat.le_of_ble_eq_true rfl, Nat.le_of_ble_eq_true rfl⟩) hS (fun q _ h => hFc q h) hFc (fun r_1 u_2 t H1 locs ht hvm hw hB1 hz1 hk1 hS => ?_)
  obtain ⟨rw9, nw9, pb9, lc9, hP1, hK1, hD1⟩ := hB1
  rw [ht] at hP1
  obtain ⟨hP, hD⟩ := va_join (wr := [((rm 1), .inl (cI, 8, .inl (fun _ => 0))), ((rm 3), .inl (cI, 81, .inl (fun _ => 0))), ((rm 4), .inl (cI, 81, .inl (fun _ => 0))), ((rm 5), .inl (cI, 81, .inl (fun _ => 0))), ((rm 6), .inl (cI, 81, .inl (fun _ => 0))), ((rm 7), .inl (cI, 81, .inl (fun _ => 0))), ((rm 8), .inl (cI, 81, .inl (fun _ => 0))), ((rm 9), .inl (cI, 81, .inl (fun _ => 0))), ((rm 10), .inl (cI, 81, .inl (fun _ => 0))), ((rm 11), .inl (cI, 81, .inl (fun _ => 0))), ((rm 12), .inl (cI, 648, .inl (fun _ => 0))), ((rm 13), .inl (cI, 648, .inl (fun _ => 0))), ((rm 16), .inl (cI, 80, .inl (fun _ => 0))), ((rm 18), .inl (cZ, 81, .inl (fun _ => 0))), (o, .inl (cL, 1, .inr (.inl u9)))]) (w1 := [((rm 0), .inr (3, mf_D rm u_2 rw9 nw9 pb9 lc9))]) hP hD [0] [1, 2, 3, 4, 5, 6, 7, 8, 9, 10, 11, 12, 13, 14, 15] rfl rfl (by decide) (by decide) hk1 hFc hP1 hD1
  clear hK1 hk1 hPc hDc hFc
  generalize H1 = H at hP hS ht ⊢
  have hP : va_P (dC, dI) mr_cl [((rm 1), .inl (cI, 8, .inl (fun _ => 0))), ((rm 3), .inl (cI, 81, .inl (fun _ => 0))), ((rm 4), .inl (cI, 81, .inl (fun _ => 0))), ((rm 5), .inl (cI, 81, .inl (fun _ => 0))), ((rm 6), .inl (cI, 81, .inl (fun _ => 0))), ((rm 7), .inl (cI, 81, .inl (fun _ => 0))), ((rm 8), .inl (cI, 81, .inl (fun _ => 0))), ((rm 9), .inl (cI, 81, .inl (fun _ => 0))), ((rm 10), .inl (cI, 81, .inl (fun _ => 0))), ((rm 11), .inl (cI, 81, .inl (fun _ => 0))), ((rm 12), .inl (cI, 648, .inl (fun _ => 0))), ((rm 13), .inl (cI, 648, .inl (fun _ => 0))), ((rm 16), .inl (cI, 80, .inl (fun _ => 0))), ((rm 18), .inl (cZ, 81, .inl (fun _ => 0))), (o, .inl (cL, 1, .inr (.inl u9))), ((rm 0), .inr (3, mf_D rm u_2 rw9 nw9 pb9 lc9))] H := hP
  have hD : va_D A [((rm 1), .inl (cI, 8, .inl (fun _ => 0))), ((rm 3), .inl (cI, 81, .inl (fun _ => 0))), ((rm 4), .inl (cI, 81, .inl (fun _ => 0))), ((rm 5), .inl (cI, 81, .inl (fun _ => 0))), ((rm 6), .inl (cI, 81, .inl (fun _ => 0))), ((rm 7), .inl (cI, 81, .inl (fun _ => 0))), ((rm 8), .inl (cI, 81, .inl (fun _ => 0))), ((rm 9), .inl (cI, 81, .inl (fun _ => 0))), ((rm 10), .inl (cI, 81, .inl (fun _ => 0))), ((rm 11), .inl (cI, 81, .inl (fun _ => 0))), ((rm 12), .inl (cI, 648, .inl (fun _ => 0))), ((rm 13), .inl (cI, 648, .inl (fun _ => 0))), ((rm 16), .inl (cI, 80, .inl (fun _ => 0))), ((rm 18), .inl (cZ, 81, .inl (fun _ => 0))), (o, .inl (cL, 1, .inr (.inl u9))), ((rm 0), .inr (3, mf_D rm u_2 rw9 nw9 pb9 lc9))] := hD
  have hBH := hB.at hS hA0
  obtain ⟨rfl, rfl⟩ := hw
  refine lv_istore (lv' := [(6, .int (mv_D_change0 (xs (1 : Int32).toNatClampNeg) (xs (2 : Int32).toNatClampNeg) (xs (3 : Int32).toNatClampNeg))), (5, .int (mk_M_change (xs (1 : Int32).toNatClampNeg) (xs (2 : Int32).toNatClampNeg) (xs (3 : Int32).toNatClampNeg))), (4, .int 0), (3, .ref o), (2, .ref (rm 0)), (1, .ref (rx 0)), (0, .ref b)]) hx hb d_L_law_852 hl (by decide) rfl (fun ls hl => ?_)
  refine lv_aload_n hx hb d_L_law_854 rfl (lv_at hl 4 rfl) ?_
  refine vp_callSi (va_Run.run (va_runV (As := []) (rest := []) (C := R_D) ⟨hx, hb, hml, hown, hts⟩ (mc_D_thrown l s dC dI cI cR cL cZ rm (mt_D_change0 (xs (1 : Int32).toNatClampNeg) (xs (2 : Int32).toNatClampNeg) (xs (3 : Int32).toNatClampNeg)) rw9 nw9 pb9 lc9) ⟨(mr_cB 0 (hts (Cond.code y_D_thrown b_D_thrown 1 (some .int)) mw_284) (hts (Cond.initialized y_D_thrown.cls) mw_285) (hts (Cond.methodLink "MeasureRowsLaw" 58 y_D_thrown) mw_286) rfl rfl (by decide +kernel) ⟨Nat.le_of_ble_eq_true rfl, Nat.le_of_ble_eq_true rfl⟩), (hts (Cond.instanceMethod y_D_thrown) mw_287), (hts (Cond.selects "MeasureRowsModel" y_D_thrown y_D_thrown) mw_288)⟩ (mr_preV hBH hK (hP.sub (ws' := [((rm 0), .inr (3, mf_D rm (mt_D_change0 (xs (1 : Int32).toNatClampNeg) (xs (2 : Int32).toNatClampNeg) (xs (3 : Int32).toNatClampNeg)) rw9 nw9 pb9 lc9))]) [15] rfl) (ci := 3) (q0 := 0) rfl rfl) rfl rfl hl.1 rfl (lv_room (Nat.le_of_ble_eq_true rfl)) d_L_law_855 ⟨Nat.le_of_ble_eq_true rfl, Nat.le_of_ble_eq_true rfl⟩)) (fun r_3 h_4 => ?_)
  subst h_4
  refine mr_top (y := mt_D_change0 (xs (1 : Int32).toNatClampNeg) (xs (2 : Int32).toNatClampNeg) (xs (3 : Int32).toNatClampNeg)) rfl ?_
  refine lv_iload hx hb d_L_law_858 (lv_at hl 1 rfl) ?_
  refine lv_icmp_eq (tgt := 865) hx hb d_L_law_860 (by decide) (fun _ => ?_) (fun c_5 => absurd (vk_change (xs (1 : Int32).toNatClampNeg) (xs (2 : Int32).toNatClampNeg) (xs (3 : Int32).toNatClampNeg)) c_5)
  refine lv_iload hx hb d_L_law_865 (lv_at hl 1 rfl) ?_
  refine lv_if_ne (tgt := 882) hx hb d_L_law_867 (by decide) (fun c_6 => ?_) (fun c_6 => ?_)
  · refine lv_goto (tgt := 978) hx hb d_L_law_882 (by decide) ?_
    refine lv_iinc (v := 8) (lv' := [(4, .int 8), (6, .int (mv_D_change0 (xs (1 : Int32).toNatClampNeg) (xs (2 : Int32).toNatClampNeg) (xs (3 : Int32).toNatClampNeg))), (5, .int (mk_M_change (xs (1 : Int32).toNatClampNeg) (xs (2 : Int32).toNatClampNeg) (xs (3 : Int32).toNatClampNeg))), (3, .ref o), (2, .ref (rm 0)), (1, .ref (rx 0)), (0, .ref b)]) hx hb d_L_law_978 hl (k := 2) rfl (by decide) (by decide) rfl (fun ls hl => ?_)
    refine lv_goto (tgt := 23) hx hb d_L_law_981 (by decide) ?_
    refine lv_iload hx hb d_L_law_23 (lv_at hl 0 rfl) ?_
    refine lv_aload_n hx hb d_L_law_25 rfl (lv_at hl 6 rfl) ?_
    refine va_slen hx hb hX hbl hbA hS d_L_law_26 ?_
    refine mr_top (y := 8) (by decide) ?_
    refine lv_bipush (v := 8) hx hb d_L_law_27 (by decide) ?_
    refine lv_isub hx hb d_L_law_29 ?_
    refine mr_top (y := 0) (by decide) ?_
    refine lv_icmp_gt (tgt := 984) hx hb d_L_law_30 (by decide) (fun _ => ?_) (fun c_7 => absurd c_7 (by decide))
    refine lv_iconst (v := 1) hx hb d_L_law_984 (by decide) ?_
    refine va_forget (fun q hq => hA0 _ (hS.2.2 q hq)) ?_
    refine W.widen (k := 600002) (n := 7302231) (by omega) (by omega) ?_
    exact lw_ret hx hb hr hlocks d_L_law_985
  · refine lv_aload_n hx hb d_L_law_870 rfl (lv_at hl 3 rfl) ?_
    refine lv_iconst (v := 0) hx hb d_L_law_871 (by decide) ?_
    refine va_lald (D := (dC, dI)) hx hb hK hP 14 2 rfl rfl (i := 0) (by unfold vp_in; decide) d_L_law_872 ?_
    refine mr_topv (show Value.long (u9 (0 : Int32).toNatClampNeg) = .long (((mv_M_change (xs (1 : Int32).toNatClampNeg) (xs (2 : Int32).toNatClampNeg) (xs (3 : Int32).toNatClampNeg)) : Int32).toInt64) from congrArg Value.long (hu9 c_6)) ?_
    refine lv_iload hx hb d_L_law_873 (lv_at hl 0 rfl) ?_
    refine lv_i2l (v := (mv_D_change0 (xs (1 : Int32).toNatClampNeg) (xs (2 : Int32).toNatClampNeg) (xs (3 : Int32).toNatClampNeg)).toInt64) hx hb d_L_law_875 rfl ?_
    refine W.lcmp hx hb d_L_law_876 ?_
    refine lv_if_eq (tgt := 882) hx hb d_L_law_877 (by decide) (fun _ => ?_) (fun c_8 => absurd (v_li (v_change (xs (1 : Int32).toNatClampNeg) (xs (2 : Int32).toNatClampNeg) (xs (3 : Int32).toNatClampNeg))) c_8)
    refine lv_goto (tgt := 978) hx hb d_L_law_882 (by decide) ?_
    refine lv_iinc (v := 8) (lv' := [(4, .int 8), (6, .int (mv_D_change0 (xs (1 : Int32).toNatClampNeg) (xs (2 : Int32).toNatClampNeg) (xs (3 : Int32).toNatClampNeg))), (5, .int (mk_M_change (xs (1 : Int32).toNatClampNeg) (xs (2 : Int32).toNatClampNeg) (xs (3 : Int32).toNatClampNeg))), (3, .ref o), (2, .ref (rm 0)), (1, .ref (rx 0)), (0, .ref b)]) hx hb d_L_law_978 hl (k := 2) rfl (by decide) (by decide) rfl (fun ls hl => ?_)
    refine lv_goto (tgt := 23) hx hb d_L_law_981 (by decide) ?_
    refine lv_iload hx hb d_L_law_23 (lv_at hl 0 rfl) ?_
    refine lv_aload_n hx hb d_L_law_25 rfl (lv_at hl 6 rfl) ?_
    refine va_slen hx hb hX hbl hbA hS d_L_law_26 ?_
    refine mr_top (y := 8) (by decide) ?_
    refine lv_bipush (v := 8) hx hb d_L_law_27 (by decide) ?_
    refine lv_isub hx hb d_L_law_29 ?_
    refine mr_top (y := 0) (by decide) ?_
    refine lv_icmp_gt (tgt := 984) hx hb d_L_law_30 (by decide) (fun _ => ?_) (fun c_9 => absurd c_9 (by decide))
    refine lv_iconst (v := 1) hx hb d_L_law_984 (by decide) ?_
    refine va_forget (fun q hq => hA0 _ (hS.2.2 q hq)) ?_
    refine W.widen (k := 600002) (n := 7302231) (by omega) (by omega) ?_
    exact lw_ret hx hb hr hlocks d_L_law_985
set_option maxHeartbeats 4000000 in
set_option maxRecDepth 100000 in
theorem law_12 {p : Program} {l : Launch} {e : Env} {s : State} {m : MethodId} {below : List Frame} {meth : Method} {c : Code} {b : Nat} {xs : Nat → Int32} {dC : Nat → ClassId} {dI : Nat → Nat → Nat} {cI cR cL cZ : ClassId} {rx rm : Nat → Nat} {o : Nat} {fo : Nat → Int64} {A : Nat → Prop} {H : Heap} {locs : List Loc} {ls : Array Slot} (hlt : l.stackTraces = false) (C0 : lw_At p s m meth c b 8 xs) (hB : mr_B s s) (hA : ∀ q : Nat, s.heap.size ≤ q → A q) (hA0 : ∀ q : Nat, A q → s.heap.size ≤ q) (hK : va_K (dC, dI) mr_cl [(cI, .int), (cR, .object "MeasureRows$Row"), (cL, .long), (cZ, .boolean)] s) (hP : va_P (dC, dI) mr_cl [((rx 0), .inr (0, mf_M rx (nI 0) 0 0 0)), ((rx 1), .inr (1, [.ref (rx 2), .ref (rx 3)])), ((rx 2), .inl (cI, 8, .inl (fun _ => 0))), ((rx 3), .inl (cI, 8, .inl (fun _ => 0))), ((rx 4), .inl (cR, 80, .inr (.inr (.inr (.inr (fun _ => none)))))), ((rx 5), .inl (cI, 80, .inl (fun _ => 0))), ((rx 6), .inl (cI, 80, .inl (fun _ => 0))), ((rx 7), .inl (cI, 8, .inl (fun _ => 0))), ((rm 0), .inr (3, mf_D rm 0 0 0 0 0)), ((rm 1), .inl (cI, 8, .inl (fun _ => 0))), ((rm 3), .inl (cI, 81, .inl (fun _ => 0))), ((rm 4), .inl (cI, 81, .inl (fun _ => 0))), ((rm 5), .inl (cI, 81, .inl (fun _ => 0))), ((rm 6), .inl (cI, 81, .inl (fun _ => 0))), ((rm 7), .inl (cI, 81, .inl (fun _ => 0))), ((rm 8), .inl (cI, 81, .inl (fun _ => 0))), ((rm 9), .inl (cI, 81, .inl (fun _ => 0))), ((rm 10), .inl (cI, 81, .inl (fun _ => 0))), ((rm 11), .inl (cI, 81, .inl (fun _ => 0))), ((rm 12), .inl (cI, 648, .inl (fun _ => 0))), ((rm 13), .inl (cI, 648, .inl (fun _ => 0))), ((rm 16), .inl (cI, 80, .inl (fun _ => 0))), ((rm 18), .inl (cZ, 81, .inl (fun _ => 0))), (o, .inl (cL, 1, .inr (.inl fo)))] H) (hD : va_D A [((rx 0), .inr (0, mf_M rx (nI 0) 0 0 0)), ((rx 1), .inr (1, [.ref (rx 2), .ref (rx 3)])), ((rx 2), .inl (cI, 8, .inl (fun _ => 0))), ((rx 3), .inl (cI, 8, .inl (fun _ => 0))), ((rx 4), .inl (cR, 80, .inr (.inr (.inr (.inr (fun _ => none)))))), ((rx 5), .inl (cI, 80, .inl (fun _ => 0))), ((rx 6), .inl (cI, 80, .inl (fun _ => 0))), ((rx 7), .inl (cI, 8, .inl (fun _ => 0))), ((rm 0), .inr (3, mf_D rm 0 0 0 0 0)), ((rm 1), .inl (cI, 8, .inl (fun _ => 0))), ((rm 3), .inl (cI, 81, .inl (fun _ => 0))), ((rm 4), .inl (cI, 81, .inl (fun _ => 0))), ((rm 5), .inl (cI, 81, .inl (fun _ => 0))), ((rm 6), .inl (cI, 81, .inl (fun _ => 0))), ((rm 7), .inl (cI, 81, .inl (fun _ => 0))), ((rm 8), .inl (cI, 81, .inl (fun _ => 0))), ((rm 9), .inl (cI, 81, .inl (fun _ => 0))), ((rm 10), .inl (cI, 81, .inl (fun _ => 0))), ((rm 11), .inl (cI, 81, .inl (fun _ => 0))), ((rm 12), .inl (cI, 648, .inl (fun _ => 0))), ((rm 13), .inl (cI, 648, .inl (fun _ => 0))), ((rm 16), .inl (cI, 80, .inl (fun _ => 0))), ((rm 18), .inl (cZ, 81, .inl (fun _ => 0))), (o, .inl (cL, 1, .inr (.inl fo)))]) (hS : va_S A s.heap H locs) (hl : lv_has ls 7 [(4, .int 0), (3, .ref o), (2, .ref (rm 0)), (1, .ref (rx 0)), (0, .ref b)]) : W p l e room_1 s m #[Value.ref b] below meth c H locs 24 2489 (lw_Z below #[Value.ref b] s) (F0 m 885 ls []) := by
  obtain ⟨hx, hb, hr, hml, hown, hts, hX, hbl, hlocks, hgv⟩ := C0
  have hbA : ¬ A b := fun h => absurd (hA0 b h) (Nat.not_le.mpr hbl)
  have hBH := hB.at hS hA0
  refine lv_aload_n hx hb d_L_law_885 rfl (lv_at hl 3 rfl) ?_
  refine lv_aload_n hx hb d_L_law_886 rfl (lv_at hl 4 rfl) ?_
  refine lv_iload hx hb d_L_law_887 (lv_at hl 0 rfl) ?_
  refine lv_iconst (v := 1) hx hb d_L_law_889 (by decide) ?_
  refine lv_iadd hx hb d_L_law_890 ?_
  refine mr_top (y := 1) (by decide) ?_
  refine va_sld hx hb hX hbl hbA hS (i := 1) (by unfold vp_in; decide) d_L_law_891 ?_
  refine lv_aload_n hx hb d_L_law_892 rfl (lv_at hl 4 rfl) ?_
  refine lv_iload hx hb d_L_law_893 (lv_at hl 0 rfl) ?_
  refine lv_iconst (v := 2) hx hb d_L_law_895 (by decide) ?_
  refine lv_iadd hx hb d_L_law_896 ?_
  refine mr_top (y := 2) (by decide) ?_
  refine va_sld hx hb hX hbl hbA hS (i := 2) (by unfold vp_in; decide) d_L_law_897 ?_
  refine lv_aload_n hx hb d_L_law_898 rfl (lv_at hl 1 rfl) ?_
  have hPc := hP.sub (ws' := [((rx 0), .inr (0, mf_M rx (nI 0) 0 0 0)), ((rx 1), .inr (1, [.ref (rx 2), .ref (rx 3)])), ((rx 2), .inl (cI, 8, .inl (fun _ => 0))), ((rx 3), .inl (cI, 8, .inl (fun _ => 0))), ((rx 4), .inl (cR, 80, .inr (.inr (.inr (.inr (fun _ => none)))))), ((rx 5), .inl (cI, 80, .inl (fun _ => 0))), ((rx 6), .inl (cI, 80, .inl (fun _ => 0))), ((rx 7), .inl (cI, 8, .inl (fun _ => 0))), (o, .inl (cL, 1, .inr (.inl fo)))]) [0, 1, 2, 3, 4, 5, 6, 7, 23] rfl
  have hDc := hD.sub (ws' := [((rx 0), .inr (0, mf_M rx (nI 0) 0 0 0)), ((rx 1), .inr (1, [.ref (rx 2), .ref (rx 3)])), ((rx 2), .inl (cI, 8, .inl (fun _ => 0))), ((rx 3), .inl (cI, 8, .inl (fun _ => 0))), ((rx 4), .inl (cR, 80, .inr (.inr (.inr (.inr (fun _ => none)))))), ((rx 5), .inl (cI, 80, .inl (fun _ => 0))), ((rx 6), .inl (cI, 80, .inl (fun _ => 0))), ((rx 7), .inl (cI, 8, .inl (fun _ => 0))), (o, .inl (cL, 1, .inr (.inl fo)))]) [0, 1, 2, 3, 4, 5, 6, 7, 23] (by decide) rfl
  have hFc := va_free (wc := [((rx 0), .inr (0, mf_M rx (nI 0) 0 0 0)), ((rx 1), .inr (1, [.ref (rx 2), .ref (rx 3)])), ((rx 2), .inl (cI, 8, .inl (fun _ => 0))), ((rx 3), .inl (cI, 8, .inl (fun _ => 0))), ((rx 4), .inl (cR, 80, .inr (.inr (.inr (.inr (fun _ => none)))))), ((rx 5), .inl (cI, 80, .inl (fun _ => 0))), ((rx 6), .inl (cI, 80, .inl (fun _ => 0))), ((rx 7), .inl (cI, 8, .inl (fun _ => 0))), (o, .inl (cL, 1, .inr (.inl fo)))]) hD hS hA [0, 1, 2, 3, 4, 5, 6, 7, 23] rfl
  refine va_calli (mr_runH (n := 4) (As := [.ref (rx 0), .int (xs (1 : Int32).toNatClampNeg), .int (xs (2 : Int32).toNatClampNeg), .ref o]) (rest := []) ⟨hx, hb, hml, hown, hts⟩ (mc_L_look l hlt s dC dI cI cR cL cZ rx o fo _ (xs (1 : Int32).toNatClampNeg) (xs (2 : Int32).toNatClampNeg)) (hts (Cond.codeWith y_L_look b_L_look 5 (some .int) [(0, 10, 13, 13)]) mw_383) (hts (Cond.initialized y_L_look.cls) mw_384) (hts (Cond.methodLink "MeasureRowsLaw" 101 y_L_look) mw_385) (hts (Cond.static y_L_look) mw_386) rfl rfl (by decide +kernel) ⟨Nat.le_of_ble_eq_true rfl, Nat.le_of_ble_eq_true rfl⟩ (mr_preCS hBH hK hPc (hDc.weaken (fun _ _ _ h => hA0 _ h))) rfl hl.1 rfl (Nat.le_of_ble_eq_true rfl) d_L_law_899 ⟨Nat.le_of_ble_eq_true rfl, Nat.le_of_ble_eq_true rfl⟩) hS (fun q _ h => hFc q h) hFc (fun r9 u9 t H1 locs ht hvm hw hB1 hz1 hk1 hS => ?_)
  obtain ⟨hP1, hK1, hD1⟩ := hB1
  rw [ht] at hP1
  obtain ⟨hP, hD⟩ := va_join (wr := [((rm 0), .inr (3, mf_D rm 0 0 0 0 0)), ((rm 1), .inl (cI, 8, .inl (fun _ => 0))), ((rm 3), .inl (cI, 81, .inl (fun _ => 0))), ((rm 4), .inl (cI, 81, .inl (fun _ => 0))), ((rm 5), .inl (cI, 81, .inl (fun _ => 0))), ((rm 6), .inl (cI, 81, .inl (fun _ => 0))), ((rm 7), .inl (cI, 81, .inl (fun _ => 0))), ((rm 8), .inl (cI, 81, .inl (fun _ => 0))), ((rm 9), .inl (cI, 81, .inl (fun _ => 0))), ((rm 10), .inl (cI, 81, .inl (fun _ => 0))), ((rm 11), .inl (cI, 81, .inl (fun _ => 0))), ((rm 12), .inl (cI, 648, .inl (fun _ => 0))), ((rm 13), .inl (cI, 648, .inl (fun _ => 0))), ((rm 16), .inl (cI, 80, .inl (fun _ => 0))), ((rm 18), .inl (cZ, 81, .inl (fun _ => 0)))]) (w1 := [(o, .inl (cL, 1, .inr (.inl u9)))]) hP hD [0, 1, 2, 3, 4, 5, 6, 7, 23] [8, 9, 10, 11, 12, 13, 14, 15, 16, 17, 18, 19, 20, 21, 22] rfl rfl (by decide) (by decide) hk1 hFc hP1 hD1
  clear hK1 hk1 hPc hDc hFc
  generalize H1 = H at hP hS ht ⊢
  obtain ⟨rfl, hu9⟩ := hw
  have hP : va_P (dC, dI) mr_cl [((rm 0), .inr (3, mf_D rm 0 0 0 0 0)), ((rm 1), .inl (cI, 8, .inl (fun _ => 0))), ((rm 3), .inl (cI, 81, .inl (fun _ => 0))), ((rm 4), .inl (cI, 81, .inl (fun _ => 0))), ((rm 5), .inl (cI, 81, .inl (fun _ => 0))), ((rm 6), .inl (cI, 81, .inl (fun _ => 0))), ((rm 7), .inl (cI, 81, .inl (fun _ => 0))), ((rm 8), .inl (cI, 81, .inl (fun _ => 0))), ((rm 9), .inl (cI, 81, .inl (fun _ => 0))), ((rm 10), .inl (cI, 81, .inl (fun _ => 0))), ((rm 11), .inl (cI, 81, .inl (fun _ => 0))), ((rm 12), .inl (cI, 648, .inl (fun _ => 0))), ((rm 13), .inl (cI, 648, .inl (fun _ => 0))), ((rm 16), .inl (cI, 80, .inl (fun _ => 0))), ((rm 18), .inl (cZ, 81, .inl (fun _ => 0))), (o, .inl (cL, 1, .inr (.inl u9)))] H := hP
  have hD : va_D A [((rm 0), .inr (3, mf_D rm 0 0 0 0 0)), ((rm 1), .inl (cI, 8, .inl (fun _ => 0))), ((rm 3), .inl (cI, 81, .inl (fun _ => 0))), ((rm 4), .inl (cI, 81, .inl (fun _ => 0))), ((rm 5), .inl (cI, 81, .inl (fun _ => 0))), ((rm 6), .inl (cI, 81, .inl (fun _ => 0))), ((rm 7), .inl (cI, 81, .inl (fun _ => 0))), ((rm 8), .inl (cI, 81, .inl (fun _ => 0))), ((rm 9), .inl (cI, 81, .inl (fun _ => 0))), ((rm 10), .inl (cI, 81, .inl (fun _ => 0))), ((rm 11), .inl (cI, 81, .inl (fun _ => 0))), ((rm 12), .inl (cI, 648, .inl (fun _ => 0))), ((rm 13), .inl (cI, 648, .inl (fun _ => 0))), ((rm 16), .inl (cI, 80, .inl (fun _ => 0))), ((rm 18), .inl (cZ, 81, .inl (fun _ => 0))), (o, .inl (cL, 1, .inr (.inl u9)))] := hD
  have hBH := hB.at hS hA0
  refine W.widen (k := 25) (n := 2495) (by omega) (by omega) ?_
  refine lv_istore (lv' := [(5, .int (mk_M_look (xs (1 : Int32).toNatClampNeg) (xs (2 : Int32).toNatClampNeg))), (4, .int 0), (3, .ref o), (2, .ref (rm 0)), (1, .ref (rx 0)), (0, .ref b)]) hx hb d_L_law_902 hl (by decide) rfl (fun ls hl => ?_)
  refine lv_aload_n hx hb d_L_law_904 rfl (lv_at hl 3 rfl) ?_
  refine lv_aload_n hx hb d_L_law_905 rfl (lv_at hl 5 rfl) ?_
  refine lv_iload hx hb d_L_law_906 (lv_at hl 1 rfl) ?_
  refine lv_iconst (v := 1) hx hb d_L_law_908 (by decide) ?_
  refine lv_iadd hx hb d_L_law_909 ?_
  refine mr_top (y := 1) (by decide) ?_
  refine va_sld hx hb hX hbl hbA hS (i := 1) (by unfold vp_in; decide) d_L_law_910 ?_
  refine lv_aload_n hx hb d_L_law_911 rfl (lv_at hl 5 rfl) ?_
  refine lv_iload hx hb d_L_law_912 (lv_at hl 1 rfl) ?_
  refine lv_iconst (v := 2) hx hb d_L_law_914 (by decide) ?_
  refine lv_iadd hx hb d_L_law_915 ?_
  refine mr_top (y := 2) (by decide) ?_
  refine va_sld hx hb hX hbl hbA hS (i := 2) (by unfold vp_in; decide) d_L_law_916 ?_
  have hPc := hP.sub (ws' := [((rm 0), .inr (3, mf_D rm 0 0 0 0 0))]) [0] rfl
  have hDc := hD.sub (ws' := [((rm 0), .inr (3, mf_D rm 0 0 0 0 0))]) [0] (by decide) rfl
  have hFc := va_free (wc := [((rm 0), .inr (3, mf_D rm 0 0 0 0 0))]) hD hS hA [0] rfl
  refine va_calli (va_runV (As := [.int (xs (1 : Int32).toNatClampNeg), .int (xs (2 : Int32).toNatClampNeg)]) (rest := []) (C := R_D) ⟨hx, hb, hml, hown, hts⟩ (mc_D_look l s dC dI cI cR cL cZ rm 0 _ (xs (1 : Int32).toNatClampNeg) (xs (2 : Int32).toNatClampNeg)) ⟨(mr_cB 2 (hts (Cond.code y_D_look b_D_look 3 (some .int)) mw_387) (hts (Cond.initialized y_D_look.cls) mw_388) (hts (Cond.methodLink "MeasureRowsLaw" 103 y_D_look) mw_389) rfl rfl (by decide +kernel) ⟨Nat.le_of_ble_eq_true rfl, Nat.le_of_ble_eq_true rfl⟩), (hts (Cond.instanceMethod y_D_look) mw_390), (hts (Cond.selects "MeasureRowsModel" y_D_look y_D_look) mw_391)⟩ (mr_preCV hBH hK hPc (hDc.weaken (fun _ _ _ h => hA0 _ h)) (ci := 3) (q0 := 0) rfl rfl) rfl rfl hl.1 rfl (lv_room (Nat.le_of_ble_eq_true rfl)) d_L_law_917 ⟨Nat.le_of_ble_eq_true rfl, Nat.le_of_ble_eq_true rfl⟩) hS (fun q _ h => hFc q h) hFc (fun r_1 u_2 t H1 locs ht hvm hw hB1 hz1 hk1 hS => ?_)
  obtain ⟨rw9, nw9, pb9, lc9, hP1, hK1, hD1⟩ := hB1
  rw [ht] at hP1
  obtain ⟨hP, hD⟩ := va_join (wr := [((rm 1), .inl (cI, 8, .inl (fun _ => 0))), ((rm 3), .inl (cI, 81, .inl (fun _ => 0))), ((rm 4), .inl (cI, 81, .inl (fun _ => 0))), ((rm 5), .inl (cI, 81, .inl (fun _ => 0))), ((rm 6), .inl (cI, 81, .inl (fun _ => 0))), ((rm 7), .inl (cI, 81, .inl (fun _ => 0))), ((rm 8), .inl (cI, 81, .inl (fun _ => 0))), ((rm 9), .inl (cI, 81, .inl (fun _ => 0))), ((rm 10), .inl (cI, 81, .inl (fun _ => 0))), ((rm 11), .inl (cI, 81, .inl (fun _ => 0))), ((rm 12), .inl (cI, 648, .inl (fun _ => 0))), ((rm 13), .inl (cI, 648, .inl (fun _ => 0))), ((rm 16), .inl (cI, 80, .inl (fun _ => 0))), ((rm 18), .inl (cZ, 81, .inl (fun _ => 0))), (o, .inl (cL, 1, .inr (.inl u9)))]) (w1 := [((rm 0), .inr (3, mf_D rm u_2 rw9 nw9 pb9 lc9))]) hP hD [0] [1, 2, 3, 4, 5, 6, 7, 8, 9, 10, 11, 12, 13, 14, 15] rfl rfl (by decide) (by decide) hk1 hFc hP1 hD1
  clear hK1 hk1 hPc hDc hFc
  generalize H1 = H at hP hS ht ⊢
  have hP : va_P (dC, dI) mr_cl [((rm 1), .inl (cI, 8, .inl (fun _ => 0))), ((rm 3), .inl (cI, 81, .inl (fun _ => 0))), ((rm 4), .inl (cI, 81, .inl (fun _ => 0))), ((rm 5), .inl (cI, 81, .inl (fun _ => 0))), ((rm 6), .inl (cI, 81, .inl (fun _ => 0))), ((rm 7), .inl (cI, 81, .inl (fun _ => 0))), ((rm 8), .inl (cI, 81, .inl (fun _ => 0))), ((rm 9), .inl (cI, 81, .inl (fun _ => 0))), ((rm 10), .inl (cI, 81, .inl (fun _ => 0))), ((rm 11), .inl (cI, 81, .inl (fun _ => 0))), ((rm 12), .inl (cI, 648, .inl (fun _ => 0))), ((rm 13), .inl (cI, 648, .inl (fun _ => 0))), ((rm 16), .inl (cI, 80, .inl (fun _ => 0))), ((rm 18), .inl (cZ, 81, .inl (fun _ => 0))), (o, .inl (cL, 1, .inr (.inl u9))), ((rm 0), .inr (3, mf_D rm u_2 rw9 nw9 pb9 lc9))] H := hP
  have hD : va_D A [((rm 1), .inl (cI, 8, .inl (fun _ => 0))), ((rm 3), .inl (cI, 81, .inl (fun _ => 0))), ((rm 4), .inl (cI, 81, .inl (fun _ => 0))), ((rm 5), .inl (cI, 81, .inl (fun _ => 0))), ((rm 6), .inl (cI, 81, .inl (fun _ => 0))), ((rm 7), .inl (cI, 81, .inl (fun _ => 0))), ((rm 8), .inl (cI, 81, .inl (fun _ => 0))), ((rm 9), .inl (cI, 81, .inl (fun _ => 0))), ((rm 10), .inl (cI, 81, .inl (fun _ => 0))), ((rm 11), .inl (cI, 81, .inl (fun _ => 0))), ((rm 12), .inl (cI, 648, .inl (fun _ => 0))), ((rm 13), .inl (cI, 648, .inl (fun _ => 0))), ((rm 16), .inl (cI, 80, .inl (fun _ => 0))), ((rm 18), .inl (cZ, 81, .inl (fun _ => 0))), (o, .inl (cL, 1, .inr (.inl u9))), ((rm 0), .inr (3, mf_D rm u_2 rw9 nw9 pb9 lc9))] := hD
  have hBH := hB.at hS hA0
  obtain ⟨rfl, rfl⟩ := hw
  refine lv_istore (lv' := [(6, .int (mv_D_look0 (xs (1 : Int32).toNatClampNeg) (xs (2 : Int32).toNatClampNeg))), (5, .int (mk_M_look (xs (1 : Int32).toNatClampNeg) (xs (2 : Int32).toNatClampNeg))), (4, .int 0), (3, .ref o), (2, .ref (rm 0)), (1, .ref (rx 0)), (0, .ref b)]) hx hb d_L_law_920 hl (by decide) rfl (fun ls hl => ?_)
  refine lv_aload_n hx hb d_L_law_922 rfl (lv_at hl 4 rfl) ?_
  refine vp_callSi (va_Run.run (va_runV (As := []) (rest := []) (C := R_D) ⟨hx, hb, hml, hown, hts⟩ (mc_D_thrown l s dC dI cI cR cL cZ rm (mt_D_look0 (xs (1 : Int32).toNatClampNeg) (xs (2 : Int32).toNatClampNeg)) rw9 nw9 pb9 lc9) ⟨(mr_cB 0 (hts (Cond.code y_D_thrown b_D_thrown 1 (some .int)) mw_284) (hts (Cond.initialized y_D_thrown.cls) mw_285) (hts (Cond.methodLink "MeasureRowsLaw" 58 y_D_thrown) mw_286) rfl rfl (by decide +kernel) ⟨Nat.le_of_ble_eq_true rfl, Nat.le_of_ble_eq_true rfl⟩), (hts (Cond.instanceMethod y_D_thrown) mw_287), (hts (Cond.selects "MeasureRowsModel" y_D_thrown y_D_thrown) mw_288)⟩ (mr_preV hBH hK (hP.sub (ws' := [((rm 0), .inr (3, mf_D rm (mt_D_look0 (xs (1 : Int32).toNatClampNeg) (xs (2 : Int32).toNatClampNeg)) rw9 nw9 pb9 lc9))]) [15] rfl) (ci := 3) (q0 := 0) rfl rfl) rfl rfl hl.1 rfl (lv_room (Nat.le_of_ble_eq_true rfl)) d_L_law_923 ⟨Nat.le_of_ble_eq_true rfl, Nat.le_of_ble_eq_true rfl⟩)) (fun r_3 h_4 => ?_)
  subst h_4
  refine mr_top (y := mt_D_look0 (xs (1 : Int32).toNatClampNeg) (xs (2 : Int32).toNatClampNeg)) rfl ?_
  refine lv_iload hx hb d_L_law_926 (lv_at hl 1 rfl) ?_
  refine lv_icmp_eq (tgt := 933) hx hb d_L_law_928 (by decide) (fun _ => ?_) (fun c_5 => absurd (vk_look (xs (1 : Int32).toNatClampNeg) (xs (2 : Int32).toNatClampNeg)) c_5)
  refine lv_iload hx hb d_L_law_933 (lv_at hl 1 rfl) ?_
  refine lv_if_ne (tgt := 950) hx hb d_L_law_935 (by decide) (fun c_6 => ?_) (fun c_6 => ?_)
  · refine lv_goto (tgt := 978) hx hb d_L_law_950 (by decide) ?_
    refine lv_iinc (v := 8) (lv' := [(4, .int 8), (6, .int (mv_D_look0 (xs (1 : Int32).toNatClampNeg) (xs (2 : Int32).toNatClampNeg))), (5, .int (mk_M_look (xs (1 : Int32).toNatClampNeg) (xs (2 : Int32).toNatClampNeg))), (3, .ref o), (2, .ref (rm 0)), (1, .ref (rx 0)), (0, .ref b)]) hx hb d_L_law_978 hl (k := 2) rfl (by decide) (by decide) rfl (fun ls hl => ?_)
    refine lv_goto (tgt := 23) hx hb d_L_law_981 (by decide) ?_
    refine lv_iload hx hb d_L_law_23 (lv_at hl 0 rfl) ?_
    refine lv_aload_n hx hb d_L_law_25 rfl (lv_at hl 6 rfl) ?_
    refine va_slen hx hb hX hbl hbA hS d_L_law_26 ?_
    refine mr_top (y := 8) (by decide) ?_
    refine lv_bipush (v := 8) hx hb d_L_law_27 (by decide) ?_
    refine lv_isub hx hb d_L_law_29 ?_
    refine mr_top (y := 0) (by decide) ?_
    refine lv_icmp_gt (tgt := 984) hx hb d_L_law_30 (by decide) (fun _ => ?_) (fun c_7 => absurd c_7 (by decide))
    refine lv_iconst (v := 1) hx hb d_L_law_984 (by decide) ?_
    refine va_forget (fun q hq => hA0 _ (hS.2.2 q hq)) ?_
    refine W.widen (k := 600002) (n := 7302231) (by omega) (by omega) ?_
    exact lw_ret hx hb hr hlocks d_L_law_985
  · refine lv_aload_n hx hb d_L_law_938 rfl (lv_at hl 3 rfl) ?_
    refine lv_iconst (v := 0) hx hb d_L_law_939 (by decide) ?_
    refine va_lald (D := (dC, dI)) hx hb hK hP 14 2 rfl rfl (i := 0) (by unfold vp_in; decide) d_L_law_940 ?_
    refine mr_topv (show Value.long (u9 (0 : Int32).toNatClampNeg) = .long (((mv_M_look (xs (1 : Int32).toNatClampNeg) (xs (2 : Int32).toNatClampNeg)) : Int32).toInt64) from congrArg Value.long (hu9 c_6)) ?_
    refine lv_iload hx hb d_L_law_941 (lv_at hl 0 rfl) ?_
    refine lv_i2l (v := (mv_D_look0 (xs (1 : Int32).toNatClampNeg) (xs (2 : Int32).toNatClampNeg)).toInt64) hx hb d_L_law_943 rfl ?_
    refine W.lcmp hx hb d_L_law_944 ?_
    refine lv_if_eq (tgt := 950) hx hb d_L_law_945 (by decide) (fun _ => ?_) (fun c_8 => absurd (v_li (v_look (xs (1 : Int32).toNatClampNeg) (xs (2 : Int32).toNatClampNeg))) c_8)
    refine lv_goto (tgt := 978) hx hb d_L_law_950 (by decide) ?_
    refine lv_iinc (v := 8) (lv' := [(4, .int 8), (6, .int (mv_D_look0 (xs (1 : Int32).toNatClampNeg) (xs (2 : Int32).toNatClampNeg))), (5, .int (mk_M_look (xs (1 : Int32).toNatClampNeg) (xs (2 : Int32).toNatClampNeg))), (3, .ref o), (2, .ref (rm 0)), (1, .ref (rx 0)), (0, .ref b)]) hx hb d_L_law_978 hl (k := 2) rfl (by decide) (by decide) rfl (fun ls hl => ?_)
    refine lv_goto (tgt := 23) hx hb d_L_law_981 (by decide) ?_
    refine lv_iload hx hb d_L_law_23 (lv_at hl 0 rfl) ?_
    refine lv_aload_n hx hb d_L_law_25 rfl (lv_at hl 6 rfl) ?_
    refine va_slen hx hb hX hbl hbA hS d_L_law_26 ?_
    refine mr_top (y := 8) (by decide) ?_
    refine lv_bipush (v := 8) hx hb d_L_law_27 (by decide) ?_
    refine lv_isub hx hb d_L_law_29 ?_
    refine mr_top (y := 0) (by decide) ?_
    refine lv_icmp_gt (tgt := 984) hx hb d_L_law_30 (by decide) (fun _ => ?_) (fun c_9 => absurd c_9 (by decide))
    refine lv_iconst (v := 1) hx hb d_L_law_984 (by decide) ?_
    refine va_forget (fun q hq => hA0 _ (hS.2.2 q hq)) ?_
    refine W.widen (k := 600002) (n := 7302231) (by omega) (by omega) ?_
    exact lw_ret hx hb hr hlocks d_L_law_985
set_option maxHeartbeats 4000000 in
set_option maxRecDepth 100000 in
theorem law_13 {p : Program} {l : Launch} {e : Env} {s : State} {m : MethodId} {below : List Frame} {meth : Method} {c : Code} {b : Nat} {xs : Nat → Int32} {dC : Nat → ClassId} {dI : Nat → Nat → Nat} {cI cR cL cZ : ClassId} {rx rm : Nat → Nat} {o : Nat} {fo : Nat → Int64} {A : Nat → Prop} {H : Heap} {locs : List Loc} {ls : Array Slot} (hlt : l.stackTraces = false) (C0 : lw_At p s m meth c b 8 xs) (hB : mr_B s s) (hA : ∀ q : Nat, s.heap.size ≤ q → A q) (hA0 : ∀ q : Nat, A q → s.heap.size ≤ q) (hK : va_K (dC, dI) mr_cl [(cI, .int), (cR, .object "MeasureRows$Row"), (cL, .long), (cZ, .boolean)] s) (hP : va_P (dC, dI) mr_cl [((rx 0), .inr (0, mf_M rx (nI 0) 0 0 0)), ((rx 1), .inr (1, [.ref (rx 2), .ref (rx 3)])), ((rx 2), .inl (cI, 8, .inl (fun _ => 0))), ((rx 3), .inl (cI, 8, .inl (fun _ => 0))), ((rx 4), .inl (cR, 80, .inr (.inr (.inr (.inr (fun _ => none)))))), ((rx 5), .inl (cI, 80, .inl (fun _ => 0))), ((rx 6), .inl (cI, 80, .inl (fun _ => 0))), ((rx 7), .inl (cI, 8, .inl (fun _ => 0))), ((rm 0), .inr (3, mf_D rm 0 0 0 0 0)), ((rm 1), .inl (cI, 8, .inl (fun _ => 0))), ((rm 3), .inl (cI, 81, .inl (fun _ => 0))), ((rm 4), .inl (cI, 81, .inl (fun _ => 0))), ((rm 5), .inl (cI, 81, .inl (fun _ => 0))), ((rm 6), .inl (cI, 81, .inl (fun _ => 0))), ((rm 7), .inl (cI, 81, .inl (fun _ => 0))), ((rm 8), .inl (cI, 81, .inl (fun _ => 0))), ((rm 9), .inl (cI, 81, .inl (fun _ => 0))), ((rm 10), .inl (cI, 81, .inl (fun _ => 0))), ((rm 11), .inl (cI, 81, .inl (fun _ => 0))), ((rm 12), .inl (cI, 648, .inl (fun _ => 0))), ((rm 13), .inl (cI, 648, .inl (fun _ => 0))), ((rm 16), .inl (cI, 80, .inl (fun _ => 0))), ((rm 18), .inl (cZ, 81, .inl (fun _ => 0))), (o, .inl (cL, 1, .inr (.inl fo)))] H) (hD : va_D A [((rx 0), .inr (0, mf_M rx (nI 0) 0 0 0)), ((rx 1), .inr (1, [.ref (rx 2), .ref (rx 3)])), ((rx 2), .inl (cI, 8, .inl (fun _ => 0))), ((rx 3), .inl (cI, 8, .inl (fun _ => 0))), ((rx 4), .inl (cR, 80, .inr (.inr (.inr (.inr (fun _ => none)))))), ((rx 5), .inl (cI, 80, .inl (fun _ => 0))), ((rx 6), .inl (cI, 80, .inl (fun _ => 0))), ((rx 7), .inl (cI, 8, .inl (fun _ => 0))), ((rm 0), .inr (3, mf_D rm 0 0 0 0 0)), ((rm 1), .inl (cI, 8, .inl (fun _ => 0))), ((rm 3), .inl (cI, 81, .inl (fun _ => 0))), ((rm 4), .inl (cI, 81, .inl (fun _ => 0))), ((rm 5), .inl (cI, 81, .inl (fun _ => 0))), ((rm 6), .inl (cI, 81, .inl (fun _ => 0))), ((rm 7), .inl (cI, 81, .inl (fun _ => 0))), ((rm 8), .inl (cI, 81, .inl (fun _ => 0))), ((rm 9), .inl (cI, 81, .inl (fun _ => 0))), ((rm 10), .inl (cI, 81, .inl (fun _ => 0))), ((rm 11), .inl (cI, 81, .inl (fun _ => 0))), ((rm 12), .inl (cI, 648, .inl (fun _ => 0))), ((rm 13), .inl (cI, 648, .inl (fun _ => 0))), ((rm 16), .inl (cI, 80, .inl (fun _ => 0))), ((rm 18), .inl (cZ, 81, .inl (fun _ => 0))), (o, .inl (cL, 1, .inr (.inl fo)))]) (hS : va_S A s.heap H locs) (hl : lv_has ls 7 [(4, .int 0), (3, .ref o), (2, .ref (rm 0)), (1, .ref (rx 0)), (0, .ref b)]) : W p l e room_1 s m #[Value.ref b] below meth c H locs 24 2489 (lw_Z below #[Value.ref b] s) (F0 m 953 ls []) := by
  obtain ⟨hx, hb, hr, hml, hown, hts, hX, hbl, hlocks, hgv⟩ := C0
  have hbA : ¬ A b := fun h => absurd (hA0 b h) (Nat.not_le.mpr hbl)
  have hBH := hB.at hS hA0
  refine lv_aload_n hx hb d_L_law_953 rfl (lv_at hl 3 rfl) ?_
  refine lv_aload_n hx hb d_L_law_954 rfl (lv_at hl 4 rfl) ?_
  refine lv_iload hx hb d_L_law_955 (lv_at hl 0 rfl) ?_
  refine lv_iconst (v := 1) hx hb d_L_law_957 (by decide) ?_
  refine lv_iadd hx hb d_L_law_958 ?_
  refine mr_top (y := 1) (by decide) ?_
  refine va_sld hx hb hX hbl hbA hS (i := 1) (by unfold vp_in; decide) d_L_law_959 ?_
  refine vp_callSi (va_Run.run (va_runV (As := [.int (xs (1 : Int32).toNatClampNeg)]) (rest := []) (C := R_M) ⟨hx, hb, hml, hown, hts⟩ (mc_M_count l s dC dI cI cR cL cZ rx (xs (1 : Int32).toNatClampNeg)) ⟨(mr_cB 1 (hts (Cond.code y_M_count b_M_count 2 (some .int)) mw_392) (hts (Cond.initialized y_M_count.cls) mw_393) (hts (Cond.methodLink "MeasureRowsLaw" 104 y_M_count) mw_394) rfl rfl (by decide +kernel) ⟨Nat.le_of_ble_eq_true rfl, Nat.le_of_ble_eq_true rfl⟩), (hts (Cond.instanceMethod y_M_count) mw_395), (hts (Cond.selects "MeasureRows" y_M_count y_M_count) mw_396)⟩ (mr_preV hBH hK (hP.sub (ws' := [((rx 0), .inr (0, mf_M rx (nI 0) 0 0 0)), ((rx 1), .inr (1, [.ref (rx 2), .ref (rx 3)])), ((rx 2), .inl (cI, 8, .inl (fun _ => 0))), ((rx 3), .inl (cI, 8, .inl (fun _ => 0))), ((rx 4), .inl (cR, 80, .inr (.inr (.inr (.inr (fun _ => none)))))), ((rx 5), .inl (cI, 80, .inl (fun _ => 0))), ((rx 6), .inl (cI, 80, .inl (fun _ => 0))), ((rx 7), .inl (cI, 8, .inl (fun _ => 0)))]) [0, 1, 2, 3, 4, 5, 6, 7] rfl) (ci := 0) (q0 := 0) rfl rfl) rfl rfl hl.1 rfl (lv_room (Nat.le_of_ble_eq_true rfl)) d_L_law_960 ⟨Nat.le_of_ble_eq_true rfl, Nat.le_of_ble_eq_true rfl⟩)) (fun r_1 h_2 => ?_)
  subst h_2
  refine lv_aload_n hx hb d_L_law_963 rfl (lv_at hl 2 rfl) ?_
  refine lv_aload_n hx hb d_L_law_964 rfl (lv_at hl 4 rfl) ?_
  refine lv_iload hx hb d_L_law_965 (lv_at hl 0 rfl) ?_
  refine lv_iconst (v := 1) hx hb d_L_law_967 (by decide) ?_
  refine lv_iadd hx hb d_L_law_968 ?_
  refine mr_top (y := 1) (by decide) ?_
  refine va_sld hx hb hX hbl hbA hS (i := 1) (by unfold vp_in; decide) d_L_law_969 ?_
  have hPc := hP.sub (ws' := [((rm 0), .inr (3, mf_D rm 0 0 0 0 0)), ((rm 1), .inl (cI, 8, .inl (fun _ => 0)))]) [8, 9] rfl
  have hDc := hD.sub (ws' := [((rm 0), .inr (3, mf_D rm 0 0 0 0 0)), ((rm 1), .inl (cI, 8, .inl (fun _ => 0)))]) [8, 9] (by decide) rfl
  have hFc := va_free (wc := [((rm 0), .inr (3, mf_D rm 0 0 0 0 0)), ((rm 1), .inl (cI, 8, .inl (fun _ => 0)))]) hD hS hA [8, 9] rfl
  refine va_calli (va_runV (As := [.int (xs (1 : Int32).toNatClampNeg)]) (rest := [.int (mv_M_count  (xs (1 : Int32).toNatClampNeg))]) (C := R_D) ⟨hx, hb, hml, hown, hts⟩ (mc_D_count l s dC dI cI cR cL cZ rm 0 (fun _ => 0) _ (xs (1 : Int32).toNatClampNeg)) ⟨(mr_cB 1 (hts (Cond.code y_D_count b_D_count 2 (some .int)) mw_397) (hts (Cond.initialized y_D_count.cls) mw_398) (hts (Cond.methodLink "MeasureRowsLaw" 107 y_D_count) mw_399) rfl rfl (by decide +kernel) ⟨Nat.le_of_ble_eq_true rfl, Nat.le_of_ble_eq_true rfl⟩), (hts (Cond.instanceMethod y_D_count) mw_400), (hts (Cond.selects "MeasureRowsModel" y_D_count y_D_count) mw_401)⟩ (mr_preCV hBH hK hPc (hDc.weaken (fun _ _ _ h => hA0 _ h)) (ci := 3) (q0 := 0) rfl rfl) rfl rfl hl.1 rfl (lv_room (Nat.le_of_ble_eq_true rfl)) d_L_law_970 ⟨Nat.le_of_ble_eq_true rfl, Nat.le_of_ble_eq_true rfl⟩) hS (fun q _ h => hFc q h) hFc (fun r_3 u_4 t H1 locs ht hvm hw hB1 hz1 hk1 hS => ?_)
  obtain ⟨rw9, nw9, pb9, lc9, hP1, hK1, hD1⟩ := hB1
  rw [ht] at hP1
  obtain ⟨hP, hD⟩ := va_join (wr := [((rx 0), .inr (0, mf_M rx (nI 0) 0 0 0)), ((rx 1), .inr (1, [.ref (rx 2), .ref (rx 3)])), ((rx 2), .inl (cI, 8, .inl (fun _ => 0))), ((rx 3), .inl (cI, 8, .inl (fun _ => 0))), ((rx 4), .inl (cR, 80, .inr (.inr (.inr (.inr (fun _ => none)))))), ((rx 5), .inl (cI, 80, .inl (fun _ => 0))), ((rx 6), .inl (cI, 80, .inl (fun _ => 0))), ((rx 7), .inl (cI, 8, .inl (fun _ => 0))), ((rm 3), .inl (cI, 81, .inl (fun _ => 0))), ((rm 4), .inl (cI, 81, .inl (fun _ => 0))), ((rm 5), .inl (cI, 81, .inl (fun _ => 0))), ((rm 6), .inl (cI, 81, .inl (fun _ => 0))), ((rm 7), .inl (cI, 81, .inl (fun _ => 0))), ((rm 8), .inl (cI, 81, .inl (fun _ => 0))), ((rm 9), .inl (cI, 81, .inl (fun _ => 0))), ((rm 10), .inl (cI, 81, .inl (fun _ => 0))), ((rm 11), .inl (cI, 81, .inl (fun _ => 0))), ((rm 12), .inl (cI, 648, .inl (fun _ => 0))), ((rm 13), .inl (cI, 648, .inl (fun _ => 0))), ((rm 16), .inl (cI, 80, .inl (fun _ => 0))), ((rm 18), .inl (cZ, 81, .inl (fun _ => 0))), (o, .inl (cL, 1, .inr (.inl fo)))]) (w1 := [((rm 0), .inr (3, mf_D rm u_4 rw9 nw9 pb9 lc9))]) hP hD [8, 9] [0, 1, 2, 3, 4, 5, 6, 7, 10, 11, 12, 13, 14, 15, 16, 17, 18, 19, 20, 21, 22, 23] rfl rfl (by decide) (by decide) hk1 hFc hP1 hD1
  clear hK1 hk1 hPc hDc hFc
  generalize H1 = H at hP hS ht ⊢
  have hP : va_P (dC, dI) mr_cl [((rx 0), .inr (0, mf_M rx (nI 0) 0 0 0)), ((rx 1), .inr (1, [.ref (rx 2), .ref (rx 3)])), ((rx 2), .inl (cI, 8, .inl (fun _ => 0))), ((rx 3), .inl (cI, 8, .inl (fun _ => 0))), ((rx 4), .inl (cR, 80, .inr (.inr (.inr (.inr (fun _ => none)))))), ((rx 5), .inl (cI, 80, .inl (fun _ => 0))), ((rx 6), .inl (cI, 80, .inl (fun _ => 0))), ((rx 7), .inl (cI, 8, .inl (fun _ => 0))), ((rm 3), .inl (cI, 81, .inl (fun _ => 0))), ((rm 4), .inl (cI, 81, .inl (fun _ => 0))), ((rm 5), .inl (cI, 81, .inl (fun _ => 0))), ((rm 6), .inl (cI, 81, .inl (fun _ => 0))), ((rm 7), .inl (cI, 81, .inl (fun _ => 0))), ((rm 8), .inl (cI, 81, .inl (fun _ => 0))), ((rm 9), .inl (cI, 81, .inl (fun _ => 0))), ((rm 10), .inl (cI, 81, .inl (fun _ => 0))), ((rm 11), .inl (cI, 81, .inl (fun _ => 0))), ((rm 12), .inl (cI, 648, .inl (fun _ => 0))), ((rm 13), .inl (cI, 648, .inl (fun _ => 0))), ((rm 16), .inl (cI, 80, .inl (fun _ => 0))), ((rm 18), .inl (cZ, 81, .inl (fun _ => 0))), (o, .inl (cL, 1, .inr (.inl fo))), ((rm 0), .inr (3, mf_D rm u_4 rw9 nw9 pb9 lc9))] H := hP
  have hD : va_D A [((rx 0), .inr (0, mf_M rx (nI 0) 0 0 0)), ((rx 1), .inr (1, [.ref (rx 2), .ref (rx 3)])), ((rx 2), .inl (cI, 8, .inl (fun _ => 0))), ((rx 3), .inl (cI, 8, .inl (fun _ => 0))), ((rx 4), .inl (cR, 80, .inr (.inr (.inr (.inr (fun _ => none)))))), ((rx 5), .inl (cI, 80, .inl (fun _ => 0))), ((rx 6), .inl (cI, 80, .inl (fun _ => 0))), ((rx 7), .inl (cI, 8, .inl (fun _ => 0))), ((rm 3), .inl (cI, 81, .inl (fun _ => 0))), ((rm 4), .inl (cI, 81, .inl (fun _ => 0))), ((rm 5), .inl (cI, 81, .inl (fun _ => 0))), ((rm 6), .inl (cI, 81, .inl (fun _ => 0))), ((rm 7), .inl (cI, 81, .inl (fun _ => 0))), ((rm 8), .inl (cI, 81, .inl (fun _ => 0))), ((rm 9), .inl (cI, 81, .inl (fun _ => 0))), ((rm 10), .inl (cI, 81, .inl (fun _ => 0))), ((rm 11), .inl (cI, 81, .inl (fun _ => 0))), ((rm 12), .inl (cI, 648, .inl (fun _ => 0))), ((rm 13), .inl (cI, 648, .inl (fun _ => 0))), ((rm 16), .inl (cI, 80, .inl (fun _ => 0))), ((rm 18), .inl (cZ, 81, .inl (fun _ => 0))), (o, .inl (cL, 1, .inr (.inl fo))), ((rm 0), .inr (3, mf_D rm u_4 rw9 nw9 pb9 lc9))] := hD
  have hBH := hB.at hS hA0
  obtain ⟨rfl, rfl⟩ := hw
  refine lv_icmp_eq (tgt := 978) hx hb d_L_law_973 (by decide) (fun _ => ?_) (fun c_5 => absurd (v_count (xs (1 : Int32).toNatClampNeg)) c_5)
  refine lv_iinc (v := 8) (lv' := [(4, .int 8), (3, .ref o), (2, .ref (rm 0)), (1, .ref (rx 0)), (0, .ref b)]) hx hb d_L_law_978 hl (k := 0) rfl (by decide) (by decide) rfl (fun ls hl => ?_)
  refine lv_goto (tgt := 23) hx hb d_L_law_981 (by decide) ?_
  refine lv_iload hx hb d_L_law_23 (lv_at hl 0 rfl) ?_
  refine lv_aload_n hx hb d_L_law_25 rfl (lv_at hl 4 rfl) ?_
  refine va_slen hx hb hX hbl hbA hS d_L_law_26 ?_
  refine mr_top (y := 8) (by decide) ?_
  refine lv_bipush (v := 8) hx hb d_L_law_27 (by decide) ?_
  refine lv_isub hx hb d_L_law_29 ?_
  refine mr_top (y := 0) (by decide) ?_
  refine lv_icmp_gt (tgt := 984) hx hb d_L_law_30 (by decide) (fun _ => ?_) (fun c_6 => absurd c_6 (by decide))
  refine lv_iconst (v := 1) hx hb d_L_law_984 (by decide) ?_
  refine va_forget (fun q hq => hA0 _ (hS.2.2 q hq)) ?_
  refine W.widen (k := 600002) (n := 7302231) (by omega) (by omega) ?_
  exact lw_ret hx hb hr hlocks d_L_law_985
set_option maxHeartbeats 4000000 in
set_option maxRecDepth 100000 in
theorem law_d {p : Program} {l : Launch} {e : Env} {s : State} {m : MethodId} {below : List Frame} {meth : Method} {c : Code} {b : Nat} {xs : Nat → Int32} {dC : Nat → ClassId} {dI : Nat → Nat → Nat} {cI cR cL cZ : ClassId} {rx rm : Nat → Nat} {o : Nat} {fo : Nat → Int64} {A : Nat → Prop} {H : Heap} {locs : List Loc} {ls : Array Slot} (hlt : l.stackTraces = false) (C0 : lw_At p s m meth c b 8 xs) (hB : mr_B s s) (hA : ∀ q : Nat, s.heap.size ≤ q → A q) (hA0 : ∀ q : Nat, A q → s.heap.size ≤ q) (hK : va_K (dC, dI) mr_cl [(cI, .int), (cR, .object "MeasureRows$Row"), (cL, .long), (cZ, .boolean)] s) (hP : va_P (dC, dI) mr_cl [((rx 0), .inr (0, mf_M rx (nI 0) 0 0 0)), ((rx 1), .inr (1, [.ref (rx 2), .ref (rx 3)])), ((rx 2), .inl (cI, 8, .inl (fun _ => 0))), ((rx 3), .inl (cI, 8, .inl (fun _ => 0))), ((rx 4), .inl (cR, 80, .inr (.inr (.inr (.inr (fun _ => none)))))), ((rx 5), .inl (cI, 80, .inl (fun _ => 0))), ((rx 6), .inl (cI, 80, .inl (fun _ => 0))), ((rx 7), .inl (cI, 8, .inl (fun _ => 0))), ((rm 0), .inr (3, mf_D rm 0 0 0 0 0)), ((rm 1), .inl (cI, 8, .inl (fun _ => 0))), ((rm 3), .inl (cI, 81, .inl (fun _ => 0))), ((rm 4), .inl (cI, 81, .inl (fun _ => 0))), ((rm 5), .inl (cI, 81, .inl (fun _ => 0))), ((rm 6), .inl (cI, 81, .inl (fun _ => 0))), ((rm 7), .inl (cI, 81, .inl (fun _ => 0))), ((rm 8), .inl (cI, 81, .inl (fun _ => 0))), ((rm 9), .inl (cI, 81, .inl (fun _ => 0))), ((rm 10), .inl (cI, 81, .inl (fun _ => 0))), ((rm 11), .inl (cI, 81, .inl (fun _ => 0))), ((rm 12), .inl (cI, 648, .inl (fun _ => 0))), ((rm 13), .inl (cI, 648, .inl (fun _ => 0))), ((rm 16), .inl (cI, 80, .inl (fun _ => 0))), ((rm 18), .inl (cZ, 81, .inl (fun _ => 0))), (o, .inl (cL, 1, .inr (.inl fo)))] H) (hD : va_D A [((rx 0), .inr (0, mf_M rx (nI 0) 0 0 0)), ((rx 1), .inr (1, [.ref (rx 2), .ref (rx 3)])), ((rx 2), .inl (cI, 8, .inl (fun _ => 0))), ((rx 3), .inl (cI, 8, .inl (fun _ => 0))), ((rx 4), .inl (cR, 80, .inr (.inr (.inr (.inr (fun _ => none)))))), ((rx 5), .inl (cI, 80, .inl (fun _ => 0))), ((rx 6), .inl (cI, 80, .inl (fun _ => 0))), ((rx 7), .inl (cI, 8, .inl (fun _ => 0))), ((rm 0), .inr (3, mf_D rm 0 0 0 0 0)), ((rm 1), .inl (cI, 8, .inl (fun _ => 0))), ((rm 3), .inl (cI, 81, .inl (fun _ => 0))), ((rm 4), .inl (cI, 81, .inl (fun _ => 0))), ((rm 5), .inl (cI, 81, .inl (fun _ => 0))), ((rm 6), .inl (cI, 81, .inl (fun _ => 0))), ((rm 7), .inl (cI, 81, .inl (fun _ => 0))), ((rm 8), .inl (cI, 81, .inl (fun _ => 0))), ((rm 9), .inl (cI, 81, .inl (fun _ => 0))), ((rm 10), .inl (cI, 81, .inl (fun _ => 0))), ((rm 11), .inl (cI, 81, .inl (fun _ => 0))), ((rm 12), .inl (cI, 648, .inl (fun _ => 0))), ((rm 13), .inl (cI, 648, .inl (fun _ => 0))), ((rm 16), .inl (cI, 80, .inl (fun _ => 0))), ((rm 18), .inl (cZ, 81, .inl (fun _ => 0))), (o, .inl (cL, 1, .inr (.inl fo)))]) (hS : va_S A s.heap H locs) (hl : lv_has ls 7 [(4, .int 0), (3, .ref o), (2, .ref (rm 0)), (1, .ref (rx 0)), (0, .ref b)]) : W p l e room_1 s m #[Value.ref b] below meth c H locs 24 2489 (lw_Z below #[Value.ref b] s) (F0 m 978 ls []) := by
  obtain ⟨hx, hb, hr, hml, hown, hts, hX, hbl, hlocks, hgv⟩ := C0
  have hbA : ¬ A b := fun h => absurd (hA0 b h) (Nat.not_le.mpr hbl)
  have hBH := hB.at hS hA0
  refine lv_iinc (v := 8) (lv' := [(4, .int 8), (3, .ref o), (2, .ref (rm 0)), (1, .ref (rx 0)), (0, .ref b)]) hx hb d_L_law_978 hl (k := 0) rfl (by decide) (by decide) rfl (fun ls hl => ?_)
  refine lv_goto (tgt := 23) hx hb d_L_law_981 (by decide) ?_
  refine lv_iload hx hb d_L_law_23 (lv_at hl 0 rfl) ?_
  refine lv_aload_n hx hb d_L_law_25 rfl (lv_at hl 4 rfl) ?_
  refine va_slen hx hb hX hbl hbA hS d_L_law_26 ?_
  refine mr_top (y := 8) (by decide) ?_
  refine lv_bipush (v := 8) hx hb d_L_law_27 (by decide) ?_
  refine lv_isub hx hb d_L_law_29 ?_
  refine mr_top (y := 0) (by decide) ?_
  refine lv_icmp_gt (tgt := 984) hx hb d_L_law_30 (by decide) (fun _ => ?_) (fun c_1 => absurd c_1 (by decide))
  refine lv_iconst (v := 1) hx hb d_L_law_984 (by decide) ?_
  refine va_forget (fun q hq => hA0 _ (hS.2.2 q hq)) ?_
  refine W.widen (k := 600002) (n := 7302231) (by omega) (by omega) ?_
  exact lw_ret hx hb hr hlocks d_L_law_985
