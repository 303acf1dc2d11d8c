theorem mr_last {A : Nat → Prop} {D : va_G} {cl : List vw_C} {wc : va_W} {x : Nat × va_E} {H H1 : Heap} (hP : va_P D cl (wc ++ [x]) H) (hD : va_D A (wc ++ [x])) (hk : ∀ q : Nat, q < H.size → ¬ va_A wc H.size q → H1[q]? = H[q]?) : va_P D cl [x] H1 := by
  have hx : (wc ++ [x])[wc.length]? = some x := by simp
  have hlt := (hP _ _ hx).lt
  have hno : ¬ va_A wc H.size x.1 := by
    rintro (⟨k, e, h⟩ | h)
    · have hkl : k < wc.length := (List.getElem?_eq_some_iff.mp h).1
      have h2 : (wc ++ [x])[k]? = some (x.1, e) := by rw [List.getElem?_append_left hkl]; exact h
      have := hD.1 k wc.length _ _ h2 hx rfl
      omega
    · omega
  intro k q hq
  match k, hq with
  | 0, hq => cases hq; exact (hP _ _ hx).kept (hk x.1 hlt hno)
  | k + 1, hq => simp at hq
theorem mw_219 : Cond.code y_M_ring b_M_ring 3 (some .boolean) ∈ lw_tbl := by decide +kernel
theorem mw_220 : Cond.initialized y_M_ring.cls ∈ lw_tbl := by decide +kernel
theorem mw_221 : Cond.methodLink "MeasureRowsLaw" 7 y_M_ring ∈ lw_tbl := by decide +kernel
theorem mw_222 : Cond.instanceMethod y_M_ring ∈ lw_tbl := by decide +kernel
theorem mw_223 : Cond.selects "MeasureRows" y_M_ring y_M_ring ∈ lw_tbl := by decide +kernel
theorem mw_224 : Cond.classLink "MeasureRowsLaw" 13 mr_iob ∈ lw_tbl := by decide +kernel
theorem mw_225 : Cond.castable mr_iob mr_iob ∈ lw_tbl := by decide +kernel
theorem mw_226 : Cond.code y_M_has b_M_has 3 (some .boolean) ∈ lw_tbl := by decide +kernel
theorem mw_227 : Cond.initialized y_M_has.cls ∈ lw_tbl := by decide +kernel
theorem mw_228 : Cond.methodLink "MeasureRowsLaw" 15 y_M_has ∈ lw_tbl := by decide +kernel
theorem mw_229 : Cond.instanceMethod y_M_has ∈ lw_tbl := by decide +kernel
theorem mw_230 : Cond.selects "MeasureRows" y_M_has y_M_has ∈ lw_tbl := by decide +kernel
theorem mw_231 : Cond.code y_M_row b_M_row 9 (some .int) ∈ lw_tbl := by decide +kernel
theorem mw_232 : Cond.initialized y_M_row.cls ∈ lw_tbl := by decide +kernel
theorem mw_233 : Cond.methodLink "MeasureRowsLaw" 18 y_M_row ∈ lw_tbl := by decide +kernel
theorem mw_234 : Cond.instanceMethod y_M_row ∈ lw_tbl := by decide +kernel
theorem mw_235 : Cond.selects "MeasureRows" y_M_row y_M_row ∈ lw_tbl := by decide +kernel
theorem mw_236 : Cond.classLink "MeasureRowsLaw" 22 mr_iae ∈ lw_tbl := by decide +kernel
theorem mw_237 : Cond.castable mr_iae mr_iae ∈ lw_tbl := by decide +kernel
theorem mw_238 : Cond.classLink "MeasureRowsLaw" 24 mr_ise ∈ lw_tbl := by decide +kernel
theorem mw_239 : Cond.castable mr_ise mr_ise ∈ lw_tbl := by decide +kernel
theorem mw_240 : Cond.code y_M_end b_M_end 5 (some .int) ∈ lw_tbl := by decide +kernel
theorem mw_241 : Cond.initialized y_M_end.cls ∈ lw_tbl := by decide +kernel
theorem mw_242 : Cond.methodLink "MeasureRowsLaw" 26 y_M_end ∈ lw_tbl := by decide +kernel
theorem mw_243 : Cond.instanceMethod y_M_end ∈ lw_tbl := by decide +kernel
theorem mw_244 : Cond.selects "MeasureRows" y_M_end y_M_end ∈ lw_tbl := by decide +kernel
theorem mw_245 : Cond.code y_M_apply b_M_apply 6 (some .int) ∈ lw_tbl := by decide +kernel
theorem mw_246 : Cond.initialized y_M_apply.cls ∈ lw_tbl := by decide +kernel
theorem mw_247 : Cond.methodLink "MeasureRowsLaw" 30 y_M_apply ∈ lw_tbl := by decide +kernel
theorem mw_248 : Cond.instanceMethod y_M_apply ∈ lw_tbl := by decide +kernel
theorem mw_249 : Cond.selects "MeasureRows" y_M_apply y_M_apply ∈ lw_tbl := by decide +kernel
theorem mw_250 : Cond.code y_M_scan b_M_scan 5 (some .int) ∈ lw_tbl := by decide +kernel
theorem mw_251 : Cond.initialized y_M_scan.cls ∈ lw_tbl := by decide +kernel
theorem mw_252 : Cond.methodLink "MeasureRowsLaw" 34 y_M_scan ∈ lw_tbl := by decide +kernel
theorem mw_253 : Cond.instanceMethod y_M_scan ∈ lw_tbl := by decide +kernel
theorem mw_254 : Cond.selects "MeasureRows" y_M_scan y_M_scan ∈ lw_tbl := by decide +kernel
theorem mw_255 : Cond.code y_M_change b_M_change 7 (some .int) ∈ lw_tbl := by decide +kernel
theorem mw_256 : Cond.initialized y_M_change.cls ∈ lw_tbl := by decide +kernel
theorem mw_257 : Cond.methodLink "MeasureRowsLaw" 37 y_M_change ∈ lw_tbl := by decide +kernel
theorem mw_258 : Cond.instanceMethod y_M_change ∈ lw_tbl := by decide +kernel
theorem mw_259 : Cond.selects "MeasureRows" y_M_change y_M_change ∈ lw_tbl := by decide +kernel
theorem mw_260 : Cond.code y_M_look b_M_look 4 (some .int) ∈ lw_tbl := by decide +kernel
theorem mw_261 : Cond.initialized y_M_look.cls ∈ lw_tbl := by decide +kernel
theorem mw_262 : Cond.methodLink "MeasureRowsLaw" 40 y_M_look ∈ lw_tbl := by decide +kernel
theorem mw_263 : Cond.instanceMethod y_M_look ∈ lw_tbl := by decide +kernel
theorem mw_264 : Cond.selects "MeasureRows" y_M_look y_M_look ∈ lw_tbl := by decide +kernel
set_option maxHeartbeats 4000000 in
set_option maxRecDepth 100000 in
theorem mc_L_ring (l : Launch) (hlt : l.stackTraces = false) (s0 : State) (dC : Nat → ClassId) (dI : Nat → Nat → Nat) (cI cR cL cZ : ClassId) (r : Nat → Nat) (o : Nat) (fo : Nat → Int64) (sz : Nat) (a0 : Int32) (a1 : Int32) : Met l y_L_ring [Cond.codeWith y_L_ring b_L_ring 5 (some .int) [(0, 17, 20, 13)]] ({ frames := 7, cells := 1, slots := 6, locals := 114 }) (mr_PC s0 (dC, dI) [(cI, .int), (cR, .object "MeasureRows$Row"), (cL, .long), (cZ, .boolean)] [.ref (r 0), .int a0, .int a1, .ref o] [((r 0), .inr (0, mf_M r (nI 0) 0 0 0)), ((r 1), .inr (1, [.ref (r 2), .ref (r 3)])), ((r 2), .inl (cI, 8, .inl (fun _ => 0))), ((r 3), .inl (cI, 8, .inl (fun _ => 0))), ((r 4), .inl (cR, 80, .inr (.inr (.inr (.inr (fun _ => none)))))), ((r 5), .inl (cI, 80, .inl (fun _ => 0))), ((r 6), .inl (cI, 80, .inl (fun _ => 0))), ((r 7), .inl (cI, 8, .inl (fun _ => 0))), (o, .inl (cL, 1, .inr (.inl fo)))] sz) (va_Qi (fun rr u => rr = mk_M_ring a0 a1 ∧ (mk_M_ring a0 a1 = 0 → u 0 = (if (mv_M_ring a0 a1) = 0 then (0 : Int64) else 1))) (fun (u : Nat → Int64) t => mr_W (dC, dI) [(cI, .int), (cR, .object "MeasureRows$Row"), (cL, .long), (cZ, .boolean)] (va_A [((r 0), .inr (0, mf_M r (nI 0) 0 0 0)), ((r 1), .inr (1, [.ref (r 2), .ref (r 3)])), ((r 2), .inl (cI, 8, .inl (fun _ => 0))), ((r 3), .inl (cI, 8, .inl (fun _ => 0))), ((r 4), .inl (cR, 80, .inr (.inr (.inr (.inr (fun _ => none)))))), ((r 5), .inl (cI, 80, .inl (fun _ => 0))), ((r 6), .inl (cI, 80, .inl (fun _ => 0))), ((r 7), .inl (cI, 8, .inl (fun _ => 0))), (o, .inl (cL, 1, .inr (.inl fo)))] sz) [(o, .inl (cL, 1, .inr (.inl u)))] t) (va_A [((r 0), .inr (0, mf_M r (nI 0) 0 0 0)), ((r 1), .inr (1, [.ref (r 2), .ref (r 3)])), ((r 2), .inl (cI, 8, .inl (fun _ => 0))), ((r 3), .inl (cI, 8, .inl (fun _ => 0))), ((r 4), .inl (cR, 80, .inr (.inr (.inr (.inr (fun _ => none)))))), ((r 5), .inl (cI, 80, .inl (fun _ => 0))), ((r 6), .inl (cI, 80, .inl (fun _ => 0))), ((r 7), .inl (cI, 8, .inl (fun _ => 0))), (o, .inl (cL, 1, .inr (.inl fo)))] sz)) 1 6 (va_A [((r 0), .inr (0, mf_M r (nI 0) 0 0 0)), ((r 1), .inr (1, [.ref (r 2), .ref (r 3)])), ((r 2), .inl (cI, 8, .inl (fun _ => 0))), ((r 3), .inl (cI, 8, .inl (fun _ => 0))), ((r 4), .inl (cR, 80, .inr (.inr (.inr (.inr (fun _ => none)))))), ((r 5), .inl (cI, 80, .inl (fun _ => 0))), ((r 6), .inl (cI, 80, .inl (fun _ => 0))), ((r 7), .inl (cI, 8, .inl (fun _ => 0))), (o, .inl (cL, 1, .inr (.inl fo)))] sz) := by
  refine mr_ofH (cc := b_L_ring) (maxL := 5) (ret := (some .int)) (by decide) ?_
  intro p e s m args below meth c s₁ B hml htab hv
  obtain ⟨rfl, hsz, hB, hK, hP, hD0⟩ := hv
  subst hsz
  have hA0 := mr_A hB hD0
  have hD := hD0.self (sz := s.heap.size)
  generalize hAe : va_A [((r 0), .inr (0, mf_M r (nI 0) 0 0 0)), ((r 1), .inr (1, [.ref (r 2), .ref (r 3)])), ((r 2), .inl (cI, 8, .inl (fun _ => 0))), ((r 3), .inl (cI, 8, .inl (fun _ => 0))), ((r 4), .inl (cR, 80, .inr (.inr (.inr (.inr (fun _ => none)))))), ((r 5), .inl (cI, 80, .inl (fun _ => 0))), ((r 6), .inl (cI, 80, .inl (fun _ => 0))), ((r 7), .inl (cI, 8, .inl (fun _ => 0))), (o, .inl (cL, 1, .inr (.inl fo)))] s.heap.size = A at hD hA0 ⊢
  have hA : ∀ q : Nat, s.heap.size ≤ q → A q := fun q h => by rw [← hAe]; exact Or.inr h
  have hS : va_S A s.heap s.heap [] := va_S.rf
  have hP : va_P (dC, dI) mr_cl [((r 0), .inr (0, mf_M r (nI 0) 0 0 0)), ((r 1), .inr (1, [.ref (r 2), .ref (r 3)])), ((r 2), .inl (cI, 8, .inl (fun _ => 0))), ((r 3), .inl (cI, 8, .inl (fun _ => 0))), ((r 4), .inl (cR, 80, .inr (.inr (.inr (.inr (fun _ => none)))))), ((r 5), .inl (cI, 80, .inl (fun _ => 0))), ((r 6), .inl (cI, 80, .inl (fun _ => 0))), ((r 7), .inl (cI, 8, .inl (fun _ => 0))), (o, .inl (cL, 1, .inr (.inl fo)))] s.heap := hP
  have hBH := hB.at hS hA0
  have hx := B.exec
  have hb := B.bytes
  have hr := B.returns
  have hlocks := B.notSynchronized
  have hts : ∀ w ∈ lw_tbl, w.before [.ref (r 0), .int a0, .int a1, .ref o].toArray s = true := hB.hts _
  have hown : s.vm.findClass "MeasureRowsLaw" = some m.cls := findClass_of_methodNamed B.named
  have hl := lv_entry ([.ref (r 0), .int a0, .int a1, .ref o]) (n := 5) (Nat.le_of_ble_eq_true rfl)
  rw [lg_entry_eq]
  generalize (lg_sl ([.ref (r 0), .int a0, .int a1, .ref o]) ++ List.replicate (5 - (lg_sl ([.ref (r 0), .int a0, .int a1, .ref o])).length) Slot.unset).toArray = ls at hl ⊢
  have hl : lv_has ls 5 [(0, .ref (r 0)), (1, .int a0), (2, .int a1), (3, .ref o)] := hl
  obtain ⟨x0, ht0, s0a, s0b, s0c, s0d⟩ := mr_tab1 htab
  refine lv_aload_n hx hb d_L_ring_0 rfl (lv_at hl 3 rfl) ?_
  refine lv_iconst (v := 0) hx hb d_L_ring_1 (by decide) ?_
  refine lv_aload_n hx hb d_L_ring_2 rfl (lv_at hl 0 rfl) ?_
  refine lv_iload_n hx hb d_L_ring_3 rfl (lv_at hl 1 rfl) ?_
  refine lv_iload_n hx hb d_L_ring_4 rfl (lv_at hl 2 rfl) ?_
  refine mr_callVp (As := [.int a0, .int a1]) (rest := [.int 0, .ref o]) (C := R_M) ⟨hx, hb, hml, hown, hts⟩ (mc_M_ring l hlt s0 dC dI cI cR cL cZ r a0 a1) ⟨(mr_cB 2 (hts (Cond.code y_M_ring b_M_ring 3 (some .boolean)) mw_219) (hts (Cond.initialized y_M_ring.cls) mw_220) (hts (Cond.methodLink "MeasureRowsLaw" 7 y_M_ring) mw_221) rfl rfl (by decide +kernel) ⟨Nat.le_of_ble_eq_true rfl, Nat.le_of_ble_eq_true rfl⟩), (hts (Cond.instanceMethod y_M_ring) mw_222), (hts (Cond.selects "MeasureRows" y_M_ring y_M_ring) mw_223)⟩ (mr_preV hBH hK (hP.sub (ws' := [((r 0), .inr (0, mf_M r (nI 0) 0 0 0)), ((r 1), .inr (1, [.ref (r 2), .ref (r 3)])), ((r 2), .inl (cI, 8, .inl (fun _ => 0))), ((r 3), .inl (cI, 8, .inl (fun _ => 0))), ((r 4), .inl (cR, 80, .inr (.inr (.inr (.inr (fun _ => none)))))), ((r 5), .inl (cI, 80, .inl (fun _ => 0))), ((r 6), .inl (cI, 80, .inl (fun _ => 0))), ((r 7), .inl (cI, 8, .inl (fun _ => 0)))]) [0, 1, 2, 3, 4, 5, 6, 7] rfl) (ci := 0) (q0 := 0) rfl rfl) rfl hl.1 rfl (Nat.le_of_ble_eq_true rfl) d_L_ring_5 ⟨Nat.le_of_ble_eq_true rfl, Nat.le_of_ble_eq_true rfl⟩ (fun r9 h9 => ?_) (fun E9 hE => ?_)
  · obtain ⟨hk0, rfl⟩ := h9
    refine W.widen (k := 1) (n := 6) (Nat.le_of_ble_eq_true rfl) (Nat.le_of_ble_eq_true rfl) ?_
    refine lv_if_eq (tgt := 15) hx hb d_L_ring_8 (by decide) (fun c_1 => ?_) (fun c_1 => ?_)
    · refine lv_lconst (v := 0) hx hb d_L_ring_15 (by decide) ?_
      refine va_last (D := (dC, dI)) hx hb hK hP hD hS 8 2 rfl rfl (i := 0) (by unfold vp_in; decide) d_L_ring_16 (fun H locs hP hD hS => ?_)
      have hP : va_P (dC, dI) mr_cl [((r 0), .inr (0, mf_M r (nI 0) 0 0 0)), ((r 1), .inr (1, [.ref (r 2), .ref (r 3)])), ((r 2), .inl (cI, 8, .inl (fun _ => 0))), ((r 3), .inl (cI, 8, .inl (fun _ => 0))), ((r 4), .inl (cR, 80, .inr (.inr (.inr (.inr (fun _ => none)))))), ((r 5), .inl (cI, 80, .inl (fun _ => 0))), ((r 6), .inl (cI, 80, .inl (fun _ => 0))), ((r 7), .inl (cI, 8, .inl (fun _ => 0))), (o, .inl (cL, 1, .inr (.inl (vp_updL fo (0 : Int32).toNatClampNeg 0))))] H := hP
      have hD : va_D A [((r 0), .inr (0, mf_M r (nI 0) 0 0 0)), ((r 1), .inr (1, [.ref (r 2), .ref (r 3)])), ((r 2), .inl (cI, 8, .inl (fun _ => 0))), ((r 3), .inl (cI, 8, .inl (fun _ => 0))), ((r 4), .inl (cR, 80, .inr (.inr (.inr (.inr (fun _ => none)))))), ((r 5), .inl (cI, 80, .inl (fun _ => 0))), ((r 6), .inl (cI, 80, .inl (fun _ => 0))), ((r 7), .inl (cI, 8, .inl (fun _ => 0))), (o, .inl (cL, 1, .inr (.inl (vp_updL fo (0 : Int32).toNatClampNeg 0))))] := hD
      have hBH := hB.at hS hA0
      refine lv_goto (tgt := 24) hx hb d_L_ring_17 (by decide) ?_
      refine lv_iconst (v := 0) hx hb d_L_ring_24 (by decide) ?_
      have hP9 := hP.sub (ws' := [(o, .inl (cL, 1, .inr (.inl (vp_updL fo (0 : Int32).toNatClampNeg 0))))]) [8] rfl
      have hD9 := hD.sub (ws' := [(o, .inl (cL, 1, .inr (.inl (vp_updL fo (0 : Int32).toNatClampNeg 0))))]) [8] (by decide) rfl
      exact W.iret (v := 0) hx hb hr (fun t ht hW => ⟨⟨_, (vp_updL fo (0 : Int32).toNatClampNeg 0), rfl, ⟨hk0.symm, fun _ => by rw [if_pos c_1]; rfl⟩, by rw [ht]; exact hP9, va_K.moved hW.alike hK, hD9⟩, hS.F ht⟩) hS.2.2 d_L_ring_25
    · refine lv_lconst (v := 1) hx hb d_L_ring_11 (by decide) ?_
      refine lv_goto (tgt := 16) hx hb d_L_ring_12 (by decide) ?_
      refine va_last (D := (dC, dI)) hx hb hK hP hD hS 8 2 rfl rfl (i := 0) (by unfold vp_in; decide) d_L_ring_16 (fun H locs hP hD hS => ?_)
      have hP : va_P (dC, dI) mr_cl [((r 0), .inr (0, mf_M r (nI 0) 0 0 0)), ((r 1), .inr (1, [.ref (r 2), .ref (r 3)])), ((r 2), .inl (cI, 8, .inl (fun _ => 0))), ((r 3), .inl (cI, 8, .inl (fun _ => 0))), ((r 4), .inl (cR, 80, .inr (.inr (.inr (.inr (fun _ => none)))))), ((r 5), .inl (cI, 80, .inl (fun _ => 0))), ((r 6), .inl (cI, 80, .inl (fun _ => 0))), ((r 7), .inl (cI, 8, .inl (fun _ => 0))), (o, .inl (cL, 1, .inr (.inl (vp_updL fo (0 : Int32).toNatClampNeg 1))))] H := hP
      have hD : va_D A [((r 0), .inr (0, mf_M r (nI 0) 0 0 0)), ((r 1), .inr (1, [.ref (r 2), .ref (r 3)])), ((r 2), .inl (cI, 8, .inl (fun _ => 0))), ((r 3), .inl (cI, 8, .inl (fun _ => 0))), ((r 4), .inl (cR, 80, .inr (.inr (.inr (.inr (fun _ => none)))))), ((r 5), .inl (cI, 80, .inl (fun _ => 0))), ((r 6), .inl (cI, 80, .inl (fun _ => 0))), ((r 7), .inl (cI, 8, .inl (fun _ => 0))), (o, .inl (cL, 1, .inr (.inl (vp_updL fo (0 : Int32).toNatClampNeg 1))))] := hD
      have hBH := hB.at hS hA0
      refine lv_goto (tgt := 24) hx hb d_L_ring_17 (by decide) ?_
      refine lv_iconst (v := 0) hx hb d_L_ring_24 (by decide) ?_
      have hP9 := hP.sub (ws' := [(o, .inl (cL, 1, .inr (.inl (vp_updL fo (0 : Int32).toNatClampNeg 1))))]) [8] rfl
      have hD9 := hD.sub (ws' := [(o, .inl (cL, 1, .inr (.inl (vp_updL fo (0 : Int32).toNatClampNeg 1))))]) [8] (by decide) rfl
      exact W.iret (v := 0) hx hb hr (fun t ht hW => ⟨⟨_, (vp_updL fo (0 : Int32).toNatClampNeg 1), rfl, ⟨hk0.symm, fun _ => by rw [if_neg c_1]; rfl⟩, by rw [ht]; exact hP9, va_K.moved hW.alike hK, hD9⟩, hS.F ht⟩) hS.2.2 d_L_ring_25
  · obtain ⟨rfl, hkE⟩ := hE
    refine ⟨20, ⟨[], [], x0, mr_iob, ht0, s0c, mr_cov s0a s0b (by decide), by rw [s0d]; decide, (by rw [s0d]; exact (hts (Cond.classLink "MeasureRowsLaw" 13 mr_iob) mw_224)), (hts (Cond.castable mr_iob mr_iob) mw_225), (fun y hy => nomatch hy)⟩, fun q9 H1 hz hk1 => ?_⟩
    have hS : va_S A s.heap H1 [] := ⟨Nat.le_trans hS.1 hz, fun a h1 h2 => (hk1 a (Nat.lt_of_lt_of_le h1 hS.1)).trans (hS.2.1 a h1 h2), hS.2.2⟩
    have hP := hP.kept (fun k x hx => hk1 x.1 (hP k x hx).lt)
    generalize H1 = H at hP hS ⊢
    refine W.widen (k := 1) (n := 6) (Nat.le_of_ble_eq_true rfl) (Nat.le_of_ble_eq_true rfl) ?_
    refine lv_astore (lv' := [(4, .ref q9), (0, .ref (r 0)), (1, .int a0), (2, .int a1), (3, .ref o)]) hx hb d_L_ring_20 hl (by decide) rfl (fun ls hl => ?_)
    refine lv_iconst (v := 1) hx hb d_L_ring_22 (by decide) ?_
    have hP9 := hP.sub (ws' := [(o, .inl (cL, 1, .inr (.inl fo)))]) [8] rfl
    have hD9 := hD.sub (ws' := [(o, .inl (cL, 1, .inr (.inl fo)))]) [8] (by decide) rfl
    exact W.iret (v := 1) hx hb hr (fun t ht hW => ⟨⟨_, fo, rfl, ⟨hkE.symm, fun h => absurd (hkE.symm.trans h) (by decide)⟩, by rw [ht]; exact hP9, va_K.moved hW.alike hK, hD9⟩, hS.F ht⟩) hS.2.2 d_L_ring_23
set_option maxHeartbeats 4000000 in
set_option maxRecDepth 100000 in
theorem mc_L_has (l : Launch) (hlt : l.stackTraces = false) (s0 : State) (dC : Nat → ClassId) (dI : Nat → Nat → Nat) (cI cR cL cZ : ClassId) (r : Nat → Nat) (o : Nat) (fo : Nat → Int64) (sz : Nat) (a0 : Int32) (a1 : Int32) : Met l y_L_has [Cond.codeWith y_L_has b_L_has 5 (some .int) [(0, 17, 20, 13)]] ({ frames := 7, cells := 1, slots := 6, locals := 114 }) (mr_PC s0 (dC, dI) [(cI, .int), (cR, .object "MeasureRows$Row"), (cL, .long), (cZ, .boolean)] [.ref (r 0), .int a0, .int a1, .ref o] [((r 0), .inr (0, mf_M r (nI 0) 0 0 0)), ((r 1), .inr (1, [.ref (r 2), .ref (r 3)])), ((r 2), .inl (cI, 8, .inl (fun _ => 0))), ((r 3), .inl (cI, 8, .inl (fun _ => 0))), ((r 4), .inl (cR, 80, .inr (.inr (.inr (.inr (fun _ => none)))))), ((r 5), .inl (cI, 80, .inl (fun _ => 0))), ((r 6), .inl (cI, 80, .inl (fun _ => 0))), ((r 7), .inl (cI, 8, .inl (fun _ => 0))), (o, .inl (cL, 1, .inr (.inl fo)))] sz) (va_Qi (fun rr u => rr = mk_M_has a0 a1 ∧ (mk_M_has a0 a1 = 0 → u 0 = (if (mv_M_has a0 a1) = 0 then (0 : Int64) else 1))) (fun (u : Nat → Int64) t => mr_W (dC, dI) [(cI, .int), (cR, .object "MeasureRows$Row"), (cL, .long), (cZ, .boolean)] (va_A [((r 0), .inr (0, mf_M r (nI 0) 0 0 0)), ((r 1), .inr (1, [.ref (r 2), .ref (r 3)])), ((r 2), .inl (cI, 8, .inl (fun _ => 0))), ((r 3), .inl (cI, 8, .inl (fun _ => 0))), ((r 4), .inl (cR, 80, .inr (.inr (.inr (.inr (fun _ => none)))))), ((r 5), .inl (cI, 80, .inl (fun _ => 0))), ((r 6), .inl (cI, 80, .inl (fun _ => 0))), ((r 7), .inl (cI, 8, .inl (fun _ => 0))), (o, .inl (cL, 1, .inr (.inl fo)))] sz) [(o, .inl (cL, 1, .inr (.inl u)))] t) (va_A [((r 0), .inr (0, mf_M r (nI 0) 0 0 0)), ((r 1), .inr (1, [.ref (r 2), .ref (r 3)])), ((r 2), .inl (cI, 8, .inl (fun _ => 0))), ((r 3), .inl (cI, 8, .inl (fun _ => 0))), ((r 4), .inl (cR, 80, .inr (.inr (.inr (.inr (fun _ => none)))))), ((r 5), .inl (cI, 80, .inl (fun _ => 0))), ((r 6), .inl (cI, 80, .inl (fun _ => 0))), ((r 7), .inl (cI, 8, .inl (fun _ => 0))), (o, .inl (cL, 1, .inr (.inl fo)))] sz)) 1 6 (va_A [((r 0), .inr (0, mf_M r (nI 0) 0 0 0)), ((r 1), .inr (1, [.ref (r 2), .ref (r 3)])), ((r 2), .inl (cI, 8, .inl (fun _ => 0))), ((r 3), .inl (cI, 8, .inl (fun _ => 0))), ((r 4), .inl (cR, 80, .inr (.inr (.inr (.inr (fun _ => none)))))), ((r 5), .inl (cI, 80, .inl (fun _ => 0))), ((r 6), .inl (cI, 80, .inl (fun _ => 0))), ((r 7), .inl (cI, 8, .inl (fun _ => 0))), (o, .inl (cL, 1, .inr (.inl fo)))] sz) := by
  refine mr_ofH (cc := b_L_has) (maxL := 5) (ret := (some .int)) (by decide) ?_
  intro p e s m args below meth c s₁ B hml htab hv
  obtain ⟨rfl, hsz, hB, hK, hP, hD0⟩ := hv
  subst hsz
  have hA0 := mr_A hB hD0
  have hD := hD0.self (sz := s.heap.size)
  generalize hAe : va_A [((r 0), .inr (0, mf_M r (nI 0) 0 0 0)), ((r 1), .inr (1, [.ref (r 2), .ref (r 3)])), ((r 2), .inl (cI, 8, .inl (fun _ => 0))), ((r 3), .inl (cI, 8, .inl (fun _ => 0))), ((r 4), .inl (cR, 80, .inr (.inr (.inr (.inr (fun _ => none)))))), ((r 5), .inl (cI, 80, .inl (fun _ => 0))), ((r 6), .inl (cI, 80, .inl (fun _ => 0))), ((r 7), .inl (cI, 8, .inl (fun _ => 0))), (o, .inl (cL, 1, .inr (.inl fo)))] s.heap.size = A at hD hA0 ⊢
  have hA : ∀ q : Nat, s.heap.size ≤ q → A q := fun q h => by rw [← hAe]; exact Or.inr h
  have hS : va_S A s.heap s.heap [] := va_S.rf
  have hP : va_P (dC, dI) mr_cl [((r 0), .inr (0, mf_M r (nI 0) 0 0 0)), ((r 1), .inr (1, [.ref (r 2), .ref (r 3)])), ((r 2), .inl (cI, 8, .inl (fun _ => 0))), ((r 3), .inl (cI, 8, .inl (fun _ => 0))), ((r 4), .inl (cR, 80, .inr (.inr (.inr (.inr (fun _ => none)))))), ((r 5), .inl (cI, 80, .inl (fun _ => 0))), ((r 6), .inl (cI, 80, .inl (fun _ => 0))), ((r 7), .inl (cI, 8, .inl (fun _ => 0))), (o, .inl (cL, 1, .inr (.inl fo)))] s.heap := hP
  have hBH := hB.at hS hA0
  have hx := B.exec
  have hb := B.bytes
  have hr := B.returns
  have hlocks := B.notSynchronized
  have hts : ∀ w ∈ lw_tbl, w.before [.ref (r 0), .int a0, .int a1, .ref o].toArray s = true := hB.hts _
  have hown : s.vm.findClass "MeasureRowsLaw" = some m.cls := findClass_of_methodNamed B.named
  have hl := lv_entry ([.ref (r 0), .int a0, .int a1, .ref o]) (n := 5) (Nat.le_of_ble_eq_true rfl)
  rw [lg_entry_eq]
  generalize (lg_sl ([.ref (r 0), .int a0, .int a1, .ref o]) ++ List.replicate (5 - (lg_sl ([.ref (r 0), .int a0, .int a1, .ref o])).length) Slot.unset).toArray = ls at hl ⊢
  have hl : lv_has ls 5 [(0, .ref (r 0)), (1, .int a0), (2, .int a1), (3, .ref o)] := hl
  obtain ⟨x0, ht0, s0a, s0b, s0c, s0d⟩ := mr_tab1 htab
  refine lv_aload_n hx hb d_L_has_0 rfl (lv_at hl 3 rfl) ?_
  refine lv_iconst (v := 0) hx hb d_L_has_1 (by decide) ?_
  refine lv_aload_n hx hb d_L_has_2 rfl (lv_at hl 0 rfl) ?_
  refine lv_iload_n hx hb d_L_has_3 rfl (lv_at hl 1 rfl) ?_
  refine lv_iload_n hx hb d_L_has_4 rfl (lv_at hl 2 rfl) ?_
  refine mr_callVp (As := [.int a0, .int a1]) (rest := [.int 0, .ref o]) (C := R_M) ⟨hx, hb, hml, hown, hts⟩ (mc_M_has l hlt s0 dC dI cI cR cL cZ r a0 a1) ⟨(mr_cB 2 (hts (Cond.code y_M_has b_M_has 3 (some .boolean)) mw_226) (hts (Cond.initialized y_M_has.cls) mw_227) (hts (Cond.methodLink "MeasureRowsLaw" 15 y_M_has) mw_228) rfl rfl (by decide +kernel) ⟨Nat.le_of_ble_eq_true rfl, Nat.le_of_ble_eq_true rfl⟩), (hts (Cond.instanceMethod y_M_has) mw_229), (hts (Cond.selects "MeasureRows" y_M_has y_M_has) mw_230)⟩ (mr_preV hBH hK (hP.sub (ws' := [((r 0), .inr (0, mf_M r (nI 0) 0 0 0)), ((r 1), .inr (1, [.ref (r 2), .ref (r 3)])), ((r 2), .inl (cI, 8, .inl (fun _ => 0))), ((r 3), .inl (cI, 8, .inl (fun _ => 0))), ((r 4), .inl (cR, 80, .inr (.inr (.inr (.inr (fun _ => none)))))), ((r 5), .inl (cI, 80, .inl (fun _ => 0))), ((r 6), .inl (cI, 80, .inl (fun _ => 0))), ((r 7), .inl (cI, 8, .inl (fun _ => 0)))]) [0, 1, 2, 3, 4, 5, 6, 7] rfl) (ci := 0) (q0 := 0) rfl rfl) rfl hl.1 rfl (Nat.le_of_ble_eq_true rfl) d_L_has_5 ⟨Nat.le_of_ble_eq_true rfl, Nat.le_of_ble_eq_true rfl⟩ (fun r9 h9 => ?_) (fun E9 hE => ?_)
  · obtain ⟨hk0, rfl⟩ := h9
    refine W.widen (k := 1) (n := 6) (Nat.le_of_ble_eq_true rfl) (Nat.le_of_ble_eq_true rfl) ?_
    refine lv_if_eq (tgt := 15) hx hb d_L_has_8 (by decide) (fun c_1 => ?_) (fun c_1 => ?_)
    · refine lv_lconst (v := 0) hx hb d_L_has_15 (by decide) ?_
      refine va_last (D := (dC, dI)) hx hb hK hP hD hS 8 2 rfl rfl (i := 0) (by unfold vp_in; decide) d_L_has_16 (fun H locs hP hD hS => ?_)
      have hP : va_P (dC, dI) mr_cl [((r 0), .inr (0, mf_M r (nI 0) 0 0 0)), ((r 1), .inr (1, [.ref (r 2), .ref (r 3)])), ((r 2), .inl (cI, 8, .inl (fun _ => 0))), ((r 3), .inl (cI, 8, .inl (fun _ => 0))), ((r 4), .inl (cR, 80, .inr (.inr (.inr (.inr (fun _ => none)))))), ((r 5), .inl (cI, 80, .inl (fun _ => 0))), ((r 6), .inl (cI, 80, .inl (fun _ => 0))), ((r 7), .inl (cI, 8, .inl (fun _ => 0))), (o, .inl (cL, 1, .inr (.inl (vp_updL fo (0 : Int32).toNatClampNeg 0))))] H := hP
      have hD : va_D A [((r 0), .inr (0, mf_M r (nI 0) 0 0 0)), ((r 1), .inr (1, [.ref (r 2), .ref (r 3)])), ((r 2), .inl (cI, 8, .inl (fun _ => 0))), ((r 3), .inl (cI, 8, .inl (fun _ => 0))), ((r 4), .inl (cR, 80, .inr (.inr (.inr (.inr (fun _ => none)))))), ((r 5), .inl (cI, 80, .inl (fun _ => 0))), ((r 6), .inl (cI, 80, .inl (fun _ => 0))), ((r 7), .inl (cI, 8, .inl (fun _ => 0))), (o, .inl (cL, 1, .inr (.inl (vp_updL fo (0 : Int32).toNatClampNeg 0))))] := hD
      have hBH := hB.at hS hA0
      refine lv_goto (tgt := 24) hx hb d_L_has_17 (by decide) ?_
      refine lv_iconst (v := 0) hx hb d_L_has_24 (by decide) ?_
      have hP9 := hP.sub (ws' := [(o, .inl (cL, 1, .inr (.inl (vp_updL fo (0 : Int32).toNatClampNeg 0))))]) [8] rfl
      have hD9 := hD.sub (ws' := [(o, .inl (cL, 1, .inr (.inl (vp_updL fo (0 : Int32).toNatClampNeg 0))))]) [8] (by decide) rfl
      exact W.iret (v := 0) hx hb hr (fun t ht hW => ⟨⟨_, (vp_updL fo (0 : Int32).toNatClampNeg 0), rfl, ⟨hk0.symm, fun _ => by rw [if_pos c_1]; rfl⟩, by rw [ht]; exact hP9, va_K.moved hW.alike hK, hD9⟩, hS.F ht⟩) hS.2.2 d_L_has_25
    · refine lv_lconst (v := 1) hx hb d_L_has_11 (by decide) ?_
      refine lv_goto (tgt := 16) hx hb d_L_has_12 (by decide) ?_
      refine va_last (D := (dC, dI)) hx hb hK hP hD hS 8 2 rfl rfl (i := 0) (by unfold vp_in; decide) d_L_has_16 (fun H locs hP hD hS => ?_)
      have hP : va_P (dC, dI) mr_cl [((r 0), .inr (0, mf_M r (nI 0) 0 0 0)), ((r 1), .inr (1, [.ref (r 2), .ref (r 3)])), ((r 2), .inl (cI, 8, .inl (fun _ => 0))), ((r 3), .inl (cI, 8, .inl (fun _ => 0))), ((r 4), .inl (cR, 80, .inr (.inr (.inr (.inr (fun _ => none)))))), ((r 5), .inl (cI, 80, .inl (fun _ => 0))), ((r 6), .inl (cI, 80, .inl (fun _ => 0))), ((r 7), .inl (cI, 8, .inl (fun _ => 0))), (o, .inl (cL, 1, .inr (.inl (vp_updL fo (0 : Int32).toNatClampNeg 1))))] H := hP
      have hD : va_D A [((r 0), .inr (0, mf_M r (nI 0) 0 0 0)), ((r 1), .inr (1, [.ref (r 2), .ref (r 3)])), ((r 2), .inl (cI, 8, .inl (fun _ => 0))), ((r 3), .inl (cI, 8, .inl (fun _ => 0))), ((r 4), .inl (cR, 80, .inr (.inr (.inr (.inr (fun _ => none)))))), ((r 5), .inl (cI, 80, .inl (fun _ => 0))), ((r 6), .inl (cI, 80, .inl (fun _ => 0))), ((r 7), .inl (cI, 8, .inl (fun _ => 0))), (o, .inl (cL, 1, .inr (.inl (vp_updL fo (0 : Int32).toNatClampNeg 1))))] := hD
      have hBH := hB.at hS hA0
      refine lv_goto (tgt := 24) hx hb d_L_has_17 (by decide) ?_
      refine lv_iconst (v := 0) hx hb d_L_has_24 (by decide) ?_
      have hP9 := hP.sub (ws' := [(o, .inl (cL, 1, .inr (.inl (vp_updL fo (0 : Int32).toNatClampNeg 1))))]) [8] rfl
      have hD9 := hD.sub (ws' := [(o, .inl (cL, 1, .inr (.inl (vp_updL fo (0 : Int32).toNatClampNeg 1))))]) [8] (by decide) rfl
      exact W.iret (v := 0) hx hb hr (fun t ht hW => ⟨⟨_, (vp_updL fo (0 : Int32).toNatClampNeg 1), rfl, ⟨hk0.symm, fun _ => by rw [if_neg c_1]; rfl⟩, by rw [ht]; exact hP9, va_K.moved hW.alike hK, hD9⟩, hS.F ht⟩) hS.2.2 d_L_has_25
  · obtain ⟨rfl, hkE⟩ := hE
    refine ⟨20, ⟨[], [], x0, mr_iob, ht0, s0c, mr_cov s0a s0b (by decide), by rw [s0d]; decide, (by rw [s0d]; exact (hts (Cond.classLink "MeasureRowsLaw" 13 mr_iob) mw_224)), (hts (Cond.castable mr_iob mr_iob) mw_225), (fun y hy => nomatch hy)⟩, fun q9 H1 hz hk1 => ?_⟩
    have hS : va_S A s.heap H1 [] := ⟨Nat.le_trans hS.1 hz, fun a h1 h2 => (hk1 a (Nat.lt_of_lt_of_le h1 hS.1)).trans (hS.2.1 a h1 h2), hS.2.2⟩
    have hP := hP.kept (fun k x hx => hk1 x.1 (hP k x hx).lt)
    generalize H1 = H at hP hS ⊢
    refine W.widen (k := 1) (n := 6) (Nat.le_of_ble_eq_true rfl) (Nat.le_of_ble_eq_true rfl) ?_
    refine lv_astore (lv' := [(4, .ref q9), (0, .ref (r 0)), (1, .int a0), (2, .int a1), (3, .ref o)]) hx hb d_L_has_20 hl (by decide) rfl (fun ls hl => ?_)
    refine lv_iconst (v := 1) hx hb d_L_has_22 (by decide) ?_
    have hP9 := hP.sub (ws' := [(o, .inl (cL, 1, .inr (.inl fo)))]) [8] rfl
    have hD9 := hD.sub (ws' := [(o, .inl (cL, 1, .inr (.inl fo)))]) [8] (by decide) rfl
    exact W.iret (v := 1) hx hb hr (fun t ht hW => ⟨⟨_, fo, rfl, ⟨hkE.symm, fun h => absurd (hkE.symm.trans h) (by decide)⟩, by rw [ht]; exact hP9, va_K.moved hW.alike hK, hD9⟩, hS.F ht⟩) hS.2.2 d_L_has_23
set_option maxHeartbeats 4000000 in
set_option maxRecDepth 100000 in
theorem mc_L_row (l : Launch) (hlt : l.stackTraces = false) (s0 : State) (dC : Nat → ClassId) (dI : Nat → Nat → Nat) (cI cR cL cZ : ClassId) (r : Nat → Nat) (o : Nat) (fo : Nat → Int64) (sz : Nat) (a0 : Int32) (a1 : Int32) (a2 : Int32) (a3 : Int32) (a4 : Int32) (a5 : Int32) (a6 : Int32) : Met l y_L_row [Cond.codeWith y_L_row b_L_row 10 (some .int) [(0, 20, 23, 22), (0, 20, 27, 24)]] ({ frames := 7, cells := 3, slots := 27, locals := 120 }) (mr_PC s0 (dC, dI) [(cI, .int), (cR, .object "MeasureRows$Row"), (cL, .long), (cZ, .boolean)] [.ref (r 0), .int a0, .int a1, .int a2, .int a3, .int a4, .int a5, .int a6, .ref o] [((r 0), .inr (0, mf_M r (nI 0) 0 0 0)), ((r 1), .inr (1, [.ref (r 2), .ref (r 3)])), ((r 2), .inl (cI, 8, .inl (fun _ => 0))), ((r 3), .inl (cI, 8, .inl (fun _ => 0))), ((r 4), .inl (cR, 80, .inr (.inr (.inr (.inr (fun _ => none)))))), ((r 5), .inl (cI, 80, .inl (fun _ => 0))), ((r 6), .inl (cI, 80, .inl (fun _ => 0))), ((r 7), .inl (cI, 8, .inl (fun _ => 0))), (o, .inl (cL, 1, .inr (.inl fo)))] sz) (va_Qi (fun rr u => rr = mk_M_row0 a0 a1 a2 a3 a4 a5 a6 ∧ (mk_M_row0 a0 a1 a2 a3 a4 a5 a6 = 0 → u 0 = ((1 : Int32).toInt64))) (fun (u : Nat → Int64) t => mr_W (dC, dI) [(cI, .int), (cR, .object "MeasureRows$Row"), (cL, .long), (cZ, .boolean)] (va_A [((r 0), .inr (0, mf_M r (nI 0) 0 0 0)), ((r 1), .inr (1, [.ref (r 2), .ref (r 3)])), ((r 2), .inl (cI, 8, .inl (fun _ => 0))), ((r 3), .inl (cI, 8, .inl (fun _ => 0))), ((r 4), .inl (cR, 80, .inr (.inr (.inr (.inr (fun _ => none)))))), ((r 5), .inl (cI, 80, .inl (fun _ => 0))), ((r 6), .inl (cI, 80, .inl (fun _ => 0))), ((r 7), .inl (cI, 8, .inl (fun _ => 0))), (o, .inl (cL, 1, .inr (.inl fo)))] sz) [(o, .inl (cL, 1, .inr (.inl u)))] t) (va_A [((r 0), .inr (0, mf_M r (nI 0) 0 0 0)), ((r 1), .inr (1, [.ref (r 2), .ref (r 3)])), ((r 2), .inl (cI, 8, .inl (fun _ => 0))), ((r 3), .inl (cI, 8, .inl (fun _ => 0))), ((r 4), .inl (cR, 80, .inr (.inr (.inr (.inr (fun _ => none)))))), ((r 5), .inl (cI, 80, .inl (fun _ => 0))), ((r 6), .inl (cI, 80, .inl (fun _ => 0))), ((r 7), .inl (cI, 8, .inl (fun _ => 0))), (o, .inl (cL, 1, .inr (.inl fo)))] sz)) 3 27 (va_A [((r 0), .inr (0, mf_M r (nI 0) 0 0 0)), ((r 1), .inr (1, [.ref (r 2), .ref (r 3)])), ((r 2), .inl (cI, 8, .inl (fun _ => 0))), ((r 3), .inl (cI, 8, .inl (fun _ => 0))), ((r 4), .inl (cR, 80, .inr (.inr (.inr (.inr (fun _ => none)))))), ((r 5), .inl (cI, 80, .inl (fun _ => 0))), ((r 6), .inl (cI, 80, .inl (fun _ => 0))), ((r 7), .inl (cI, 8, .inl (fun _ => 0))), (o, .inl (cL, 1, .inr (.inl fo)))] sz) := by
  refine mr_ofH (cc := b_L_row) (maxL := 10) (ret := (some .int)) (by decide) ?_
  intro p e s m args below meth c s₁ B hml htab hv
  obtain ⟨rfl, hsz, hB, hK, hP, hD0⟩ := hv
  subst hsz
  have hA0 := mr_A hB hD0
  have hD := hD0.self (sz := s.heap.size)
  generalize hAe : va_A [((r 0), .inr (0, mf_M r (nI 0) 0 0 0)), ((r 1), .inr (1, [.ref (r 2), .ref (r 3)])), ((r 2), .inl (cI, 8, .inl (fun _ => 0))), ((r 3), .inl (cI, 8, .inl (fun _ => 0))), ((r 4), .inl (cR, 80, .inr (.inr (.inr (.inr (fun _ => none)))))), ((r 5), .inl (cI, 80, .inl (fun _ => 0))), ((r 6), .inl (cI, 80, .inl (fun _ => 0))), ((r 7), .inl (cI, 8, .inl (fun _ => 0))), (o, .inl (cL, 1, .inr (.inl fo)))] s.heap.size = A at hD hA0 ⊢
  have hA : ∀ q : Nat, s.heap.size ≤ q → A q := fun q h => by rw [← hAe]; exact Or.inr h
  have hS : va_S A s.heap s.heap [] := va_S.rf
  have hP : va_P (dC, dI) mr_cl [((r 0), .inr (0, mf_M r (nI 0) 0 0 0)), ((r 1), .inr (1, [.ref (r 2), .ref (r 3)])), ((r 2), .inl (cI, 8, .inl (fun _ => 0))), ((r 3), .inl (cI, 8, .inl (fun _ => 0))), ((r 4), .inl (cR, 80, .inr (.inr (.inr (.inr (fun _ => none)))))), ((r 5), .inl (cI, 80, .inl (fun _ => 0))), ((r 6), .inl (cI, 80, .inl (fun _ => 0))), ((r 7), .inl (cI, 8, .inl (fun _ => 0))), (o, .inl (cL, 1, .inr (.inl fo)))] s.heap := hP
  have hBH := hB.at hS hA0
  have hx := B.exec
  have hb := B.bytes
  have hr := B.returns
  have hlocks := B.notSynchronized
  have hts : ∀ w ∈ lw_tbl, w.before [.ref (r 0), .int a0, .int a1, .int a2, .int a3, .int a4, .int a5, .int a6, .ref o].toArray s = true := hB.hts _
  have hown : s.vm.findClass "MeasureRowsLaw" = some m.cls := findClass_of_methodNamed B.named
  have hl := lv_entry ([.ref (r 0), .int a0, .int a1, .int a2, .int a3, .int a4, .int a5, .int a6, .ref o]) (n := 10) (Nat.le_of_ble_eq_true rfl)
  rw [lg_entry_eq]
  generalize (lg_sl ([.ref (r 0), .int a0, .int a1, .int a2, .int a3, .int a4, .int a5, .int a6, .ref o]) ++ List.replicate (10 - (lg_sl ([.ref (r 0), .int a0, .int a1, .int a2, .int a3, .int a4, .int a5, .int a6, .ref o])).length) Slot.unset).toArray = ls at hl ⊢
  have hl : lv_has ls 10 [(0, .ref (r 0)), (1, .int a0), (2, .int a1), (3, .int a2), (4, .int a3), (5, .int a4), (6, .int a5), (7, .int a6), (8, .ref o)] := hl
  obtain ⟨x0, x1, ht0, ⟨s0a, s0b, s0c, s0d⟩, s1a, s1b, s1c, s1d⟩ := mr_tab2 htab
  refine lv_aload hx hb d_L_row_0 (lv_at hl 8 rfl) ?_
  refine lv_iconst (v := 0) hx hb d_L_row_2 (by decide) ?_
  refine lv_aload_n hx hb d_L_row_3 rfl (lv_at hl 0 rfl) ?_
  refine lv_iload_n hx hb d_L_row_4 rfl (lv_at hl 1 rfl) ?_
  refine lv_iload_n hx hb d_L_row_5 rfl (lv_at hl 2 rfl) ?_
  refine lv_iload_n hx hb d_L_row_6 rfl (lv_at hl 3 rfl) ?_
  refine lv_iload hx hb d_L_row_7 (lv_at hl 4 rfl) ?_
  refine lv_iload hx hb d_L_row_9 (lv_at hl 5 rfl) ?_
  refine lv_iload hx hb d_L_row_11 (lv_at hl 6 rfl) ?_
  refine lv_iload hx hb d_L_row_13 (lv_at hl 7 rfl) ?_
  have hDc := hD.sub (ws' := [((r 0), .inr (0, mf_M r (nI 0) 0 0 0)), ((r 1), .inr (1, [.ref (r 2), .ref (r 3)])), ((r 2), .inl (cI, 8, .inl (fun _ => 0))), ((r 3), .inl (cI, 8, .inl (fun _ => 0))), ((r 4), .inl (cR, 80, .inr (.inr (.inr (.inr (fun _ => none)))))), ((r 5), .inl (cI, 80, .inl (fun _ => 0))), ((r 6), .inl (cI, 80, .inl (fun _ => 0))), ((r 7), .inl (cI, 8, .inl (fun _ => 0)))]) [0, 1, 2, 3, 4, 5, 6, 7] (by decide) rfl
  have hFc := va_free (wc := [((r 0), .inr (0, mf_M r (nI 0) 0 0 0)), ((r 1), .inr (1, [.ref (r 2), .ref (r 3)])), ((r 2), .inl (cI, 8, .inl (fun _ => 0))), ((r 3), .inl (cI, 8, .inl (fun _ => 0))), ((r 4), .inl (cR, 80, .inr (.inr (.inr (.inr (fun _ => none)))))), ((r 5), .inl (cI, 80, .inl (fun _ => 0))), ((r 6), .inl (cI, 80, .inl (fun _ => 0))), ((r 7), .inl (cI, 8, .inl (fun _ => 0)))]) hD hS hA [0, 1, 2, 3, 4, 5, 6, 7] rfl
  refine mr_callVw (As := [.int a0, .int a1, .int a2, .int a3, .int a4, .int a5, .int a6]) (rest := [.int 0, .ref o]) (C := R_M) ⟨hx, hb, hml, hown, hts⟩ (mc_M_row l hlt s0 dC dI cI cR cL cZ r _ a0 a1 a2 a3 a4 a5 a6) ⟨(mr_cB 7 (hts (Cond.code y_M_row b_M_row 9 (some .int)) mw_231) (hts (Cond.initialized y_M_row.cls) mw_232) (hts (Cond.methodLink "MeasureRowsLaw" 18 y_M_row) mw_233) rfl rfl (by decide +kernel) ⟨Nat.le_of_ble_eq_true rfl, Nat.le_of_ble_eq_true rfl⟩), (hts (Cond.instanceMethod y_M_row) mw_234), (hts (Cond.selects "MeasureRows" y_M_row y_M_row) mw_235)⟩ (mr_preCV hBH hK (hP.sub (ws' := [((r 0), .inr (0, mf_M r (nI 0) 0 0 0)), ((r 1), .inr (1, [.ref (r 2), .ref (r 3)])), ((r 2), .inl (cI, 8, .inl (fun _ => 0))), ((r 3), .inl (cI, 8, .inl (fun _ => 0))), ((r 4), .inl (cR, 80, .inr (.inr (.inr (.inr (fun _ => none)))))), ((r 5), .inl (cI, 80, .inl (fun _ => 0))), ((r 6), .inl (cI, 80, .inl (fun _ => 0))), ((r 7), .inl (cI, 8, .inl (fun _ => 0)))]) [0, 1, 2, 3, 4, 5, 6, 7] rfl) (hDc.weaken (fun _ _ _ h => hA0 _ h)) (ci := 0) (q0 := 0) rfl rfl) rfl hl.1 rfl (Nat.le_of_ble_eq_true rfl) d_L_row_15 ⟨Nat.le_of_ble_eq_true rfl, Nat.le_of_ble_eq_true rfl⟩ hS (fun q _ h => hFc q h) hFc (fun r9 u9 t H1 locs ht hvm hw hB1 hz1 hk1 hS => ?_) (fun E9 hE => ?_)
  · obtain ⟨hk0, rfl⟩ := hw
    have hDo := hD.sub (ws' := [(o, .inl (cL, 1, .inr (.inl fo)))]) [8] (by decide) rfl
    have hP := mr_last (wc := [((r 0), .inr (0, mf_M r (nI 0) 0 0 0)), ((r 1), .inr (1, [.ref (r 2), .ref (r 3)])), ((r 2), .inl (cI, 8, .inl (fun _ => 0))), ((r 3), .inl (cI, 8, .inl (fun _ => 0))), ((r 4), .inl (cR, 80, .inr (.inr (.inr (.inr (fun _ => none)))))), ((r 5), .inl (cI, 80, .inl (fun _ => 0))), ((r 6), .inl (cI, 80, .inl (fun _ => 0))), ((r 7), .inl (cI, 8, .inl (fun _ => 0)))]) (x := (o, .inl (cL, 1, .inr (.inl fo)))) hP hD hk1
    have hD := hDo
    generalize H1 = H at hP hS ht ⊢
    have hBH := hB.at hS hA0
    refine W.widen (k := 3) (n := 27) (Nat.le_of_ble_eq_true rfl) (Nat.le_of_ble_eq_true rfl) ?_
    refine lv_i2l (v := (1 : Int32).toInt64) hx hb d_L_row_18 rfl ?_
    refine va_last (D := (dC, dI)) hx hb hK hP hD hS 0 2 rfl rfl (i := 0) (by unfold vp_in; decide) d_L_row_19 (fun H locs hP hD hS => ?_)
    have hP : va_P (dC, dI) mr_cl [(o, .inl (cL, 1, .inr (.inl (vp_updL fo (0 : Int32).toNatClampNeg ((1 : Int32).toInt64)))))] H := hP
    have hD : va_D A [(o, .inl (cL, 1, .inr (.inl (vp_updL fo (0 : Int32).toNatClampNeg ((1 : Int32).toInt64)))))] := hD
    have hBH := hB.at hS hA0
    refine lv_goto (tgt := 31) hx hb d_L_row_20 (by decide) ?_
    refine lv_iconst (v := 0) hx hb d_L_row_31 (by decide) ?_
    have hP9 := hP.sub (ws' := [(o, .inl (cL, 1, .inr (.inl (vp_updL fo (0 : Int32).toNatClampNeg ((1 : Int32).toInt64)))))]) [0] rfl
    have hD9 := hD.sub (ws' := [(o, .inl (cL, 1, .inr (.inl (vp_updL fo (0 : Int32).toNatClampNeg ((1 : Int32).toInt64)))))]) [0] (by decide) rfl
    exact W.iret (v := 0) hx hb hr (fun t ht hW => ⟨⟨_, (vp_updL fo (0 : Int32).toNatClampNeg ((1 : Int32).toInt64)), rfl, ⟨hk0.symm, fun _ => rfl⟩, by rw [ht]; exact hP9, va_K.moved hW.alike hK, hD9⟩, hS.F ht⟩) hS.2.2 d_L_row_32
  · rcases hE with ⟨rfl, hkE⟩ | ⟨rfl, hkE⟩
    · refine ⟨23, ⟨[], [x1], x0, mr_iae, ht0, s0c, mr_cov s0a s0b (by decide), by rw [s0d]; decide, (by rw [s0d]; exact (hts (Cond.classLink "MeasureRowsLaw" 22 mr_iae) mw_236)), (hts (Cond.castable mr_iae mr_iae) mw_237), (fun y hy => nomatch hy)⟩, fun q9 H1 hz hk1 => ?_⟩
      have hS : va_S A s.heap H1 [] := ⟨Nat.le_trans hS.1 hz, fun a h1 h2 => (hk1 a (Nat.lt_of_lt_of_le h1 hS.1)).trans (hS.2.1 a h1 h2), hS.2.2⟩
      have hP := hP.kept (fun k x hx => hk1 x.1 (hP k x hx).lt)
      generalize H1 = H at hP hS ⊢
      refine W.widen (k := 3) (n := 27) (Nat.le_of_ble_eq_true rfl) (Nat.le_of_ble_eq_true rfl) ?_
      refine lv_astore (lv' := [(9, .ref q9), (0, .ref (r 0)), (1, .int a0), (2, .int a1), (3, .int a2), (4, .int a3), (5, .int a4), (6, .int a5), (7, .int a6), (8, .ref o)]) hx hb d_L_row_23 hl (by decide) rfl (fun ls hl => ?_)
      refine lv_iconst (v := 1) hx hb d_L_row_25 (by decide) ?_
      have hP9 := hP.sub (ws' := [(o, .inl (cL, 1, .inr (.inl fo)))]) [8] rfl
      have hD9 := hD.sub (ws' := [(o, .inl (cL, 1, .inr (.inl fo)))]) [8] (by decide) rfl
      exact W.iret (v := 1) hx hb hr (fun t ht hW => ⟨⟨_, fo, rfl, ⟨hkE.symm, fun h => absurd (hkE.symm.trans h) (by decide)⟩, by rw [ht]; exact hP9, va_K.moved hW.alike hK, hD9⟩, hS.F ht⟩) hS.2.2 d_L_row_26
    · refine ⟨27, ⟨[x0], [], x1, mr_ise, ht0, s1c, mr_cov s1a s1b (by decide), by rw [s1d]; decide, (by rw [s1d]; exact (hts (Cond.classLink "MeasureRowsLaw" 24 mr_ise) mw_238)), (hts (Cond.castable mr_ise mr_ise) mw_239), (fun y hy => by rw [List.mem_singleton.mp hy]; exact ⟨mr_cov s0a s0b (by decide), by rw [s0d]; decide, _, (by rw [s0d]; exact (hts (Cond.classLink "MeasureRowsLaw" 22 mr_iae) mw_236)), hB.nc.1⟩)⟩, fun q9 H1 hz hk1 => ?_⟩
      have hS : va_S A s.heap H1 [] := ⟨Nat.le_trans hS.1 hz, fun a h1 h2 => (hk1 a (Nat.lt_of_lt_of_le h1 hS.1)).trans (hS.2.1 a h1 h2), hS.2.2⟩
      have hP := hP.kept (fun k x hx => hk1 x.1 (hP k x hx).lt)
      generalize H1 = H at hP hS ⊢
      refine W.widen (k := 3) (n := 27) (Nat.le_of_ble_eq_true rfl) (Nat.le_of_ble_eq_true rfl) ?_
      refine lv_astore (lv' := [(9, .ref q9), (0, .ref (r 0)), (1, .int a0), (2, .int a1), (3, .int a2), (4, .int a3), (5, .int a4), (6, .int a5), (7, .int a6), (8, .ref o)]) hx hb d_L_row_27 hl (by decide) rfl (fun ls hl => ?_)
      refine lv_iconst (v := 2) hx hb d_L_row_29 (by decide) ?_
      have hP9 := hP.sub (ws' := [(o, .inl (cL, 1, .inr (.inl fo)))]) [8] rfl
      have hD9 := hD.sub (ws' := [(o, .inl (cL, 1, .inr (.inl fo)))]) [8] (by decide) rfl
      exact W.iret (v := 2) hx hb hr (fun t ht hW => ⟨⟨_, fo, rfl, ⟨hkE.symm, fun h => absurd (hkE.symm.trans h) (by decide)⟩, by rw [ht]; exact hP9, va_K.moved hW.alike hK, hD9⟩, hS.F ht⟩) hS.2.2 d_L_row_30
set_option maxHeartbeats 4000000 in
set_option maxRecDepth 100000 in
theorem mc_L_end (l : Launch) (hlt : l.stackTraces = false) (s0 : State) (dC : Nat → ClassId) (dI : Nat → Nat → Nat) (cI cR cL cZ : ClassId) (r : Nat → Nat) (o : Nat) (fo : Nat → Int64) (sz : Nat) (a0 : Int32) (a1 : Int32) (a2 : Int32) : Met l y_L_end [Cond.codeWith y_L_end b_L_end 6 (some .int) [(0, 12, 15, 13), (0, 12, 19, 22), (0, 12, 23, 24)]] ({ frames := 7, cells := 1, slots := 6, locals := 116 }) (mr_PC s0 (dC, dI) [(cI, .int), (cR, .object "MeasureRows$Row"), (cL, .long), (cZ, .boolean)] [.ref (r 0), .int a0, .int a1, .int a2, .ref o] [((r 0), .inr (0, mf_M r (nI 0) 0 0 0)), ((r 1), .inr (1, [.ref (r 2), .ref (r 3)])), ((r 2), .inl (cI, 8, .inl (fun _ => 0))), ((r 3), .inl (cI, 8, .inl (fun _ => 0))), ((r 4), .inl (cR, 80, .inr (.inr (.inr (.inr (fun _ => none)))))), ((r 5), .inl (cI, 80, .inl (fun _ => 0))), ((r 6), .inl (cI, 80, .inl (fun _ => 0))), ((r 7), .inl (cI, 8, .inl (fun _ => 0))), (o, .inl (cL, 1, .inr (.inl fo)))] sz) (va_Qi (fun rr u => rr = mk_M_end a0 a1 a2 ∧ (mk_M_end a0 a1 a2 = 0 → u 0 = (((mv_M_end a0 a1 a2) : Int32).toInt64))) (fun (u : Nat → Int64) t => mr_W (dC, dI) [(cI, .int), (cR, .object "MeasureRows$Row"), (cL, .long), (cZ, .boolean)] (va_A [((r 0), .inr (0, mf_M r (nI 0) 0 0 0)), ((r 1), .inr (1, [.ref (r 2), .ref (r 3)])), ((r 2), .inl (cI, 8, .inl (fun _ => 0))), ((r 3), .inl (cI, 8, .inl (fun _ => 0))), ((r 4), .inl (cR, 80, .inr (.inr (.inr (.inr (fun _ => none)))))), ((r 5), .inl (cI, 80, .inl (fun _ => 0))), ((r 6), .inl (cI, 80, .inl (fun _ => 0))), ((r 7), .inl (cI, 8, .inl (fun _ => 0))), (o, .inl (cL, 1, .inr (.inl fo)))] sz) [(o, .inl (cL, 1, .inr (.inl u)))] t) (va_A [((r 0), .inr (0, mf_M r (nI 0) 0 0 0)), ((r 1), .inr (1, [.ref (r 2), .ref (r 3)])), ((r 2), .inl (cI, 8, .inl (fun _ => 0))), ((r 3), .inl (cI, 8, .inl (fun _ => 0))), ((r 4), .inl (cR, 80, .inr (.inr (.inr (.inr (fun _ => none)))))), ((r 5), .inl (cI, 80, .inl (fun _ => 0))), ((r 6), .inl (cI, 80, .inl (fun _ => 0))), ((r 7), .inl (cI, 8, .inl (fun _ => 0))), (o, .inl (cL, 1, .inr (.inl fo)))] sz)) 1 6 (va_A [((r 0), .inr (0, mf_M r (nI 0) 0 0 0)), ((r 1), .inr (1, [.ref (r 2), .ref (r 3)])), ((r 2), .inl (cI, 8, .inl (fun _ => 0))), ((r 3), .inl (cI, 8, .inl (fun _ => 0))), ((r 4), .inl (cR, 80, .inr (.inr (.inr (.inr (fun _ => none)))))), ((r 5), .inl (cI, 80, .inl (fun _ => 0))), ((r 6), .inl (cI, 80, .inl (fun _ => 0))), ((r 7), .inl (cI, 8, .inl (fun _ => 0))), (o, .inl (cL, 1, .inr (.inl fo)))] sz) := by
  refine mr_ofH (cc := b_L_end) (maxL := 6) (ret := (some .int)) (by decide) ?_
  intro p e s m args below meth c s₁ B hml htab hv
  obtain ⟨rfl, hsz, hB, hK, hP, hD0⟩ := hv
  subst hsz
  have hA0 := mr_A hB hD0
  have hD := hD0.self (sz := s.heap.size)
  generalize hAe : va_A [((r 0), .inr (0, mf_M r (nI 0) 0 0 0)), ((r 1), .inr (1, [.ref (r 2), .ref (r 3)])), ((r 2), .inl (cI, 8, .inl (fun _ => 0))), ((r 3), .inl (cI, 8, .inl (fun _ => 0))), ((r 4), .inl (cR, 80, .inr (.inr (.inr (.inr (fun _ => none)))))), ((r 5), .inl (cI, 80, .inl (fun _ => 0))), ((r 6), .inl (cI, 80, .inl (fun _ => 0))), ((r 7), .inl (cI, 8, .inl (fun _ => 0))), (o, .inl (cL, 1, .inr (.inl fo)))] s.heap.size = A at hD hA0 ⊢
  have hA : ∀ q : Nat, s.heap.size ≤ q → A q := fun q h => by rw [← hAe]; exact Or.inr h
  have hS : va_S A s.heap s.heap [] := va_S.rf
  have hP : va_P (dC, dI) mr_cl [((r 0), .inr (0, mf_M r (nI 0) 0 0 0)), ((r 1), .inr (1, [.ref (r 2), .ref (r 3)])), ((r 2), .inl (cI, 8, .inl (fun _ => 0))), ((r 3), .inl (cI, 8, .inl (fun _ => 0))), ((r 4), .inl (cR, 80, .inr (.inr (.inr (.inr (fun _ => none)))))), ((r 5), .inl (cI, 80, .inl (fun _ => 0))), ((r 6), .inl (cI, 80, .inl (fun _ => 0))), ((r 7), .inl (cI, 8, .inl (fun _ => 0))), (o, .inl (cL, 1, .inr (.inl fo)))] s.heap := hP
  have hBH := hB.at hS hA0
  have hx := B.exec
  have hb := B.bytes
  have hr := B.returns
  have hlocks := B.notSynchronized
  have hts : ∀ w ∈ lw_tbl, w.before [.ref (r 0), .int a0, .int a1, .int a2, .ref o].toArray s = true := hB.hts _
  have hown : s.vm.findClass "MeasureRowsLaw" = some m.cls := findClass_of_methodNamed B.named
  have hl := lv_entry ([.ref (r 0), .int a0, .int a1, .int a2, .ref o]) (n := 6) (Nat.le_of_ble_eq_true rfl)
  rw [lg_entry_eq]
  generalize (lg_sl ([.ref (r 0), .int a0, .int a1, .int a2, .ref o]) ++ List.replicate (6 - (lg_sl ([.ref (r 0), .int a0, .int a1, .int a2, .ref o])).length) Slot.unset).toArray = ls at hl ⊢
  have hl : lv_has ls 6 [(0, .ref (r 0)), (1, .int a0), (2, .int a1), (3, .int a2), (4, .ref o)] := hl
  obtain ⟨x0, x1, x2, ht0, ⟨s0a, s0b, s0c, s0d⟩, ⟨s1a, s1b, s1c, s1d⟩, s2a, s2b, s2c, s2d⟩ := mr_tab3 htab
  refine lv_aload hx hb d_L_end_0 (lv_at hl 4 rfl) ?_
  refine lv_iconst (v := 0) hx hb d_L_end_2 (by decide) ?_
  refine lv_aload_n hx hb d_L_end_3 rfl (lv_at hl 0 rfl) ?_
  refine lv_iload_n hx hb d_L_end_4 rfl (lv_at hl 1 rfl) ?_
  refine lv_iload_n hx hb d_L_end_5 rfl (lv_at hl 2 rfl) ?_
  refine lv_iload_n hx hb d_L_end_6 rfl (lv_at hl 3 rfl) ?_
  refine mr_callVp (As := [.int a0, .int a1, .int a2]) (rest := [.int 0, .ref o]) (C := R_M) ⟨hx, hb, hml, hown, hts⟩ (mc_M_end l hlt s0 dC dI cI cR cL cZ r a0 a1 a2) ⟨(mr_cB 3 (hts (Cond.code y_M_end b_M_end 5 (some .int)) mw_240) (hts (Cond.initialized y_M_end.cls) mw_241) (hts (Cond.methodLink "MeasureRowsLaw" 26 y_M_end) mw_242) rfl rfl (by decide +kernel) ⟨Nat.le_of_ble_eq_true rfl, Nat.le_of_ble_eq_true rfl⟩), (hts (Cond.instanceMethod y_M_end) mw_243), (hts (Cond.selects "MeasureRows" y_M_end y_M_end) mw_244)⟩ (mr_preV hBH hK (hP.sub (ws' := [((r 0), .inr (0, mf_M r (nI 0) 0 0 0)), ((r 1), .inr (1, [.ref (r 2), .ref (r 3)])), ((r 2), .inl (cI, 8, .inl (fun _ => 0))), ((r 3), .inl (cI, 8, .inl (fun _ => 0))), ((r 4), .inl (cR, 80, .inr (.inr (.inr (.inr (fun _ => none)))))), ((r 5), .inl (cI, 80, .inl (fun _ => 0))), ((r 6), .inl (cI, 80, .inl (fun _ => 0))), ((r 7), .inl (cI, 8, .inl (fun _ => 0)))]) [0, 1, 2, 3, 4, 5, 6, 7] rfl) (ci := 0) (q0 := 0) rfl rfl) rfl hl.1 rfl (Nat.le_of_ble_eq_true rfl) d_L_end_7 ⟨Nat.le_of_ble_eq_true rfl, Nat.le_of_ble_eq_true rfl⟩ (fun r9 h9 => ?_) (fun E9 hE => ?_)
  · obtain ⟨hk0, rfl⟩ := h9
    refine W.widen (k := 1) (n := 6) (Nat.le_of_ble_eq_true rfl) (Nat.le_of_ble_eq_true rfl) ?_
    refine lv_i2l (v := (mv_M_end a0 a1 a2).toInt64) hx hb d_L_end_10 rfl ?_
    refine va_last (D := (dC, dI)) hx hb hK hP hD hS 8 2 rfl rfl (i := 0) (by unfold vp_in; decide) d_L_end_11 (fun H locs hP hD hS => ?_)
    have hP : va_P (dC, dI) mr_cl [((r 0), .inr (0, mf_M r (nI 0) 0 0 0)), ((r 1), .inr (1, [.ref (r 2), .ref (r 3)])), ((r 2), .inl (cI, 8, .inl (fun _ => 0))), ((r 3), .inl (cI, 8, .inl (fun _ => 0))), ((r 4), .inl (cR, 80, .inr (.inr (.inr (.inr (fun _ => none)))))), ((r 5), .inl (cI, 80, .inl (fun _ => 0))), ((r 6), .inl (cI, 80, .inl (fun _ => 0))), ((r 7), .inl (cI, 8, .inl (fun _ => 0))), (o, .inl (cL, 1, .inr (.inl (vp_updL fo (0 : Int32).toNatClampNeg ((mv_M_end a0 a1 a2).toInt64)))))] H := hP
    have hD : va_D A [((r 0), .inr (0, mf_M r (nI 0) 0 0 0)), ((r 1), .inr (1, [.ref (r 2), .ref (r 3)])), ((r 2), .inl (cI, 8, .inl (fun _ => 0))), ((r 3), .inl (cI, 8, .inl (fun _ => 0))), ((r 4), .inl (cR, 80, .inr (.inr (.inr (.inr (fun _ => none)))))), ((r 5), .inl (cI, 80, .inl (fun _ => 0))), ((r 6), .inl (cI, 80, .inl (fun _ => 0))), ((r 7), .inl (cI, 8, .inl (fun _ => 0))), (o, .inl (cL, 1, .inr (.inl (vp_updL fo (0 : Int32).toNatClampNeg ((mv_M_end a0 a1 a2).toInt64)))))] := hD
    have hBH := hB.at hS hA0
    refine lv_goto (tgt := 27) hx hb d_L_end_12 (by decide) ?_
    refine lv_iconst (v := 0) hx hb d_L_end_27 (by decide) ?_
    have hP9 := hP.sub (ws' := [(o, .inl (cL, 1, .inr (.inl (vp_updL fo (0 : Int32).toNatClampNeg ((mv_M_end a0 a1 a2).toInt64)))))]) [8] rfl
    have hD9 := hD.sub (ws' := [(o, .inl (cL, 1, .inr (.inl (vp_updL fo (0 : Int32).toNatClampNeg ((mv_M_end a0 a1 a2).toInt64)))))]) [8] (by decide) rfl
    exact W.iret (v := 0) hx hb hr (fun t ht hW => ⟨⟨_, (vp_updL fo (0 : Int32).toNatClampNeg ((mv_M_end a0 a1 a2).toInt64)), rfl, ⟨hk0.symm, fun _ => rfl⟩, by rw [ht]; exact hP9, va_K.moved hW.alike hK, hD9⟩, hS.F ht⟩) hS.2.2 d_L_end_28
  · rcases hE with ⟨rfl, hkE⟩ | ⟨rfl, hkE⟩ | ⟨rfl, hkE⟩
    · refine ⟨15, ⟨[], [x1, x2], x0, mr_iob, ht0, s0c, mr_cov s0a s0b (by decide), by rw [s0d]; decide, (by rw [s0d]; exact (hts (Cond.classLink "MeasureRowsLaw" 13 mr_iob) mw_224)), (hts (Cond.castable mr_iob mr_iob) mw_225), (fun y hy => nomatch hy)⟩, fun q9 H1 hz hk1 => ?_⟩
      have hS : va_S A s.heap H1 [] := ⟨Nat.le_trans hS.1 hz, fun a h1 h2 => (hk1 a (Nat.lt_of_lt_of_le h1 hS.1)).trans (hS.2.1 a h1 h2), hS.2.2⟩
      have hP := hP.kept (fun k x hx => hk1 x.1 (hP k x hx).lt)
      generalize H1 = H at hP hS ⊢
      refine W.widen (k := 1) (n := 6) (Nat.le_of_ble_eq_true rfl) (Nat.le_of_ble_eq_true rfl) ?_
      refine lv_astore (lv' := [(5, .ref q9), (0, .ref (r 0)), (1, .int a0), (2, .int a1), (3, .int a2), (4, .ref o)]) hx hb d_L_end_15 hl (by decide) rfl (fun ls hl => ?_)
      refine lv_iconst (v := 1) hx hb d_L_end_17 (by decide) ?_
      have hP9 := hP.sub (ws' := [(o, .inl (cL, 1, .inr (.inl fo)))]) [8] rfl
      have hD9 := hD.sub (ws' := [(o, .inl (cL, 1, .inr (.inl fo)))]) [8] (by decide) rfl
      exact W.iret (v := 1) hx hb hr (fun t ht hW => ⟨⟨_, fo, rfl, ⟨hkE.symm, fun h => absurd (hkE.symm.trans h) (by decide)⟩, by rw [ht]; exact hP9, va_K.moved hW.alike hK, hD9⟩, hS.F ht⟩) hS.2.2 d_L_end_18
    · refine ⟨19, ⟨[x0], [x2], x1, mr_iae, ht0, s1c, mr_cov s1a s1b (by decide), by rw [s1d]; decide, (by rw [s1d]; exact (hts (Cond.classLink "MeasureRowsLaw" 22 mr_iae) mw_236)), (hts (Cond.castable mr_iae mr_iae) mw_237), (fun y hy => by rw [List.mem_singleton.mp hy]; exact ⟨mr_cov s0a s0b (by decide), by rw [s0d]; decide, _, (by rw [s0d]; exact (hts (Cond.classLink "MeasureRowsLaw" 13 mr_iob) mw_224)), hB.nc.2.1⟩)⟩, fun q9 H1 hz hk1 => ?_⟩
      have hS : va_S A s.heap H1 [] := ⟨Nat.le_trans hS.1 hz, fun a h1 h2 => (hk1 a (Nat.lt_of_lt_of_le h1 hS.1)).trans (hS.2.1 a h1 h2), hS.2.2⟩
      have hP := hP.kept (fun k x hx => hk1 x.1 (hP k x hx).lt)
      generalize H1 = H at hP hS ⊢
      refine W.widen (k := 1) (n := 6) (Nat.le_of_ble_eq_true rfl) (Nat.le_of_ble_eq_true rfl) ?_
      refine lv_astore (lv' := [(5, .ref q9), (0, .ref (r 0)), (1, .int a0), (2, .int a1), (3, .int a2), (4, .ref o)]) hx hb d_L_end_19 hl (by decide) rfl (fun ls hl => ?_)
      refine lv_iconst (v := 2) hx hb d_L_end_21 (by decide) ?_
      have hP9 := hP.sub (ws' := [(o, .inl (cL, 1, .inr (.inl fo)))]) [8] rfl
      have hD9 := hD.sub (ws' := [(o, .inl (cL, 1, .inr (.inl fo)))]) [8] (by decide) rfl
      exact W.iret (v := 2) hx hb hr (fun t ht hW => ⟨⟨_, fo, rfl, ⟨hkE.symm, fun h => absurd (hkE.symm.trans h) (by decide)⟩, by rw [ht]; exact hP9, va_K.moved hW.alike hK, hD9⟩, hS.F ht⟩) hS.2.2 d_L_end_22
    · refine ⟨23, ⟨[x0, x1], [], x2, mr_ise, ht0, s2c, mr_cov s2a s2b (by decide), by rw [s2d]; decide, (by rw [s2d]; exact (hts (Cond.classLink "MeasureRowsLaw" 24 mr_ise) mw_238)), (hts (Cond.castable mr_ise mr_ise) mw_239), (fun y hy => by rcases List.mem_cons.mp hy with rfl | hy2; exact ⟨mr_cov s0a s0b (by decide), by rw [s0d]; decide, _, (by rw [s0d]; exact (hts (Cond.classLink "MeasureRowsLaw" 13 mr_iob) mw_224)), hB.nc.2.2⟩; rw [List.mem_singleton.mp hy2]; exact ⟨mr_cov s1a s1b (by decide), by rw [s1d]; decide, _, (by rw [s1d]; exact (hts (Cond.classLink "MeasureRowsLaw" 22 mr_iae) mw_236)), hB.nc.1⟩)⟩, fun q9 H1 hz hk1 => ?_⟩
      have hS : va_S A s.heap H1 [] := ⟨Nat.le_trans hS.1 hz, fun a h1 h2 => (hk1 a (Nat.lt_of_lt_of_le h1 hS.1)).trans (hS.2.1 a h1 h2), hS.2.2⟩
      have hP := hP.kept (fun k x hx => hk1 x.1 (hP k x hx).lt)
      generalize H1 = H at hP hS ⊢
      refine W.widen (k := 1) (n := 6) (Nat.le_of_ble_eq_true rfl) (Nat.le_of_ble_eq_true rfl) ?_
      refine lv_astore (lv' := [(5, .ref q9), (0, .ref (r 0)), (1, .int a0), (2, .int a1), (3, .int a2), (4, .ref o)]) hx hb d_L_end_23 hl (by decide) rfl (fun ls hl => ?_)
      refine lv_iconst (v := 3) hx hb d_L_end_25 (by decide) ?_
      have hP9 := hP.sub (ws' := [(o, .inl (cL, 1, .inr (.inl fo)))]) [8] rfl
      have hD9 := hD.sub (ws' := [(o, .inl (cL, 1, .inr (.inl fo)))]) [8] (by decide) rfl
      exact W.iret (v := 3) hx hb hr (fun t ht hW => ⟨⟨_, fo, rfl, ⟨hkE.symm, fun h => absurd (hkE.symm.trans h) (by decide)⟩, by rw [ht]; exact hP9, va_K.moved hW.alike hK, hD9⟩, hS.F ht⟩) hS.2.2 d_L_end_26
set_option maxHeartbeats 4000000 in
set_option maxRecDepth 100000 in
theorem mc_L_apply (l : Launch) (hlt : l.stackTraces = false) (s0 : State) (dC : Nat → ClassId) (dI : Nat → Nat → Nat) (cI cR cL cZ : ClassId) (r : Nat → Nat) (o : Nat) (fo : Nat → Int64) (sz : Nat) (a0 : Int32) (a1 : Int32) (a2 : Int32) (a3 : Int32) : Met l y_L_apply [Cond.codeWith y_L_apply b_L_apply 7 (some .int) [(0, 14, 17, 22)]] ({ frames := 7, cells := 1, slots := 6, locals := 117 }) (mr_PC s0 (dC, dI) [(cI, .int), (cR, .object "MeasureRows$Row"), (cL, .long), (cZ, .boolean)] [.ref (r 0), .int a0, .int a1, .int a2, .int a3, .ref o] [((r 0), .inr (0, mf_M r (nI 0) 0 0 0)), ((r 1), .inr (1, [.ref (r 2), .ref (r 3)])), ((r 2), .inl (cI, 8, .inl (fun _ => 0))), ((r 3), .inl (cI, 8, .inl (fun _ => 0))), ((r 4), .inl (cR, 80, .inr (.inr (.inr (.inr (fun _ => none)))))), ((r 5), .inl (cI, 80, .inl (fun _ => 0))), ((r 6), .inl (cI, 80, .inl (fun _ => 0))), ((r 7), .inl (cI, 8, .inl (fun _ => 0))), (o, .inl (cL, 1, .inr (.inl fo)))] sz) (va_Qi (fun rr u => rr = mk_M_apply a0 a1 a2 a3 ∧ (mk_M_apply a0 a1 a2 a3 = 0 → u 0 = (((mv_M_apply a0 a1 a2 a3) : Int32).toInt64))) (fun (u : Nat → Int64) t => mr_W (dC, dI) [(cI, .int), (cR, .object "MeasureRows$Row"), (cL, .long), (cZ, .boolean)] (va_A [((r 0), .inr (0, mf_M r (nI 0) 0 0 0)), ((r 1), .inr (1, [.ref (r 2), .ref (r 3)])), ((r 2), .inl (cI, 8, .inl (fun _ => 0))), ((r 3), .inl (cI, 8, .inl (fun _ => 0))), ((r 4), .inl (cR, 80, .inr (.inr (.inr (.inr (fun _ => none)))))), ((r 5), .inl (cI, 80, .inl (fun _ => 0))), ((r 6), .inl (cI, 80, .inl (fun _ => 0))), ((r 7), .inl (cI, 8, .inl (fun _ => 0))), (o, .inl (cL, 1, .inr (.inl fo)))] sz) [(o, .inl (cL, 1, .inr (.inl u)))] t) (va_A [((r 0), .inr (0, mf_M r (nI 0) 0 0 0)), ((r 1), .inr (1, [.ref (r 2), .ref (r 3)])), ((r 2), .inl (cI, 8, .inl (fun _ => 0))), ((r 3), .inl (cI, 8, .inl (fun _ => 0))), ((r 4), .inl (cR, 80, .inr (.inr (.inr (.inr (fun _ => none)))))), ((r 5), .inl (cI, 80, .inl (fun _ => 0))), ((r 6), .inl (cI, 80, .inl (fun _ => 0))), ((r 7), .inl (cI, 8, .inl (fun _ => 0))), (o, .inl (cL, 1, .inr (.inl fo)))] sz)) 1 6 (va_A [((r 0), .inr (0, mf_M r (nI 0) 0 0 0)), ((r 1), .inr (1, [.ref (r 2), .ref (r 3)])), ((r 2), .inl (cI, 8, .inl (fun _ => 0))), ((r 3), .inl (cI, 8, .inl (fun _ => 0))), ((r 4), .inl (cR, 80, .inr (.inr (.inr (.inr (fun _ => none)))))), ((r 5), .inl (cI, 80, .inl (fun _ => 0))), ((r 6), .inl (cI, 80, .inl (fun _ => 0))), ((r 7), .inl (cI, 8, .inl (fun _ => 0))), (o, .inl (cL, 1, .inr (.inl fo)))] sz) := by
  refine mr_ofH (cc := b_L_apply) (maxL := 7) (ret := (some .int)) (by decide) ?_
  intro p e s m args below meth c s₁ B hml htab hv
  obtain ⟨rfl, hsz, hB, hK, hP, hD0⟩ := hv
  subst hsz
  have hA0 := mr_A hB hD0
  have hD := hD0.self (sz := s.heap.size)
  generalize hAe : va_A [((r 0), .inr (0, mf_M r (nI 0) 0 0 0)), ((r 1), .inr (1, [.ref (r 2), .ref (r 3)])), ((r 2), .inl (cI, 8, .inl (fun _ => 0))), ((r 3), .inl (cI, 8, .inl (fun _ => 0))), ((r 4), .inl (cR, 80, .inr (.inr (.inr (.inr (fun _ => none)))))), ((r 5), .inl (cI, 80, .inl (fun _ => 0))), ((r 6), .inl (cI, 80, .inl (fun _ => 0))), ((r 7), .inl (cI, 8, .inl (fun _ => 0))), (o, .inl (cL, 1, .inr (.inl fo)))] s.heap.size = A at hD hA0 ⊢
  have hA : ∀ q : Nat, s.heap.size ≤ q → A q := fun q h => by rw [← hAe]; exact Or.inr h
  have hS : va_S A s.heap s.heap [] := va_S.rf
  have hP : va_P (dC, dI) mr_cl [((r 0), .inr (0, mf_M r (nI 0) 0 0 0)), ((r 1), .inr (1, [.ref (r 2), .ref (r 3)])), ((r 2), .inl (cI, 8, .inl (fun _ => 0))), ((r 3), .inl (cI, 8, .inl (fun _ => 0))), ((r 4), .inl (cR, 80, .inr (.inr (.inr (.inr (fun _ => none)))))), ((r 5), .inl (cI, 80, .inl (fun _ => 0))), ((r 6), .inl (cI, 80, .inl (fun _ => 0))), ((r 7), .inl (cI, 8, .inl (fun _ => 0))), (o, .inl (cL, 1, .inr (.inl fo)))] s.heap := hP
  have hBH := hB.at hS hA0
  have hx := B.exec
  have hb := B.bytes
  have hr := B.returns
  have hlocks := B.notSynchronized
  have hts : ∀ w ∈ lw_tbl, w.before [.ref (r 0), .int a0, .int a1, .int a2, .int a3, .ref o].toArray s = true := hB.hts _
  have hown : s.vm.findClass "MeasureRowsLaw" = some m.cls := findClass_of_methodNamed B.named
  have hl := lv_entry ([.ref (r 0), .int a0, .int a1, .int a2, .int a3, .ref o]) (n := 7) (Nat.le_of_ble_eq_true rfl)
  rw [lg_entry_eq]
  generalize (lg_sl ([.ref (r 0), .int a0, .int a1, .int a2, .int a3, .ref o]) ++ List.replicate (7 - (lg_sl ([.ref (r 0), .int a0, .int a1, .int a2, .int a3, .ref o])).length) Slot.unset).toArray = ls at hl ⊢
  have hl : lv_has ls 7 [(0, .ref (r 0)), (1, .int a0), (2, .int a1), (3, .int a2), (4, .int a3), (5, .ref o)] := hl
  obtain ⟨x0, ht0, s0a, s0b, s0c, s0d⟩ := mr_tab1 htab
  refine lv_aload hx hb d_L_apply_0 (lv_at hl 5 rfl) ?_
  refine lv_iconst (v := 0) hx hb d_L_apply_2 (by decide) ?_
  refine lv_aload_n hx hb d_L_apply_3 rfl (lv_at hl 0 rfl) ?_
  refine lv_iload_n hx hb d_L_apply_4 rfl (lv_at hl 1 rfl) ?_
  refine lv_iload_n hx hb d_L_apply_5 rfl (lv_at hl 2 rfl) ?_
  refine lv_iload_n hx hb d_L_apply_6 rfl (lv_at hl 3 rfl) ?_
  refine lv_iload hx hb d_L_apply_7 (lv_at hl 4 rfl) ?_
  refine mr_callVp (As := [.int a0, .int a1, .int a2, .int a3]) (rest := [.int 0, .ref o]) (C := R_M) ⟨hx, hb, hml, hown, hts⟩ (mc_M_apply l hlt s0 dC dI cI cR cL cZ r a0 a1 a2 a3) ⟨(mr_cB 4 (hts (Cond.code y_M_apply b_M_apply 6 (some .int)) mw_245) (hts (Cond.initialized y_M_apply.cls) mw_246) (hts (Cond.methodLink "MeasureRowsLaw" 30 y_M_apply) mw_247) rfl rfl (by decide +kernel) ⟨Nat.le_of_ble_eq_true rfl, Nat.le_of_ble_eq_true rfl⟩), (hts (Cond.instanceMethod y_M_apply) mw_248), (hts (Cond.selects "MeasureRows" y_M_apply y_M_apply) mw_249)⟩ (mr_preV hBH hK (hP.sub (ws' := [((r 0), .inr (0, mf_M r (nI 0) 0 0 0)), ((r 1), .inr (1, [.ref (r 2), .ref (r 3)])), ((r 2), .inl (cI, 8, .inl (fun _ => 0))), ((r 3), .inl (cI, 8, .inl (fun _ => 0))), ((r 4), .inl (cR, 80, .inr (.inr (.inr (.inr (fun _ => none)))))), ((r 5), .inl (cI, 80, .inl (fun _ => 0))), ((r 6), .inl (cI, 80, .inl (fun _ => 0))), ((r 7), .inl (cI, 8, .inl (fun _ => 0)))]) [0, 1, 2, 3, 4, 5, 6, 7] rfl) (ci := 0) (q0 := 0) rfl rfl) rfl hl.1 rfl (Nat.le_of_ble_eq_true rfl) d_L_apply_9 ⟨Nat.le_of_ble_eq_true rfl, Nat.le_of_ble_eq_true rfl⟩ (fun r9 h9 => ?_) (fun E9 hE => ?_)
  · obtain ⟨hk0, rfl⟩ := h9
    refine W.widen (k := 1) (n := 6) (Nat.le_of_ble_eq_true rfl) (Nat.le_of_ble_eq_true rfl) ?_
    refine lv_i2l (v := (mv_M_apply a0 a1 a2 a3).toInt64) hx hb d_L_apply_12 rfl ?_
    refine va_last (D := (dC, dI)) hx hb hK hP hD hS 8 2 rfl rfl (i := 0) (by unfold vp_in; decide) d_L_apply_13 (fun H locs hP hD hS => ?_)
    have hP : va_P (dC, dI) mr_cl [((r 0), .inr (0, mf_M r (nI 0) 0 0 0)), ((r 1), .inr (1, [.ref (r 2), .ref (r 3)])), ((r 2), .inl (cI, 8, .inl (fun _ => 0))), ((r 3), .inl (cI, 8, .inl (fun _ => 0))), ((r 4), .inl (cR, 80, .inr (.inr (.inr (.inr (fun _ => none)))))), ((r 5), .inl (cI, 80, .inl (fun _ => 0))), ((r 6), .inl (cI, 80, .inl (fun _ => 0))), ((r 7), .inl (cI, 8, .inl (fun _ => 0))), (o, .inl (cL, 1, .inr (.inl (vp_updL fo (0 : Int32).toNatClampNeg ((mv_M_apply a0 a1 a2 a3).toInt64)))))] H := hP
    have hD : va_D A [((r 0), .inr (0, mf_M r (nI 0) 0 0 0)), ((r 1), .inr (1, [.ref (r 2), .ref (r 3)])), ((r 2), .inl (cI, 8, .inl (fun _ => 0))), ((r 3), .inl (cI, 8, .inl (fun _ => 0))), ((r 4), .inl (cR, 80, .inr (.inr (.inr (.inr (fun _ => none)))))), ((r 5), .inl (cI, 80, .inl (fun _ => 0))), ((r 6), .inl (cI, 80, .inl (fun _ => 0))), ((r 7), .inl (cI, 8, .inl (fun _ => 0))), (o, .inl (cL, 1, .inr (.inl (vp_updL fo (0 : Int32).toNatClampNeg ((mv_M_apply a0 a1 a2 a3).toInt64)))))] := hD
    have hBH := hB.at hS hA0
    refine lv_goto (tgt := 21) hx hb d_L_apply_14 (by decide) ?_
    refine lv_iconst (v := 0) hx hb d_L_apply_21 (by decide) ?_
    have hP9 := hP.sub (ws' := [(o, .inl (cL, 1, .inr (.inl (vp_updL fo (0 : Int32).toNatClampNeg ((mv_M_apply a0 a1 a2 a3).toInt64)))))]) [8] rfl
    have hD9 := hD.sub (ws' := [(o, .inl (cL, 1, .inr (.inl (vp_updL fo (0 : Int32).toNatClampNeg ((mv_M_apply a0 a1 a2 a3).toInt64)))))]) [8] (by decide) rfl
    exact W.iret (v := 0) hx hb hr (fun t ht hW => ⟨⟨_, (vp_updL fo (0 : Int32).toNatClampNeg ((mv_M_apply a0 a1 a2 a3).toInt64)), rfl, ⟨hk0.symm, fun _ => rfl⟩, by rw [ht]; exact hP9, va_K.moved hW.alike hK, hD9⟩, hS.F ht⟩) hS.2.2 d_L_apply_22
  · obtain ⟨rfl, hkE⟩ := hE
    refine ⟨17, ⟨[], [], x0, mr_iae, ht0, s0c, mr_cov s0a s0b (by decide), by rw [s0d]; decide, (by rw [s0d]; exact (hts (Cond.classLink "MeasureRowsLaw" 22 mr_iae) mw_236)), (hts (Cond.castable mr_iae mr_iae) mw_237), (fun y hy => nomatch hy)⟩, fun q9 H1 hz hk1 => ?_⟩
    have hS : va_S A s.heap H1 [] := ⟨Nat.le_trans hS.1 hz, fun a h1 h2 => (hk1 a (Nat.lt_of_lt_of_le h1 hS.1)).trans (hS.2.1 a h1 h2), hS.2.2⟩
    have hP := hP.kept (fun k x hx => hk1 x.1 (hP k x hx).lt)
    generalize H1 = H at hP hS ⊢
    refine W.widen (k := 1) (n := 6) (Nat.le_of_ble_eq_true rfl) (Nat.le_of_ble_eq_true rfl) ?_
    refine lv_astore (lv' := [(6, .ref q9), (0, .ref (r 0)), (1, .int a0), (2, .int a1), (3, .int a2), (4, .int a3), (5, .ref o)]) hx hb d_L_apply_17 hl (by decide) rfl (fun ls hl => ?_)
    refine lv_iconst (v := 1) hx hb d_L_apply_19 (by decide) ?_
    have hP9 := hP.sub (ws' := [(o, .inl (cL, 1, .inr (.inl fo)))]) [8] rfl
    have hD9 := hD.sub (ws' := [(o, .inl (cL, 1, .inr (.inl fo)))]) [8] (by decide) rfl
    exact W.iret (v := 1) hx hb hr (fun t ht hW => ⟨⟨_, fo, rfl, ⟨hkE.symm, fun h => absurd (hkE.symm.trans h) (by decide)⟩, by rw [ht]; exact hP9, va_K.moved hW.alike hK, hD9⟩, hS.F ht⟩) hS.2.2 d_L_apply_20
set_option maxHeartbeats 4000000 in
set_option maxRecDepth 100000 in
theorem mc_L_scan (l : Launch) (hlt : l.stackTraces = false) (s0 : State) (dC : Nat → ClassId) (dI : Nat → Nat → Nat) (cI cR cL cZ : ClassId) (r : Nat → Nat) (o : Nat) (fo : Nat → Int64) (sz : Nat) (a0 : Int32) (a1 : Int32) (a2 : Int32) : Met l y_L_scan [Cond.codeWith y_L_scan b_L_scan 6 (some .int) [(0, 12, 15, 22)]] ({ frames := 7, cells := 1, slots := 6, locals := 116 }) (mr_PC s0 (dC, dI) [(cI, .int), (cR, .object "MeasureRows$Row"), (cL, .long), (cZ, .boolean)] [.ref (r 0), .int a0, .int a1, .int a2, .ref o] [((r 0), .inr (0, mf_M r (nI 0) 0 0 0)), ((r 1), .inr (1, [.ref (r 2), .ref (r 3)])), ((r 2), .inl (cI, 8, .inl (fun _ => 0))), ((r 3), .inl (cI, 8, .inl (fun _ => 0))), ((r 4), .inl (cR, 80, .inr (.inr (.inr (.inr (fun _ => none)))))), ((r 5), .inl (cI, 80, .inl (fun _ => 0))), ((r 6), .inl (cI, 80, .inl (fun _ => 0))), ((r 7), .inl (cI, 8, .inl (fun _ => 0))), (o, .inl (cL, 1, .inr (.inl fo)))] sz) (va_Qi (fun rr u => rr = mk_M_scan a0 a1 a2 ∧ (mk_M_scan a0 a1 a2 = 0 → u 0 = (((mv_M_scan a0 a1 a2) : Int32).toInt64))) (fun (u : Nat → Int64) t => mr_W (dC, dI) [(cI, .int), (cR, .object "MeasureRows$Row"), (cL, .long), (cZ, .boolean)] (va_A [((r 0), .inr (0, mf_M r (nI 0) 0 0 0)), ((r 1), .inr (1, [.ref (r 2), .ref (r 3)])), ((r 2), .inl (cI, 8, .inl (fun _ => 0))), ((r 3), .inl (cI, 8, .inl (fun _ => 0))), ((r 4), .inl (cR, 80, .inr (.inr (.inr (.inr (fun _ => none)))))), ((r 5), .inl (cI, 80, .inl (fun _ => 0))), ((r 6), .inl (cI, 80, .inl (fun _ => 0))), ((r 7), .inl (cI, 8, .inl (fun _ => 0))), (o, .inl (cL, 1, .inr (.inl fo)))] sz) [(o, .inl (cL, 1, .inr (.inl u)))] t) (va_A [((r 0), .inr (0, mf_M r (nI 0) 0 0 0)), ((r 1), .inr (1, [.ref (r 2), .ref (r 3)])), ((r 2), .inl (cI, 8, .inl (fun _ => 0))), ((r 3), .inl (cI, 8, .inl (fun _ => 0))), ((r 4), .inl (cR, 80, .inr (.inr (.inr (.inr (fun _ => none)))))), ((r 5), .inl (cI, 80, .inl (fun _ => 0))), ((r 6), .inl (cI, 80, .inl (fun _ => 0))), ((r 7), .inl (cI, 8, .inl (fun _ => 0))), (o, .inl (cL, 1, .inr (.inl fo)))] sz)) 1 6 (va_A [((r 0), .inr (0, mf_M r (nI 0) 0 0 0)), ((r 1), .inr (1, [.ref (r 2), .ref (r 3)])), ((r 2), .inl (cI, 8, .inl (fun _ => 0))), ((r 3), .inl (cI, 8, .inl (fun _ => 0))), ((r 4), .inl (cR, 80, .inr (.inr (.inr (.inr (fun _ => none)))))), ((r 5), .inl (cI, 80, .inl (fun _ => 0))), ((r 6), .inl (cI, 80, .inl (fun _ => 0))), ((r 7), .inl (cI, 8, .inl (fun _ => 0))), (o, .inl (cL, 1, .inr (.inl fo)))] sz) := by
  refine mr_ofH (cc := b_L_scan) (maxL := 6) (ret := (some .int)) (by decide) ?_
  intro p e s m args below meth c s₁ B hml htab hv
  obtain ⟨rfl, hsz, hB, hK, hP, hD0⟩ := hv
  subst hsz
  have hA0 := mr_A hB hD0
  have hD := hD0.self (sz := s.heap.size)
  generalize hAe : va_A [((r 0), .inr (0, mf_M r (nI 0) 0 0 0)), ((r 1), .inr (1, [.ref (r 2), .ref (r 3)])), ((r 2), .inl (cI, 8, .inl (fun _ => 0))), ((r 3), .inl (cI, 8, .inl (fun _ => 0))), ((r 4), .inl (cR, 80, .inr (.inr (.inr (.inr (fun _ => none)))))), ((r 5), .inl (cI, 80, .inl (fun _ => 0))), ((r 6), .inl (cI, 80, .inl (fun _ => 0))), ((r 7), .inl (cI, 8, .inl (fun _ => 0))), (o, .inl (cL, 1, .inr (.inl fo)))] s.heap.size = A at hD hA0 ⊢
  have hA : ∀ q : Nat, s.heap.size ≤ q → A q := fun q h => by rw [← hAe]; exact Or.inr h
  have hS : va_S A s.heap s.heap [] := va_S.rf
  have hP : va_P (dC, dI) mr_cl [((r 0), .inr (0, mf_M r (nI 0) 0 0 0)), ((r 1), .inr (1, [.ref (r 2), .ref (r 3)])), ((r 2), .inl (cI, 8, .inl (fun _ => 0))), ((r 3), .inl (cI, 8, .inl (fun _ => 0))), ((r 4), .inl (cR, 80, .inr (.inr (.inr (.inr (fun _ => none)))))), ((r 5), .inl (cI, 80, .inl (fun _ => 0))), ((r 6), .inl (cI, 80, .inl (fun _ => 0))), ((r 7), .inl (cI, 8, .inl (fun _ => 0))), (o, .inl (cL, 1, .inr (.inl fo)))] s.heap := hP
  have hBH := hB.at hS hA0
  have hx := B.exec
  have hb := B.bytes
  have hr := B.returns
  have hlocks := B.notSynchronized
  have hts : ∀ w ∈ lw_tbl, w.before [.ref (r 0), .int a0, .int a1, .int a2, .ref o].toArray s = true := hB.hts _
  have hown : s.vm.findClass "MeasureRowsLaw" = some m.cls := findClass_of_methodNamed B.named
  have hl := lv_entry ([.ref (r 0), .int a0, .int a1, .int a2, .ref o]) (n := 6) (Nat.le_of_ble_eq_true rfl)
  rw [lg_entry_eq]
  generalize (lg_sl ([.ref (r 0), .int a0, .int a1, .int a2, .ref o]) ++ List.replicate (6 - (lg_sl ([.ref (r 0), .int a0, .int a1, .int a2, .ref o])).length) Slot.unset).toArray = ls at hl ⊢
  have hl : lv_has ls 6 [(0, .ref (r 0)), (1, .int a0), (2, .int a1), (3, .int a2), (4, .ref o)] := hl
  obtain ⟨x0, ht0, s0a, s0b, s0c, s0d⟩ := mr_tab1 htab
  refine lv_aload hx hb d_L_scan_0 (lv_at hl 4 rfl) ?_
  refine lv_iconst (v := 0) hx hb d_L_scan_2 (by decide) ?_
  refine lv_aload_n hx hb d_L_scan_3 rfl (lv_at hl 0 rfl) ?_
  refine lv_iload_n hx hb d_L_scan_4 rfl (lv_at hl 1 rfl) ?_
  refine lv_iload_n hx hb d_L_scan_5 rfl (lv_at hl 2 rfl) ?_
  refine lv_iload_n hx hb d_L_scan_6 rfl (lv_at hl 3 rfl) ?_
  refine mr_callVp (As := [.int a0, .int a1, .int a2]) (rest := [.int 0, .ref o]) (C := R_M) ⟨hx, hb, hml, hown, hts⟩ (mc_M_scan l hlt s0 dC dI cI cR cL cZ r a0 a1 a2) ⟨(mr_cB 3 (hts (Cond.code y_M_scan b_M_scan 5 (some .int)) mw_250) (hts (Cond.initialized y_M_scan.cls) mw_251) (hts (Cond.methodLink "MeasureRowsLaw" 34 y_M_scan) mw_252) rfl rfl (by decide +kernel) ⟨Nat.le_of_ble_eq_true rfl, Nat.le_of_ble_eq_true rfl⟩), (hts (Cond.instanceMethod y_M_scan) mw_253), (hts (Cond.selects "MeasureRows" y_M_scan y_M_scan) mw_254)⟩ (mr_preV hBH hK (hP.sub (ws' := [((r 0), .inr (0, mf_M r (nI 0) 0 0 0)), ((r 1), .inr (1, [.ref (r 2), .ref (r 3)])), ((r 2), .inl (cI, 8, .inl (fun _ => 0))), ((r 3), .inl (cI, 8, .inl (fun _ => 0))), ((r 4), .inl (cR, 80, .inr (.inr (.inr (.inr (fun _ => none)))))), ((r 5), .inl (cI, 80, .inl (fun _ => 0))), ((r 6), .inl (cI, 80, .inl (fun _ => 0))), ((r 7), .inl (cI, 8, .inl (fun _ => 0)))]) [0, 1, 2, 3, 4, 5, 6, 7] rfl) (ci := 0) (q0 := 0) rfl rfl) rfl hl.1 rfl (Nat.le_of_ble_eq_true rfl) d_L_scan_7 ⟨Nat.le_of_ble_eq_true rfl, Nat.le_of_ble_eq_true rfl⟩ (fun r9 h9 => ?_) (fun E9 hE => ?_)
  · obtain ⟨hk0, rfl⟩ := h9
    refine W.widen (k := 1) (n := 6) (Nat.le_of_ble_eq_true rfl) (Nat.le_of_ble_eq_true rfl) ?_
    refine lv_i2l (v := (mv_M_scan a0 a1 a2).toInt64) hx hb d_L_scan_10 rfl ?_
    refine va_last (D := (dC, dI)) hx hb hK hP hD hS 8 2 rfl rfl (i := 0) (by unfold vp_in; decide) d_L_scan_11 (fun H locs hP hD hS => ?_)
    have hP : va_P (dC, dI) mr_cl [((r 0), .inr (0, mf_M r (nI 0) 0 0 0)), ((r 1), .inr (1, [.ref (r 2), .ref (r 3)])), ((r 2), .inl (cI, 8, .inl (fun _ => 0))), ((r 3), .inl (cI, 8, .inl (fun _ => 0))), ((r 4), .inl (cR, 80, .inr (.inr (.inr (.inr (fun _ => none)))))), ((r 5), .inl (cI, 80, .inl (fun _ => 0))), ((r 6), .inl (cI, 80, .inl (fun _ => 0))), ((r 7), .inl (cI, 8, .inl (fun _ => 0))), (o, .inl (cL, 1, .inr (.inl (vp_updL fo (0 : Int32).toNatClampNeg ((mv_M_scan a0 a1 a2).toInt64)))))] H := hP
    have hD : va_D A [((r 0), .inr (0, mf_M r (nI 0) 0 0 0)), ((r 1), .inr (1, [.ref (r 2), .ref (r 3)])), ((r 2), .inl (cI, 8, .inl (fun _ => 0))), ((r 3), .inl (cI, 8, .inl (fun _ => 0))), ((r 4), .inl (cR, 80, .inr (.inr (.inr (.inr (fun _ => none)))))), ((r 5), .inl (cI, 80, .inl (fun _ => 0))), ((r 6), .inl (cI, 80, .inl (fun _ => 0))), ((r 7), .inl (cI, 8, .inl (fun _ => 0))), (o, .inl (cL, 1, .inr (.inl (vp_updL fo (0 : Int32).toNatClampNeg ((mv_M_scan a0 a1 a2).toInt64)))))] := hD
    have hBH := hB.at hS hA0
    refine lv_goto (tgt := 19) hx hb d_L_scan_12 (by decide) ?_
    refine lv_iconst (v := 0) hx hb d_L_scan_19 (by decide) ?_
    have hP9 := hP.sub (ws' := [(o, .inl (cL, 1, .inr (.inl (vp_updL fo (0 : Int32).toNatClampNeg ((mv_M_scan a0 a1 a2).toInt64)))))]) [8] rfl
    have hD9 := hD.sub (ws' := [(o, .inl (cL, 1, .inr (.inl (vp_updL fo (0 : Int32).toNatClampNeg ((mv_M_scan a0 a1 a2).toInt64)))))]) [8] (by decide) rfl
    exact W.iret (v := 0) hx hb hr (fun t ht hW => ⟨⟨_, (vp_updL fo (0 : Int32).toNatClampNeg ((mv_M_scan a0 a1 a2).toInt64)), rfl, ⟨hk0.symm, fun _ => rfl⟩, by rw [ht]; exact hP9, va_K.moved hW.alike hK, hD9⟩, hS.F ht⟩) hS.2.2 d_L_scan_20
  · obtain ⟨rfl, hkE⟩ := hE
    refine ⟨15, ⟨[], [], x0, mr_iae, ht0, s0c, mr_cov s0a s0b (by decide), by rw [s0d]; decide, (by rw [s0d]; exact (hts (Cond.classLink "MeasureRowsLaw" 22 mr_iae) mw_236)), (hts (Cond.castable mr_iae mr_iae) mw_237), (fun y hy => nomatch hy)⟩, fun q9 H1 hz hk1 => ?_⟩
    have hS : va_S A s.heap H1 [] := ⟨Nat.le_trans hS.1 hz, fun a h1 h2 => (hk1 a (Nat.lt_of_lt_of_le h1 hS.1)).trans (hS.2.1 a h1 h2), hS.2.2⟩
    have hP := hP.kept (fun k x hx => hk1 x.1 (hP k x hx).lt)
    generalize H1 = H at hP hS ⊢
    refine W.widen (k := 1) (n := 6) (Nat.le_of_ble_eq_true rfl) (Nat.le_of_ble_eq_true rfl) ?_
    refine lv_astore (lv' := [(5, .ref q9), (0, .ref (r 0)), (1, .int a0), (2, .int a1), (3, .int a2), (4, .ref o)]) hx hb d_L_scan_15 hl (by decide) rfl (fun ls hl => ?_)
    refine lv_iconst (v := 1) hx hb d_L_scan_17 (by decide) ?_
    have hP9 := hP.sub (ws' := [(o, .inl (cL, 1, .inr (.inl fo)))]) [8] rfl
    have hD9 := hD.sub (ws' := [(o, .inl (cL, 1, .inr (.inl fo)))]) [8] (by decide) rfl
    exact W.iret (v := 1) hx hb hr (fun t ht hW => ⟨⟨_, fo, rfl, ⟨hkE.symm, fun h => absurd (hkE.symm.trans h) (by decide)⟩, by rw [ht]; exact hP9, va_K.moved hW.alike hK, hD9⟩, hS.F ht⟩) hS.2.2 d_L_scan_18
set_option maxHeartbeats 4000000 in
set_option maxRecDepth 100000 in
theorem mc_L_change (l : Launch) (hlt : l.stackTraces = false) (s0 : State) (dC : Nat → ClassId) (dI : Nat → Nat → Nat) (cI cR cL cZ : ClassId) (r : Nat → Nat) (o : Nat) (fo : Nat → Int64) (sz : Nat) (a0 : Int32) (a1 : Int32) (a2 : Int32) : Met l y_L_change [Cond.codeWith y_L_change b_L_change 6 (some .int) [(0, 12, 15, 22)]] ({ frames := 7, cells := 1, slots := 6, locals := 118 }) (mr_PC s0 (dC, dI) [(cI, .int), (cR, .object "MeasureRows$Row"), (cL, .long), (cZ, .boolean)] [.ref (r 0), .int a0, .int a1, .int a2, .ref o] [((r 0), .inr (0, mf_M r (nI 0) 0 0 0)), ((r 1), .inr (1, [.ref (r 2), .ref (r 3)])), ((r 2), .inl (cI, 8, .inl (fun _ => 0))), ((r 3), .inl (cI, 8, .inl (fun _ => 0))), ((r 4), .inl (cR, 80, .inr (.inr (.inr (.inr (fun _ => none)))))), ((r 5), .inl (cI, 80, .inl (fun _ => 0))), ((r 6), .inl (cI, 80, .inl (fun _ => 0))), ((r 7), .inl (cI, 8, .inl (fun _ => 0))), (o, .inl (cL, 1, .inr (.inl fo)))] sz) (va_Qi (fun rr u => rr = mk_M_change a0 a1 a2 ∧ (mk_M_change a0 a1 a2 = 0 → u 0 = (((mv_M_change a0 a1 a2) : Int32).toInt64))) (fun (u : Nat → Int64) t => mr_W (dC, dI) [(cI, .int), (cR, .object "MeasureRows$Row"), (cL, .long), (cZ, .boolean)] (va_A [((r 0), .inr (0, mf_M r (nI 0) 0 0 0)), ((r 1), .inr (1, [.ref (r 2), .ref (r 3)])), ((r 2), .inl (cI, 8, .inl (fun _ => 0))), ((r 3), .inl (cI, 8, .inl (fun _ => 0))), ((r 4), .inl (cR, 80, .inr (.inr (.inr (.inr (fun _ => none)))))), ((r 5), .inl (cI, 80, .inl (fun _ => 0))), ((r 6), .inl (cI, 80, .inl (fun _ => 0))), ((r 7), .inl (cI, 8, .inl (fun _ => 0))), (o, .inl (cL, 1, .inr (.inl fo)))] sz) [(o, .inl (cL, 1, .inr (.inl u)))] t) (va_A [((r 0), .inr (0, mf_M r (nI 0) 0 0 0)), ((r 1), .inr (1, [.ref (r 2), .ref (r 3)])), ((r 2), .inl (cI, 8, .inl (fun _ => 0))), ((r 3), .inl (cI, 8, .inl (fun _ => 0))), ((r 4), .inl (cR, 80, .inr (.inr (.inr (.inr (fun _ => none)))))), ((r 5), .inl (cI, 80, .inl (fun _ => 0))), ((r 6), .inl (cI, 80, .inl (fun _ => 0))), ((r 7), .inl (cI, 8, .inl (fun _ => 0))), (o, .inl (cL, 1, .inr (.inl fo)))] sz)) 1 6 (va_A [((r 0), .inr (0, mf_M r (nI 0) 0 0 0)), ((r 1), .inr (1, [.ref (r 2), .ref (r 3)])), ((r 2), .inl (cI, 8, .inl (fun _ => 0))), ((r 3), .inl (cI, 8, .inl (fun _ => 0))), ((r 4), .inl (cR, 80, .inr (.inr (.inr (.inr (fun _ => none)))))), ((r 5), .inl (cI, 80, .inl (fun _ => 0))), ((r 6), .inl (cI, 80, .inl (fun _ => 0))), ((r 7), .inl (cI, 8, .inl (fun _ => 0))), (o, .inl (cL, 1, .inr (.inl fo)))] sz) := by
  refine mr_ofH (cc := b_L_change) (maxL := 6) (ret := (some .int)) (by decide) ?_
  intro p e s m args below meth c s₁ B hml htab hv
  obtain ⟨rfl, hsz, hB, hK, hP, hD0⟩ := hv
  subst hsz
  have hA0 := mr_A hB hD0
  have hD := hD0.self (sz := s.heap.size)
  generalize hAe : va_A [((r 0), .inr (0, mf_M r (nI 0) 0 0 0)), ((r 1), .inr (1, [.ref (r 2), .ref (r 3)])), ((r 2), .inl (cI, 8, .inl (fun _ => 0))), ((r 3), .inl (cI, 8, .inl (fun _ => 0))), ((r 4), .inl (cR, 80, .inr (.inr (.inr (.inr (fun _ => none)))))), ((r 5), .inl (cI, 80, .inl (fun _ => 0))), ((r 6), .inl (cI, 80, .inl (fun _ => 0))), ((r 7), .inl (cI, 8, .inl (fun _ => 0))), (o, .inl (cL, 1, .inr (.inl fo)))] s.heap.size = A at hD hA0 ⊢
  have hA : ∀ q : Nat, s.heap.size ≤ q → A q := fun q h => by rw [← hAe]; exact Or.inr h
  have hS : va_S A s.heap s.heap [] := va_S.rf
  have hP : va_P (dC, dI) mr_cl [((r 0), .inr (0, mf_M r (nI 0) 0 0 0)), ((r 1), .inr (1, [.ref (r 2), .ref (r 3)])), ((r 2), .inl (cI, 8, .inl (fun _ => 0))), ((r 3), .inl (cI, 8, .inl (fun _ => 0))), ((r 4), .inl (cR, 80, .inr (.inr (.inr (.inr (fun _ => none)))))), ((r 5), .inl (cI, 80, .inl (fun _ => 0))), ((r 6), .inl (cI, 80, .inl (fun _ => 0))), ((r 7), .inl (cI, 8, .inl (fun _ => 0))), (o, .inl (cL, 1, .inr (.inl fo)))] s.heap := hP
  have hBH := hB.at hS hA0
  have hx := B.exec
  have hb := B.bytes
  have hr := B.returns
  have hlocks := B.notSynchronized
  have hts : ∀ w ∈ lw_tbl, w.before [.ref (r 0), .int a0, .int a1, .int a2, .ref o].toArray s = true := hB.hts _
  have hown : s.vm.findClass "MeasureRowsLaw" = some m.cls := findClass_of_methodNamed B.named
  have hl := lv_entry ([.ref (r 0), .int a0, .int a1, .int a2, .ref o]) (n := 6) (Nat.le_of_ble_eq_true rfl)
  rw [lg_entry_eq]
  generalize (lg_sl ([.ref (r 0), .int a0, .int a1, .int a2, .ref o]) ++ List.replicate (6 - (lg_sl ([.ref (r 0), .int a0, .int a1, .int a2, .ref o])).length) Slot.unset).toArray = ls at hl ⊢
  have hl : lv_has ls 6 [(0, .ref (r 0)), (1, .int a0), (2, .int a1), (3, .int a2), (4, .ref o)] := hl
  obtain ⟨x0, ht0, s0a, s0b, s0c, s0d⟩ := mr_tab1 htab
  refine lv_aload hx hb d_L_change_0 (lv_at hl 4 rfl) ?_
  refine lv_iconst (v := 0) hx hb d_L_change_2 (by decide) ?_
  refine lv_aload_n hx hb d_L_change_3 rfl (lv_at hl 0 rfl) ?_
  refine lv_iload_n hx hb d_L_change_4 rfl (lv_at hl 1 rfl) ?_
  refine lv_iload_n hx hb d_L_change_5 rfl (lv_at hl 2 rfl) ?_
  refine lv_iload_n hx hb d_L_change_6 rfl (lv_at hl 3 rfl) ?_
  refine mr_callVp (As := [.int a0, .int a1, .int a2]) (rest := [.int 0, .ref o]) (C := R_M) ⟨hx, hb, hml, hown, hts⟩ (mc_M_change l hlt s0 dC dI cI cR cL cZ r a0 a1 a2) ⟨(mr_cB 3 (hts (Cond.code y_M_change b_M_change 7 (some .int)) mw_255) (hts (Cond.initialized y_M_change.cls) mw_256) (hts (Cond.methodLink "MeasureRowsLaw" 37 y_M_change) mw_257) rfl rfl (by decide +kernel) ⟨Nat.le_of_ble_eq_true rfl, Nat.le_of_ble_eq_true rfl⟩), (hts (Cond.instanceMethod y_M_change) mw_258), (hts (Cond.selects "MeasureRows" y_M_change y_M_change) mw_259)⟩ (mr_preV hBH hK (hP.sub (ws' := [((r 0), .inr (0, mf_M r (nI 0) 0 0 0)), ((r 1), .inr (1, [.ref (r 2), .ref (r 3)])), ((r 2), .inl (cI, 8, .inl (fun _ => 0))), ((r 3), .inl (cI, 8, .inl (fun _ => 0))), ((r 4), .inl (cR, 80, .inr (.inr (.inr (.inr (fun _ => none)))))), ((r 5), .inl (cI, 80, .inl (fun _ => 0))), ((r 6), .inl (cI, 80, .inl (fun _ => 0))), ((r 7), .inl (cI, 8, .inl (fun _ => 0)))]) [0, 1, 2, 3, 4, 5, 6, 7] rfl) (ci := 0) (q0 := 0) rfl rfl) rfl hl.1 rfl (Nat.le_of_ble_eq_true rfl) d_L_change_7 ⟨Nat.le_of_ble_eq_true rfl, Nat.le_of_ble_eq_true rfl⟩ (fun r9 h9 => ?_) (fun E9 hE => ?_)
  · obtain ⟨hk0, rfl⟩ := h9
    refine W.widen (k := 1) (n := 6) (Nat.le_of_ble_eq_true rfl) (Nat.le_of_ble_eq_true rfl) ?_
    refine lv_i2l (v := (mv_M_change a0 a1 a2).toInt64) hx hb d_L_change_10 rfl ?_
    refine va_last (D := (dC, dI)) hx hb hK hP hD hS 8 2 rfl rfl (i := 0) (by unfold vp_in; decide) d_L_change_11 (fun H locs hP hD hS => ?_)
    have hP : va_P (dC, dI) mr_cl [((r 0), .inr (0, mf_M r (nI 0) 0 0 0)), ((r 1), .inr (1, [.ref (r 2), .ref (r 3)])), ((r 2), .inl (cI, 8, .inl (fun _ => 0))), ((r 3), .inl (cI, 8, .inl (fun _ => 0))), ((r 4), .inl (cR, 80, .inr (.inr (.inr (.inr (fun _ => none)))))), ((r 5), .inl (cI, 80, .inl (fun _ => 0))), ((r 6), .inl (cI, 80, .inl (fun _ => 0))), ((r 7), .inl (cI, 8, .inl (fun _ => 0))), (o, .inl (cL, 1, .inr (.inl (vp_updL fo (0 : Int32).toNatClampNeg ((mv_M_change a0 a1 a2).toInt64)))))] H := hP
    have hD : va_D A [((r 0), .inr (0, mf_M r (nI 0) 0 0 0)), ((r 1), .inr (1, [.ref (r 2), .ref (r 3)])), ((r 2), .inl (cI, 8, .inl (fun _ => 0))), ((r 3), .inl (cI, 8, .inl (fun _ => 0))), ((r 4), .inl (cR, 80, .inr (.inr (.inr (.inr (fun _ => none)))))), ((r 5), .inl (cI, 80, .inl (fun _ => 0))), ((r 6), .inl (cI, 80, .inl (fun _ => 0))), ((r 7), .inl (cI, 8, .inl (fun _ => 0))), (o, .inl (cL, 1, .inr (.inl (vp_updL fo (0 : Int32).toNatClampNeg ((mv_M_change a0 a1 a2).toInt64)))))] := hD
    have hBH := hB.at hS hA0
    refine lv_goto (tgt := 19) hx hb d_L_change_12 (by decide) ?_
    refine lv_iconst (v := 0) hx hb d_L_change_19 (by decide) ?_
    have hP9 := hP.sub (ws' := [(o, .inl (cL, 1, .inr (.inl (vp_updL fo (0 : Int32).toNatClampNeg ((mv_M_change a0 a1 a2).toInt64)))))]) [8] rfl
    have hD9 := hD.sub (ws' := [(o, .inl (cL, 1, .inr (.inl (vp_updL fo (0 : Int32).toNatClampNeg ((mv_M_change a0 a1 a2).toInt64)))))]) [8] (by decide) rfl
    exact W.iret (v := 0) hx hb hr (fun t ht hW => ⟨⟨_, (vp_updL fo (0 : Int32).toNatClampNeg ((mv_M_change a0 a1 a2).toInt64)), rfl, ⟨hk0.symm, fun _ => rfl⟩, by rw [ht]; exact hP9, va_K.moved hW.alike hK, hD9⟩, hS.F ht⟩) hS.2.2 d_L_change_20
  · obtain ⟨rfl, hkE⟩ := hE
    refine ⟨15, ⟨[], [], x0, mr_iae, ht0, s0c, mr_cov s0a s0b (by decide), by rw [s0d]; decide, (by rw [s0d]; exact (hts (Cond.classLink "MeasureRowsLaw" 22 mr_iae) mw_236)), (hts (Cond.castable mr_iae mr_iae) mw_237), (fun y hy => nomatch hy)⟩, fun q9 H1 hz hk1 => ?_⟩
    have hS : va_S A s.heap H1 [] := ⟨Nat.le_trans hS.1 hz, fun a h1 h2 => (hk1 a (Nat.lt_of_lt_of_le h1 hS.1)).trans (hS.2.1 a h1 h2), hS.2.2⟩
    have hP := hP.kept (fun k x hx => hk1 x.1 (hP k x hx).lt)
    generalize H1 = H at hP hS ⊢
    refine W.widen (k := 1) (n := 6) (Nat.le_of_ble_eq_true rfl) (Nat.le_of_ble_eq_true rfl) ?_
    refine lv_astore (lv' := [(5, .ref q9), (0, .ref (r 0)), (1, .int a0), (2, .int a1), (3, .int a2), (4, .ref o)]) hx hb d_L_change_15 hl (by decide) rfl (fun ls hl => ?_)
    refine lv_iconst (v := 1) hx hb d_L_change_17 (by decide) ?_
    have hP9 := hP.sub (ws' := [(o, .inl (cL, 1, .inr (.inl fo)))]) [8] rfl
    have hD9 := hD.sub (ws' := [(o, .inl (cL, 1, .inr (.inl fo)))]) [8] (by decide) rfl
    exact W.iret (v := 1) hx hb hr (fun t ht hW => ⟨⟨_, fo, rfl, ⟨hkE.symm, fun h => absurd (hkE.symm.trans h) (by decide)⟩, by rw [ht]; exact hP9, va_K.moved hW.alike hK, hD9⟩, hS.F ht⟩) hS.2.2 d_L_change_18
set_option maxHeartbeats 4000000 in
set_option maxRecDepth 100000 in
theorem mc_L_look (l : Launch) (hlt : l.stackTraces = false) (s0 : State) (dC : Nat → ClassId) (dI : Nat → Nat → Nat) (cI cR cL cZ : ClassId) (r : Nat → Nat) (o : Nat) (fo : Nat → Int64) (sz : Nat) (a0 : Int32) (a1 : Int32) : Met l y_L_look [Cond.codeWith y_L_look b_L_look 5 (some .int) [(0, 10, 13, 13)]] ({ frames := 7, cells := 1, slots := 6, locals := 115 }) (mr_PC s0 (dC, dI) [(cI, .int), (cR, .object "MeasureRows$Row"), (cL, .long), (cZ, .boolean)] [.ref (r 0), .int a0, .int a1, .ref o] [((r 0), .inr (0, mf_M r (nI 0) 0 0 0)), ((r 1), .inr (1, [.ref (r 2), .ref (r 3)])), ((r 2), .inl (cI, 8, .inl (fun _ => 0))), ((r 3), .inl (cI, 8, .inl (fun _ => 0))), ((r 4), .inl (cR, 80, .inr (.inr (.inr (.inr (fun _ => none)))))), ((r 5), .inl (cI, 80, .inl (fun _ => 0))), ((r 6), .inl (cI, 80, .inl (fun _ => 0))), ((r 7), .inl (cI, 8, .inl (fun _ => 0))), (o, .inl (cL, 1, .inr (.inl fo)))] sz) (va_Qi (fun rr u => rr = mk_M_look a0 a1 ∧ (mk_M_look a0 a1 = 0 → u 0 = (((mv_M_look a0 a1) : Int32).toInt64))) (fun (u : Nat → Int64) t => mr_W (dC, dI) [(cI, .int), (cR, .object "MeasureRows$Row"), (cL, .long), (cZ, .boolean)] (va_A [((r 0), .inr (0, mf_M r (nI 0) 0 0 0)), ((r 1), .inr (1, [.ref (r 2), .ref (r 3)])), ((r 2), .inl (cI, 8, .inl (fun _ => 0))), ((r 3), .inl (cI, 8, .inl (fun _ => 0))), ((r 4), .inl (cR, 80, .inr (.inr (.inr (.inr (fun _ => none)))))), ((r 5), .inl (cI, 80, .inl (fun _ => 0))), ((r 6), .inl (cI, 80, .inl (fun _ => 0))), ((r 7), .inl (cI, 8, .inl (fun _ => 0))), (o, .inl (cL, 1, .inr (.inl fo)))] sz) [(o, .inl (cL, 1, .inr (.inl u)))] t) (va_A [((r 0), .inr (0, mf_M r (nI 0) 0 0 0)), ((r 1), .inr (1, [.ref (r 2), .ref (r 3)])), ((r 2), .inl (cI, 8, .inl (fun _ => 0))), ((r 3), .inl (cI, 8, .inl (fun _ => 0))), ((r 4), .inl (cR, 80, .inr (.inr (.inr (.inr (fun _ => none)))))), ((r 5), .inl (cI, 80, .inl (fun _ => 0))), ((r 6), .inl (cI, 80, .inl (fun _ => 0))), ((r 7), .inl (cI, 8, .inl (fun _ => 0))), (o, .inl (cL, 1, .inr (.inl fo)))] sz)) 1 6 (va_A [((r 0), .inr (0, mf_M r (nI 0) 0 0 0)), ((r 1), .inr (1, [.ref (r 2), .ref (r 3)])), ((r 2), .inl (cI, 8, .inl (fun _ => 0))), ((r 3), .inl (cI, 8, .inl (fun _ => 0))), ((r 4), .inl (cR, 80, .inr (.inr (.inr (.inr (fun _ => none)))))), ((r 5), .inl (cI, 80, .inl (fun _ => 0))), ((r 6), .inl (cI, 80, .inl (fun _ => 0))), ((r 7), .inl (cI, 8, .inl (fun _ => 0))), (o, .inl (cL, 1, .inr (.inl fo)))] sz) := by
  refine mr_ofH (cc := b_L_look) (maxL := 5) (ret := (some .int)) (by decide) ?_
  intro p e s m args below meth c s₁ B hml htab hv
  obtain ⟨rfl, hsz, hB, hK, hP, hD0⟩ := hv
  subst hsz
  have hA0 := mr_A hB hD0
  have hD := hD0.self (sz := s.heap.size)
  generalize hAe : va_A [((r 0), .inr (0, mf_M r (nI 0) 0 0 0)), ((r 1), .inr (1, [.ref (r 2), .ref (r 3)])), ((r 2), .inl (cI, 8, .inl (fun _ => 0))), ((r 3), .inl (cI, 8, .inl (fun _ => 0))), ((r 4), .inl (cR, 80, .inr (.inr (.inr (.inr (fun _ => none)))))), ((r 5), .inl (cI, 80, .inl (fun _ => 0))), ((r 6), .inl (cI, 80, .inl (fun _ => 0))), ((r 7), .inl (cI, 8, .inl (fun _ => 0))), (o, .inl (cL, 1, .inr (.inl fo)))] s.heap.size = A at hD hA0 ⊢
  have hA : ∀ q : Nat, s.heap.size ≤ q → A q := fun q h => by rw [← hAe]; exact Or.inr h
  have hS : va_S A s.heap s.heap [] := va_S.rf
  have hP : va_P (dC, dI) mr_cl [((r 0), .inr (0, mf_M r (nI 0) 0 0 0)), ((r 1), .inr (1, [.ref (r 2), .ref (r 3)])), ((r 2), .inl (cI, 8, .inl (fun _ => 0))), ((r 3), .inl (cI, 8, .inl (fun _ => 0))), ((r 4), .inl (cR, 80, .inr (.inr (.inr (.inr (fun _ => none)))))), ((r 5), .inl (cI, 80, .inl (fun _ => 0))), ((r 6), .inl (cI, 80, .inl (fun _ => 0))), ((r 7), .inl (cI, 8, .inl (fun _ => 0))), (o, .inl (cL, 1, .inr (.inl fo)))] s.heap := hP
  have hBH := hB.at hS hA0
  have hx := B.exec
  have hb := B.bytes
  have hr := B.returns
  have hlocks := B.notSynchronized
  have hts : ∀ w ∈ lw_tbl, w.before [.ref (r 0), .int a0, .int a1, .ref o].toArray s = true := hB.hts _
  have hown : s.vm.findClass "MeasureRowsLaw" = some m.cls := findClass_of_methodNamed B.named
  have hl := lv_entry ([.ref (r 0), .int a0, .int a1, .ref o]) (n := 5) (Nat.le_of_ble_eq_true rfl)
  rw [lg_entry_eq]
  generalize (lg_sl ([.ref (r 0), .int a0, .int a1, .ref o]) ++ List.replicate (5 - (lg_sl ([.ref (r 0), .int a0, .int a1, .ref o])).length) Slot.unset).toArray = ls at hl ⊢
  have hl : lv_has ls 5 [(0, .ref (r 0)), (1, .int a0), (2, .int a1), (3, .ref o)] := hl
  obtain ⟨x0, ht0, s0a, s0b, s0c, s0d⟩ := mr_tab1 htab
  refine lv_aload_n hx hb d_L_look_0 rfl (lv_at hl 3 rfl) ?_
  refine lv_iconst (v := 0) hx hb d_L_look_1 (by decide) ?_
  refine lv_aload_n hx hb d_L_look_2 rfl (lv_at hl 0 rfl) ?_
  refine lv_iload_n hx hb d_L_look_3 rfl (lv_at hl 1 rfl) ?_
  refine lv_iload_n hx hb d_L_look_4 rfl (lv_at hl 2 rfl) ?_
  refine mr_callVp (As := [.int a0, .int a1]) (rest := [.int 0, .ref o]) (C := R_M) ⟨hx, hb, hml, hown, hts⟩ (mc_M_look l hlt s0 dC dI cI cR cL cZ r a0 a1) ⟨(mr_cB 2 (hts (Cond.code y_M_look b_M_look 4 (some .int)) mw_260) (hts (Cond.initialized y_M_look.cls) mw_261) (hts (Cond.methodLink "MeasureRowsLaw" 40 y_M_look) mw_262) rfl rfl (by decide +kernel) ⟨Nat.le_of_ble_eq_true rfl, Nat.le_of_ble_eq_true rfl⟩), (hts (Cond.instanceMethod y_M_look) mw_263), (hts (Cond.selects "MeasureRows" y_M_look y_M_look) mw_264)⟩ (mr_preV hBH hK (hP.sub (ws' := [((r 0), .inr (0, mf_M r (nI 0) 0 0 0)), ((r 1), .inr (1, [.ref (r 2), .ref (r 3)])), ((r 2), .inl (cI, 8, .inl (fun _ => 0))), ((r 3), .inl (cI, 8, .inl (fun _ => 0))), ((r 4), .inl (cR, 80, .inr (.inr (.inr (.inr (fun _ => none)))))), ((r 5), .inl (cI, 80, .inl (fun _ => 0))), ((r 6), .inl (cI, 80, .inl (fun _ => 0))), ((r 7), .inl (cI, 8, .inl (fun _ => 0)))]) [0, 1, 2, 3, 4, 5, 6, 7] rfl) (ci := 0) (q0 := 0) rfl rfl) rfl hl.1 rfl (Nat.le_of_ble_eq_true rfl) d_L_look_5 ⟨Nat.le_of_ble_eq_true rfl, Nat.le_of_ble_eq_true rfl⟩ (fun r9 h9 => ?_) (fun E9 hE => ?_)
  · obtain ⟨hk0, rfl⟩ := h9
    refine W.widen (k := 1) (n := 6) (Nat.le_of_ble_eq_true rfl) (Nat.le_of_ble_eq_true rfl) ?_
    refine lv_i2l (v := (mv_M_look a0 a1).toInt64) hx hb d_L_look_8 rfl ?_
    refine va_last (D := (dC, dI)) hx hb hK hP hD hS 8 2 rfl rfl (i := 0) (by unfold vp_in; decide) d_L_look_9 (fun H locs hP hD hS => ?_)
    have hP : va_P (dC, dI) mr_cl [((r 0), .inr (0, mf_M r (nI 0) 0 0 0)), ((r 1), .inr (1, [.ref (r 2), .ref (r 3)])), ((r 2), .inl (cI, 8, .inl (fun _ => 0))), ((r 3), .inl (cI, 8, .inl (fun _ => 0))), ((r 4), .inl (cR, 80, .inr (.inr (.inr (.inr (fun _ => none)))))), ((r 5), .inl (cI, 80, .inl (fun _ => 0))), ((r 6), .inl (cI, 80, .inl (fun _ => 0))), ((r 7), .inl (cI, 8, .inl (fun _ => 0))), (o, .inl (cL, 1, .inr (.inl (vp_updL fo (0 : Int32).toNatClampNeg ((mv_M_look a0 a1).toInt64)))))] H := hP
    have hD : va_D A [((r 0), .inr (0, mf_M r (nI 0) 0 0 0)), ((r 1), .inr (1, [.ref (r 2), .ref (r 3)])), ((r 2), .inl (cI, 8, .inl (fun _ => 0))), ((r 3), .inl (cI, 8, .inl (fun _ => 0))), ((r 4), .inl (cR, 80, .inr (.inr (.inr (.inr (fun _ => none)))))), ((r 5), .inl (cI, 80, .inl (fun _ => 0))), ((r 6), .inl (cI, 80, .inl (fun _ => 0))), ((r 7), .inl (cI, 8, .inl (fun _ => 0))), (o, .inl (cL, 1, .inr (.inl (vp_updL fo (0 : Int32).toNatClampNeg ((mv_M_look a0 a1).toInt64)))))] := hD
    have hBH := hB.at hS hA0
    refine lv_goto (tgt := 17) hx hb d_L_look_10 (by decide) ?_
    refine lv_iconst (v := 0) hx hb d_L_look_17 (by decide) ?_
    have hP9 := hP.sub (ws' := [(o, .inl (cL, 1, .inr (.inl (vp_updL fo (0 : Int32).toNatClampNeg ((mv_M_look a0 a1).toInt64)))))]) [8] rfl
    have hD9 := hD.sub (ws' := [(o, .inl (cL, 1, .inr (.inl (vp_updL fo (0 : Int32).toNatClampNeg ((mv_M_look a0 a1).toInt64)))))]) [8] (by decide) rfl
    exact W.iret (v := 0) hx hb hr (fun t ht hW => ⟨⟨_, (vp_updL fo (0 : Int32).toNatClampNeg ((mv_M_look a0 a1).toInt64)), rfl, ⟨hk0.symm, fun _ => rfl⟩, by rw [ht]; exact hP9, va_K.moved hW.alike hK, hD9⟩, hS.F ht⟩) hS.2.2 d_L_look_18
  · obtain ⟨rfl, hkE⟩ := hE
    refine ⟨13, ⟨[], [], x0, mr_iob, ht0, s0c, mr_cov s0a s0b (by decide), by rw [s0d]; decide, (by rw [s0d]; exact (hts (Cond.classLink "MeasureRowsLaw" 13 mr_iob) mw_224)), (hts (Cond.castable mr_iob mr_iob) mw_225), (fun y hy => nomatch hy)⟩, fun q9 H1 hz hk1 => ?_⟩
    have hS : va_S A s.heap H1 [] := ⟨Nat.le_trans hS.1 hz, fun a h1 h2 => (hk1 a (Nat.lt_of_lt_of_le h1 hS.1)).trans (hS.2.1 a h1 h2), hS.2.2⟩
    have hP := hP.kept (fun k x hx => hk1 x.1 (hP k x hx).lt)
    generalize H1 = H at hP hS ⊢
    refine W.widen (k := 1) (n := 6) (Nat.le_of_ble_eq_true rfl) (Nat.le_of_ble_eq_true rfl) ?_
    refine lv_astore (lv' := [(4, .ref q9), (0, .ref (r 0)), (1, .int a0), (2, .int a1), (3, .ref o)]) hx hb d_L_look_13 hl (by decide) rfl (fun ls hl => ?_)
    refine lv_iconst (v := 1) hx hb d_L_look_15 (by decide) ?_
    have hP9 := hP.sub (ws' := [(o, .inl (cL, 1, .inr (.inl fo)))]) [8] rfl
    have hD9 := hD.sub (ws' := [(o, .inl (cL, 1, .inr (.inl fo)))]) [8] (by decide) rfl
    exact W.iret (v := 1) hx hb hr (fun t ht hW => ⟨⟨_, fo, rfl, ⟨hkE.symm, fun h => absurd (hkE.symm.trans h) (by decide)⟩, by rw [ht]; exact hP9, va_K.moved hW.alike hK, hD9⟩, hS.F ht⟩) hS.2.2 d_L_look_16
