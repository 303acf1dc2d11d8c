theorem mw_346 : Cond.code y_M_ring b_M_ring 3 (some .boolean) ∈ lw_tbl := by decide +kernel
theorem mw_347 : Cond.initialized y_M_ring.cls ∈ lw_tbl := by decide +kernel
theorem mw_348 : Cond.methodLink "MeasureRowsLaw" 7 y_M_ring ∈ lw_tbl := by decide +kernel
theorem mw_349 : Cond.instanceMethod y_M_ring ∈ lw_tbl := by decide +kernel
theorem mw_350 : Cond.selects "MeasureRows" y_M_ring y_M_ring ∈ lw_tbl := by decide +kernel
theorem mw_351 : Cond.classLink "MeasureRowsLaw" 13 mr_iob ∈ lw_tbl := by decide +kernel
theorem mw_352 : Cond.castable mr_iob mr_iob ∈ lw_tbl := by decide +kernel
theorem mw_353 : Cond.code y_M_has b_M_has 3 (some .boolean) ∈ lw_tbl := by decide +kernel
theorem mw_354 : Cond.initialized y_M_has.cls ∈ lw_tbl := by decide +kernel
theorem mw_355 : Cond.methodLink "MeasureRowsLaw" 15 y_M_has ∈ lw_tbl := by decide +kernel
theorem mw_356 : Cond.instanceMethod y_M_has ∈ lw_tbl := by decide +kernel
theorem mw_357 : Cond.selects "MeasureRows" y_M_has y_M_has ∈ lw_tbl := by decide +kernel
theorem mw_358 : Cond.code y_M_change b_M_change 7 (some .int) ∈ lw_tbl := by decide +kernel
theorem mw_359 : Cond.initialized y_M_change.cls ∈ lw_tbl := by decide +kernel
theorem mw_360 : Cond.methodLink "MeasureRowsLaw" 37 y_M_change ∈ lw_tbl := by decide +kernel
theorem mw_361 : Cond.instanceMethod y_M_change ∈ lw_tbl := by decide +kernel
theorem mw_362 : Cond.selects "MeasureRows" y_M_change y_M_change ∈ lw_tbl := by decide +kernel
theorem mw_363 : Cond.classLink "MeasureRowsLaw" 22 mr_iae ∈ lw_tbl := by decide +kernel
theorem mw_364 : Cond.castable mr_iae mr_iae ∈ lw_tbl := by decide +kernel
theorem mw_365 : Cond.code y_M_look b_M_look 4 (some .int) ∈ lw_tbl := by decide +kernel
theorem mw_366 : Cond.initialized y_M_look.cls ∈ lw_tbl := by decide +kernel
theorem mw_367 : Cond.methodLink "MeasureRowsLaw" 40 y_M_look ∈ lw_tbl := by decide +kernel
theorem mw_368 : Cond.instanceMethod y_M_look ∈ lw_tbl := by decide +kernel
theorem mw_369 : Cond.selects "MeasureRows" y_M_look y_M_look ∈ lw_tbl := by decide +kernel
set_option maxHeartbeats 4000000 in
set_option maxRecDepth 100000 in
theorem mc_L_ring (l : Launch) (hlt : l.stackTraces = false) (s0 : State) (dC : Nat → ClassId) (dI : Nat → Nat → Nat) (cI cR cL cZ : ClassId) (r : Nat → Nat) (n : Nat) (nw pb lc : Int32) (fm fi : Nat → Int32) (fr : Nat → Option Nat) (fl fc fg : Nat → Int32) (L : List Nat) (f : Nat → va_E) (o : Nat) (fo : Nat → Int64) (sz : Nat) (a0 : Int32) (a1 : Int32) (hR : mr_RI cI n L f fr) : Met l y_L_ring [Cond.codeWith y_L_ring b_L_ring 5 (some .int) [(0, 17, 20, 13)]] ({ frames := 7, cells := 1, slots := 6, locals := 114 }) (mr_PC s0 (dC, dI) [(cI, .int), (cR, .object "MeasureRows$Row"), (cL, .long), (cZ, .boolean)] [.ref (r 0), .int a0, .int a1, .ref o] (([(o, .inl (cL, 1, .inr (.inl fo))), ((r 0), .inr (0, mf_M r (nI n) nw pb lc)), ((r 1), .inr (1, [.ref (r 2), .ref (r 3)])), ((r 2), .inl (cI, 8, .inl fm)), ((r 3), .inl (cI, 8, .inl fi)), ((r 4), .inl (cR, 80, .inr (.inr (.inr (.inr fr))))), ((r 5), .inl (cI, 80, .inl fl)), ((r 6), .inl (cI, 80, .inl fc)), ((r 7), .inl (cI, 8, .inl fg))] : va_W) ++ va_pl L f) sz) (va_Qi (fun rr u => rr = mk_M_ring fi a0 a1 ∧ (mk_M_ring fi a0 a1 = 0 → u 0 = (if (mv_M_ring fi a0 a1) = 0 then (0 : Int64) else 1))) (fun (u : Nat → Int64) t => mr_W (dC, dI) [(cI, .int), (cR, .object "MeasureRows$Row"), (cL, .long), (cZ, .boolean)] (va_A (([(o, .inl (cL, 1, .inr (.inl fo))), ((r 0), .inr (0, mf_M r (nI n) nw pb lc)), ((r 1), .inr (1, [.ref (r 2), .ref (r 3)])), ((r 2), .inl (cI, 8, .inl fm)), ((r 3), .inl (cI, 8, .inl fi)), ((r 4), .inl (cR, 80, .inr (.inr (.inr (.inr fr))))), ((r 5), .inl (cI, 80, .inl fl)), ((r 6), .inl (cI, 80, .inl fc)), ((r 7), .inl (cI, 8, .inl fg))] : va_W) ++ va_pl L f) sz) (([(o, .inl (cL, 1, .inr (.inl u))), ((r 0), .inr (0, mf_M r (nI n) nw pb lc)), ((r 1), .inr (1, [.ref (r 2), .ref (r 3)])), ((r 2), .inl (cI, 8, .inl fm)), ((r 3), .inl (cI, 8, .inl fi)), ((r 4), .inl (cR, 80, .inr (.inr (.inr (.inr fr))))), ((r 5), .inl (cI, 80, .inl fl)), ((r 6), .inl (cI, 80, .inl fc)), ((r 7), .inl (cI, 8, .inl fg))] : va_W) ++ va_pl L f) t) (va_A (([(o, .inl (cL, 1, .inr (.inl fo))), ((r 0), .inr (0, mf_M r (nI n) nw pb lc)), ((r 1), .inr (1, [.ref (r 2), .ref (r 3)])), ((r 2), .inl (cI, 8, .inl fm)), ((r 3), .inl (cI, 8, .inl fi)), ((r 4), .inl (cR, 80, .inr (.inr (.inr (.inr fr))))), ((r 5), .inl (cI, 80, .inl fl)), ((r 6), .inl (cI, 80, .inl fc)), ((r 7), .inl (cI, 8, .inl fg))] : va_W) ++ va_pl L f) sz)) 1 6 (va_A (([(o, .inl (cL, 1, .inr (.inl fo))), ((r 0), .inr (0, mf_M r (nI n) nw pb lc)), ((r 1), .inr (1, [.ref (r 2), .ref (r 3)])), ((r 2), .inl (cI, 8, .inl fm)), ((r 3), .inl (cI, 8, .inl fi)), ((r 4), .inl (cR, 80, .inr (.inr (.inr (.inr fr))))), ((r 5), .inl (cI, 80, .inl fl)), ((r 6), .inl (cI, 80, .inl fc)), ((r 7), .inl (cI, 8, .inl fg))] : va_W) ++ va_pl L f) sz) := by
  refine mr_ofH (cc := b_L_ring) (maxL := 5) (ret := (some .int)) (by decide) ?_
  intro p e s m args below meth c s₁ B hml htab hv
  obtain ⟨rfl, hsz, hB, hK, hP, hD0⟩ := hv
  subst hsz
  have hA0 := mr_A hB hD0
  have hD := hD0.self (sz := s.heap.size)
  generalize hAe : va_A (([(o, .inl (cL, 1, .inr (.inl fo))), ((r 0), .inr (0, mf_M r (nI n) nw pb lc)), ((r 1), .inr (1, [.ref (r 2), .ref (r 3)])), ((r 2), .inl (cI, 8, .inl fm)), ((r 3), .inl (cI, 8, .inl fi)), ((r 4), .inl (cR, 80, .inr (.inr (.inr (.inr fr))))), ((r 5), .inl (cI, 80, .inl fl)), ((r 6), .inl (cI, 80, .inl fc)), ((r 7), .inl (cI, 8, .inl fg))] : va_W) ++ va_pl L f) s.heap.size = A at hD hA0 ⊢
  have hA : ∀ q : Nat, s.heap.size ≤ q → A q := fun q h => by rw [← hAe]; exact Or.inr h
  have hS : va_S A s.heap s.heap [] := va_S.rf
  have hP : va_P (dC, dI) mr_cl (([(o, .inl (cL, 1, .inr (.inl fo))), ((r 0), .inr (0, mf_M r (nI n) nw pb lc)), ((r 1), .inr (1, [.ref (r 2), .ref (r 3)])), ((r 2), .inl (cI, 8, .inl fm)), ((r 3), .inl (cI, 8, .inl fi)), ((r 4), .inl (cR, 80, .inr (.inr (.inr (.inr fr))))), ((r 5), .inl (cI, 80, .inl fl)), ((r 6), .inl (cI, 80, .inl fc)), ((r 7), .inl (cI, 8, .inl fg))] : va_W) ++ va_pl L f) s.heap := hP
  have hBH := hB.at hS hA0
  have hx := B.exec
  have hb := B.bytes
  have hr := B.returns
  have hlocks := B.notSynchronized
  have hts : ∀ w ∈ lw_tbl, w.before [.ref (r 0), .int a0, .int a1, .ref o].toArray s = true := hB.hts _
  have hown : s.vm.findClass "MeasureRowsLaw" = some m.cls := findClass_of_methodNamed B.named
  have hl := lv_entry ([.ref (r 0), .int a0, .int a1, .ref o]) (n := 5) (Nat.le_of_ble_eq_true rfl)
  rw [lg_entry_eq]
  generalize (lg_sl ([.ref (r 0), .int a0, .int a1, .ref o]) ++ List.replicate (5 - (lg_sl ([.ref (r 0), .int a0, .int a1, .ref o])).length) Slot.unset).toArray = ls at hl ⊢
  have hl : lv_has ls 5 [(0, .ref (r 0)), (1, .int a0), (2, .int a1), (3, .ref o)] := hl
  obtain ⟨x0, ht0, s0a, s0b, s0c, s0d⟩ := mr_tab1 htab
  refine lv_aload_n hx hb d_L_ring_0 rfl (lv_at hl 3 rfl) ?_
  refine lv_iconst (v := 0) hx hb d_L_ring_1 (by decide) ?_
  refine lv_aload_n hx hb d_L_ring_2 rfl (lv_at hl 0 rfl) ?_
  refine lv_iload_n hx hb d_L_ring_3 rfl (lv_at hl 1 rfl) ?_
  refine lv_iload_n hx hb d_L_ring_4 rfl (lv_at hl 2 rfl) ?_
  refine mr_callVp (As := [.int a0, .int a1]) (rest := [.int 0, .ref o]) (C := R_M) ⟨hx, hb, hml, hown, hts⟩ (mc_M_ring l hlt s0 dC dI cI cR cL cZ r n nw pb lc fm fi fr fl fc fg L f a0 a1 hR) ⟨(mr_cB 2 (hts (Cond.code y_M_ring b_M_ring 3 (some .boolean)) mw_346) (hts (Cond.initialized y_M_ring.cls) mw_347) (hts (Cond.methodLink "MeasureRowsLaw" 7 y_M_ring) mw_348) rfl rfl (by decide +kernel) ⟨Nat.le_of_ble_eq_true rfl, Nat.le_of_ble_eq_true rfl⟩), (hts (Cond.instanceMethod y_M_ring) mw_349), (hts (Cond.selects "MeasureRows" y_M_ring y_M_ring) mw_350)⟩ (mr_preV (ws := ([((r 0), .inr (0, mf_M r (nI n) nw pb lc)), ((r 1), .inr (1, [.ref (r 2), .ref (r 3)])), ((r 2), .inl (cI, 8, .inl fm)), ((r 3), .inl (cI, 8, .inl fi)), ((r 4), .inl (cR, 80, .inr (.inr (.inr (.inr fr))))), ((r 5), .inl (cI, 80, .inl fl)), ((r 6), .inl (cI, 80, .inl fc)), ((r 7), .inl (cI, 8, .inl fg))] : va_W) ++ va_pl L f) hBH hK (fun k y h => hP (k + 1) y h) (ci := 0) (q0 := 0) rfl rfl) rfl hl.1 rfl (Nat.le_of_ble_eq_true rfl) d_L_ring_5 ⟨Nat.le_of_ble_eq_true rfl, Nat.le_of_ble_eq_true rfl⟩ (fun r9 h9 => ?_) (fun E9 hE => ?_)
  · obtain ⟨hk0, rfl⟩ := h9
    refine W.widen (k := 1) (n := 6) (Nat.le_of_ble_eq_true rfl) (Nat.le_of_ble_eq_true rfl) ?_
    refine lv_if_eq (tgt := 15) hx hb d_L_ring_8 (by decide) (fun c_1 => ?_) (fun c_1 => ?_)
    · refine lv_lconst (v := 0) hx hb d_L_ring_15 (by decide) ?_
      refine va_last (D := (dC, dI)) hx hb hK hP hD hS 0 2 rfl rfl (i := 0) (by unfold vp_in; decide) d_L_ring_16 (fun H locs hP hD hS => ?_)
      have hP : va_P (dC, dI) mr_cl (([(o, .inl (cL, 1, .inr (.inl (vp_updL fo (0 : Int32).toNatClampNeg 0)))), ((r 0), .inr (0, mf_M r (nI n) nw pb lc)), ((r 1), .inr (1, [.ref (r 2), .ref (r 3)])), ((r 2), .inl (cI, 8, .inl fm)), ((r 3), .inl (cI, 8, .inl fi)), ((r 4), .inl (cR, 80, .inr (.inr (.inr (.inr fr))))), ((r 5), .inl (cI, 80, .inl fl)), ((r 6), .inl (cI, 80, .inl fc)), ((r 7), .inl (cI, 8, .inl fg))] : va_W) ++ va_pl L f) H := hP
      have hD : va_D A (([(o, .inl (cL, 1, .inr (.inl (vp_updL fo (0 : Int32).toNatClampNeg 0)))), ((r 0), .inr (0, mf_M r (nI n) nw pb lc)), ((r 1), .inr (1, [.ref (r 2), .ref (r 3)])), ((r 2), .inl (cI, 8, .inl fm)), ((r 3), .inl (cI, 8, .inl fi)), ((r 4), .inl (cR, 80, .inr (.inr (.inr (.inr fr))))), ((r 5), .inl (cI, 80, .inl fl)), ((r 6), .inl (cI, 80, .inl fc)), ((r 7), .inl (cI, 8, .inl fg))] : va_W) ++ va_pl L f) := hD
      have hBH := hB.at hS hA0
      refine lv_goto (tgt := 24) hx hb d_L_ring_17 (by decide) ?_
      refine lv_iconst (v := 0) hx hb d_L_ring_24 (by decide) ?_
      have hP9 := hP
      have hD9 := hD
      exact W.iret (v := 0) hx hb hr (fun t ht hW => ⟨⟨_, (vp_updL fo (0 : Int32).toNatClampNeg 0), rfl, ⟨hk0.symm, fun _ => by rw [if_pos c_1]; rfl⟩, by rw [ht]; exact hP9, va_K.moved hW.alike hK, hD9⟩, hS.F ht⟩) hS.2.2 d_L_ring_25
    · refine lv_lconst (v := 1) hx hb d_L_ring_11 (by decide) ?_
      refine lv_goto (tgt := 16) hx hb d_L_ring_12 (by decide) ?_
      refine va_last (D := (dC, dI)) hx hb hK hP hD hS 0 2 rfl rfl (i := 0) (by unfold vp_in; decide) d_L_ring_16 (fun H locs hP hD hS => ?_)
      have hP : va_P (dC, dI) mr_cl (([(o, .inl (cL, 1, .inr (.inl (vp_updL fo (0 : Int32).toNatClampNeg 1)))), ((r 0), .inr (0, mf_M r (nI n) nw pb lc)), ((r 1), .inr (1, [.ref (r 2), .ref (r 3)])), ((r 2), .inl (cI, 8, .inl fm)), ((r 3), .inl (cI, 8, .inl fi)), ((r 4), .inl (cR, 80, .inr (.inr (.inr (.inr fr))))), ((r 5), .inl (cI, 80, .inl fl)), ((r 6), .inl (cI, 80, .inl fc)), ((r 7), .inl (cI, 8, .inl fg))] : va_W) ++ va_pl L f) H := hP
      have hD : va_D A (([(o, .inl (cL, 1, .inr (.inl (vp_updL fo (0 : Int32).toNatClampNeg 1)))), ((r 0), .inr (0, mf_M r (nI n) nw pb lc)), ((r 1), .inr (1, [.ref (r 2), .ref (r 3)])), ((r 2), .inl (cI, 8, .inl fm)), ((r 3), .inl (cI, 8, .inl fi)), ((r 4), .inl (cR, 80, .inr (.inr (.inr (.inr fr))))), ((r 5), .inl (cI, 80, .inl fl)), ((r 6), .inl (cI, 80, .inl fc)), ((r 7), .inl (cI, 8, .inl fg))] : va_W) ++ va_pl L f) := hD
      have hBH := hB.at hS hA0
      refine lv_goto (tgt := 24) hx hb d_L_ring_17 (by decide) ?_
      refine lv_iconst (v := 0) hx hb d_L_ring_24 (by decide) ?_
      have hP9 := hP
      have hD9 := hD
      exact W.iret (v := 0) hx hb hr (fun t ht hW => ⟨⟨_, (vp_updL fo (0 : Int32).toNatClampNeg 1), rfl, ⟨hk0.symm, fun _ => by rw [if_neg c_1]; rfl⟩, by rw [ht]; exact hP9, va_K.moved hW.alike hK, hD9⟩, hS.F ht⟩) hS.2.2 d_L_ring_25
  · obtain ⟨rfl, hkE⟩ := hE
    refine ⟨20, ⟨[], [], x0, mr_iob, ht0, s0c, mr_cov s0a s0b (by decide), by rw [s0d]; decide, (by rw [s0d]; exact (hts (Cond.classLink "MeasureRowsLaw" 13 mr_iob) mw_351)), (hts (Cond.castable mr_iob mr_iob) mw_352), (fun y hy => nomatch hy)⟩, fun q9 H1 hz hk1 => ?_⟩
    have hS : va_S A s.heap H1 [] := ⟨Nat.le_trans hS.1 hz, fun a h1 h2 => (hk1 a (Nat.lt_of_lt_of_le h1 hS.1)).trans (hS.2.1 a h1 h2), hS.2.2⟩
    have hP := hP.kept (fun k x hx => hk1 x.1 (hP k x hx).lt)
    generalize H1 = H at hP hS ⊢
    refine W.widen (k := 1) (n := 6) (Nat.le_of_ble_eq_true rfl) (Nat.le_of_ble_eq_true rfl) ?_
    refine lv_astore (lv' := [(4, .ref q9), (0, .ref (r 0)), (1, .int a0), (2, .int a1), (3, .ref o)]) hx hb d_L_ring_20 hl (by decide) rfl (fun ls hl => ?_)
    refine lv_iconst (v := 1) hx hb d_L_ring_22 (by decide) ?_
    have hP9 := hP
    have hD9 := hD
    exact W.iret (v := 1) hx hb hr (fun t ht hW => ⟨⟨_, fo, rfl, ⟨hkE.symm, fun h => absurd (hkE.symm.trans h) (by decide)⟩, by rw [ht]; exact hP9, va_K.moved hW.alike hK, hD9⟩, hS.F ht⟩) hS.2.2 d_L_ring_23
set_option maxHeartbeats 4000000 in
set_option maxRecDepth 100000 in
theorem mc_L_has (l : Launch) (hlt : l.stackTraces = false) (s0 : State) (dC : Nat → ClassId) (dI : Nat → Nat → Nat) (cI cR cL cZ : ClassId) (r : Nat → Nat) (n : Nat) (nw pb lc : Int32) (fm fi : Nat → Int32) (fr : Nat → Option Nat) (fl fc fg : Nat → Int32) (L : List Nat) (f : Nat → va_E) (o : Nat) (fo : Nat → Int64) (sz : Nat) (a0 : Int32) (a1 : Int32) (hR : mr_RI cI n L f fr) : Met l y_L_has [Cond.codeWith y_L_has b_L_has 5 (some .int) [(0, 17, 20, 13)]] ({ frames := 7, cells := 1, slots := 6, locals := 114 }) (mr_PC s0 (dC, dI) [(cI, .int), (cR, .object "MeasureRows$Row"), (cL, .long), (cZ, .boolean)] [.ref (r 0), .int a0, .int a1, .ref o] (([(o, .inl (cL, 1, .inr (.inl fo))), ((r 0), .inr (0, mf_M r (nI n) nw pb lc)), ((r 1), .inr (1, [.ref (r 2), .ref (r 3)])), ((r 2), .inl (cI, 8, .inl fm)), ((r 3), .inl (cI, 8, .inl fi)), ((r 4), .inl (cR, 80, .inr (.inr (.inr (.inr fr))))), ((r 5), .inl (cI, 80, .inl fl)), ((r 6), .inl (cI, 80, .inl fc)), ((r 7), .inl (cI, 8, .inl fg))] : va_W) ++ va_pl L f) sz) (va_Qi (fun rr u => rr = mk_M_has fi a0 a1 ∧ (mk_M_has fi a0 a1 = 0 → u 0 = (if (mv_M_has fi a0 a1) = 0 then (0 : Int64) else 1))) (fun (u : Nat → Int64) t => mr_W (dC, dI) [(cI, .int), (cR, .object "MeasureRows$Row"), (cL, .long), (cZ, .boolean)] (va_A (([(o, .inl (cL, 1, .inr (.inl fo))), ((r 0), .inr (0, mf_M r (nI n) nw pb lc)), ((r 1), .inr (1, [.ref (r 2), .ref (r 3)])), ((r 2), .inl (cI, 8, .inl fm)), ((r 3), .inl (cI, 8, .inl fi)), ((r 4), .inl (cR, 80, .inr (.inr (.inr (.inr fr))))), ((r 5), .inl (cI, 80, .inl fl)), ((r 6), .inl (cI, 80, .inl fc)), ((r 7), .inl (cI, 8, .inl fg))] : va_W) ++ va_pl L f) sz) (([(o, .inl (cL, 1, .inr (.inl u))), ((r 0), .inr (0, mf_M r (nI n) nw pb lc)), ((r 1), .inr (1, [.ref (r 2), .ref (r 3)])), ((r 2), .inl (cI, 8, .inl fm)), ((r 3), .inl (cI, 8, .inl fi)), ((r 4), .inl (cR, 80, .inr (.inr (.inr (.inr fr))))), ((r 5), .inl (cI, 80, .inl fl)), ((r 6), .inl (cI, 80, .inl fc)), ((r 7), .inl (cI, 8, .inl fg))] : va_W) ++ va_pl L f) t) (va_A (([(o, .inl (cL, 1, .inr (.inl fo))), ((r 0), .inr (0, mf_M r (nI n) nw pb lc)), ((r 1), .inr (1, [.ref (r 2), .ref (r 3)])), ((r 2), .inl (cI, 8, .inl fm)), ((r 3), .inl (cI, 8, .inl fi)), ((r 4), .inl (cR, 80, .inr (.inr (.inr (.inr fr))))), ((r 5), .inl (cI, 80, .inl fl)), ((r 6), .inl (cI, 80, .inl fc)), ((r 7), .inl (cI, 8, .inl fg))] : va_W) ++ va_pl L f) sz)) 1 6 (va_A (([(o, .inl (cL, 1, .inr (.inl fo))), ((r 0), .inr (0, mf_M r (nI n) nw pb lc)), ((r 1), .inr (1, [.ref (r 2), .ref (r 3)])), ((r 2), .inl (cI, 8, .inl fm)), ((r 3), .inl (cI, 8, .inl fi)), ((r 4), .inl (cR, 80, .inr (.inr (.inr (.inr fr))))), ((r 5), .inl (cI, 80, .inl fl)), ((r 6), .inl (cI, 80, .inl fc)), ((r 7), .inl (cI, 8, .inl fg))] : va_W) ++ va_pl L f) sz) := by
  refine mr_ofH (cc := b_L_has) (maxL := 5) (ret := (some .int)) (by decide) ?_
  intro p e s m args below meth c s₁ B hml htab hv
  obtain ⟨rfl, hsz, hB, hK, hP, hD0⟩ := hv
  subst hsz
  have hA0 := mr_A hB hD0
  have hD := hD0.self (sz := s.heap.size)
  generalize hAe : va_A (([(o, .inl (cL, 1, .inr (.inl fo))), ((r 0), .inr (0, mf_M r (nI n) nw pb lc)), ((r 1), .inr (1, [.ref (r 2), .ref (r 3)])), ((r 2), .inl (cI, 8, .inl fm)), ((r 3), .inl (cI, 8, .inl fi)), ((r 4), .inl (cR, 80, .inr (.inr (.inr (.inr fr))))), ((r 5), .inl (cI, 80, .inl fl)), ((r 6), .inl (cI, 80, .inl fc)), ((r 7), .inl (cI, 8, .inl fg))] : va_W) ++ va_pl L f) s.heap.size = A at hD hA0 ⊢
  have hA : ∀ q : Nat, s.heap.size ≤ q → A q := fun q h => by rw [← hAe]; exact Or.inr h
  have hS : va_S A s.heap s.heap [] := va_S.rf
  have hP : va_P (dC, dI) mr_cl (([(o, .inl (cL, 1, .inr (.inl fo))), ((r 0), .inr (0, mf_M r (nI n) nw pb lc)), ((r 1), .inr (1, [.ref (r 2), .ref (r 3)])), ((r 2), .inl (cI, 8, .inl fm)), ((r 3), .inl (cI, 8, .inl fi)), ((r 4), .inl (cR, 80, .inr (.inr (.inr (.inr fr))))), ((r 5), .inl (cI, 80, .inl fl)), ((r 6), .inl (cI, 80, .inl fc)), ((r 7), .inl (cI, 8, .inl fg))] : va_W) ++ va_pl L f) s.heap := hP
  have hBH := hB.at hS hA0
  have hx := B.exec
  have hb := B.bytes
  have hr := B.returns
  have hlocks := B.notSynchronized
  have hts : ∀ w ∈ lw_tbl, w.before [.ref (r 0), .int a0, .int a1, .ref o].toArray s = true := hB.hts _
  have hown : s.vm.findClass "MeasureRowsLaw" = some m.cls := findClass_of_methodNamed B.named
  have hl := lv_entry ([.ref (r 0), .int a0, .int a1, .ref o]) (n := 5) (Nat.le_of_ble_eq_true rfl)
  rw [lg_entry_eq]
  generalize (lg_sl ([.ref (r 0), .int a0, .int a1, .ref o]) ++ List.replicate (5 - (lg_sl ([.ref (r 0), .int a0, .int a1, .ref o])).length) Slot.unset).toArray = ls at hl ⊢
  have hl : lv_has ls 5 [(0, .ref (r 0)), (1, .int a0), (2, .int a1), (3, .ref o)] := hl
  obtain ⟨x0, ht0, s0a, s0b, s0c, s0d⟩ := mr_tab1 htab
  refine lv_aload_n hx hb d_L_has_0 rfl (lv_at hl 3 rfl) ?_
  refine lv_iconst (v := 0) hx hb d_L_has_1 (by decide) ?_
  refine lv_aload_n hx hb d_L_has_2 rfl (lv_at hl 0 rfl) ?_
  refine lv_iload_n hx hb d_L_has_3 rfl (lv_at hl 1 rfl) ?_
  refine lv_iload_n hx hb d_L_has_4 rfl (lv_at hl 2 rfl) ?_
  refine mr_callVp (As := [.int a0, .int a1]) (rest := [.int 0, .ref o]) (C := R_M) ⟨hx, hb, hml, hown, hts⟩ (mc_M_has l hlt s0 dC dI cI cR cL cZ r n nw pb lc fm fi fr fl fc fg L f a0 a1 hR) ⟨(mr_cB 2 (hts (Cond.code y_M_has b_M_has 3 (some .boolean)) mw_353) (hts (Cond.initialized y_M_has.cls) mw_354) (hts (Cond.methodLink "MeasureRowsLaw" 15 y_M_has) mw_355) rfl rfl (by decide +kernel) ⟨Nat.le_of_ble_eq_true rfl, Nat.le_of_ble_eq_true rfl⟩), (hts (Cond.instanceMethod y_M_has) mw_356), (hts (Cond.selects "MeasureRows" y_M_has y_M_has) mw_357)⟩ (mr_preV (ws := ([((r 0), .inr (0, mf_M r (nI n) nw pb lc)), ((r 1), .inr (1, [.ref (r 2), .ref (r 3)])), ((r 2), .inl (cI, 8, .inl fm)), ((r 3), .inl (cI, 8, .inl fi)), ((r 4), .inl (cR, 80, .inr (.inr (.inr (.inr fr))))), ((r 5), .inl (cI, 80, .inl fl)), ((r 6), .inl (cI, 80, .inl fc)), ((r 7), .inl (cI, 8, .inl fg))] : va_W) ++ va_pl L f) hBH hK (fun k y h => hP (k + 1) y h) (ci := 0) (q0 := 0) rfl rfl) rfl hl.1 rfl (Nat.le_of_ble_eq_true rfl) d_L_has_5 ⟨Nat.le_of_ble_eq_true rfl, Nat.le_of_ble_eq_true rfl⟩ (fun r9 h9 => ?_) (fun E9 hE => ?_)
  · obtain ⟨hk0, rfl⟩ := h9
    refine W.widen (k := 1) (n := 6) (Nat.le_of_ble_eq_true rfl) (Nat.le_of_ble_eq_true rfl) ?_
    refine lv_if_eq (tgt := 15) hx hb d_L_has_8 (by decide) (fun c_1 => ?_) (fun c_1 => ?_)
    · refine lv_lconst (v := 0) hx hb d_L_has_15 (by decide) ?_
      refine va_last (D := (dC, dI)) hx hb hK hP hD hS 0 2 rfl rfl (i := 0) (by unfold vp_in; decide) d_L_has_16 (fun H locs hP hD hS => ?_)
      have hP : va_P (dC, dI) mr_cl (([(o, .inl (cL, 1, .inr (.inl (vp_updL fo (0 : Int32).toNatClampNeg 0)))), ((r 0), .inr (0, mf_M r (nI n) nw pb lc)), ((r 1), .inr (1, [.ref (r 2), .ref (r 3)])), ((r 2), .inl (cI, 8, .inl fm)), ((r 3), .inl (cI, 8, .inl fi)), ((r 4), .inl (cR, 80, .inr (.inr (.inr (.inr fr))))), ((r 5), .inl (cI, 80, .inl fl)), ((r 6), .inl (cI, 80, .inl fc)), ((r 7), .inl (cI, 8, .inl fg))] : va_W) ++ va_pl L f) H := hP
      have hD : va_D A (([(o, .inl (cL, 1, .inr (.inl (vp_updL fo (0 : Int32).toNatClampNeg 0)))), ((r 0), .inr (0, mf_M r (nI n) nw pb lc)), ((r 1), .inr (1, [.ref (r 2), .ref (r 3)])), ((r 2), .inl (cI, 8, .inl fm)), ((r 3), .inl (cI, 8, .inl fi)), ((r 4), .inl (cR, 80, .inr (.inr (.inr (.inr fr))))), ((r 5), .inl (cI, 80, .inl fl)), ((r 6), .inl (cI, 80, .inl fc)), ((r 7), .inl (cI, 8, .inl fg))] : va_W) ++ va_pl L f) := hD
      have hBH := hB.at hS hA0
      refine lv_goto (tgt := 24) hx hb d_L_has_17 (by decide) ?_
      refine lv_iconst (v := 0) hx hb d_L_has_24 (by decide) ?_
      have hP9 := hP
      have hD9 := hD
      exact W.iret (v := 0) hx hb hr (fun t ht hW => ⟨⟨_, (vp_updL fo (0 : Int32).toNatClampNeg 0), rfl, ⟨hk0.symm, fun _ => by rw [if_pos c_1]; rfl⟩, by rw [ht]; exact hP9, va_K.moved hW.alike hK, hD9⟩, hS.F ht⟩) hS.2.2 d_L_has_25
    · refine lv_lconst (v := 1) hx hb d_L_has_11 (by decide) ?_
      refine lv_goto (tgt := 16) hx hb d_L_has_12 (by decide) ?_
      refine va_last (D := (dC, dI)) hx hb hK hP hD hS 0 2 rfl rfl (i := 0) (by unfold vp_in; decide) d_L_has_16 (fun H locs hP hD hS => ?_)
      have hP : va_P (dC, dI) mr_cl (([(o, .inl (cL, 1, .inr (.inl (vp_updL fo (0 : Int32).toNatClampNeg 1)))), ((r 0), .inr (0, mf_M r (nI n) nw pb lc)), ((r 1), .inr (1, [.ref (r 2), .ref (r 3)])), ((r 2), .inl (cI, 8, .inl fm)), ((r 3), .inl (cI, 8, .inl fi)), ((r 4), .inl (cR, 80, .inr (.inr (.inr (.inr fr))))), ((r 5), .inl (cI, 80, .inl fl)), ((r 6), .inl (cI, 80, .inl fc)), ((r 7), .inl (cI, 8, .inl fg))] : va_W) ++ va_pl L f) H := hP
      have hD : va_D A (([(o, .inl (cL, 1, .inr (.inl (vp_updL fo (0 : Int32).toNatClampNeg 1)))), ((r 0), .inr (0, mf_M r (nI n) nw pb lc)), ((r 1), .inr (1, [.ref (r 2), .ref (r 3)])), ((r 2), .inl (cI, 8, .inl fm)), ((r 3), .inl (cI, 8, .inl fi)), ((r 4), .inl (cR, 80, .inr (.inr (.inr (.inr fr))))), ((r 5), .inl (cI, 80, .inl fl)), ((r 6), .inl (cI, 80, .inl fc)), ((r 7), .inl (cI, 8, .inl fg))] : va_W) ++ va_pl L f) := hD
      have hBH := hB.at hS hA0
      refine lv_goto (tgt := 24) hx hb d_L_has_17 (by decide) ?_
      refine lv_iconst (v := 0) hx hb d_L_has_24 (by decide) ?_
      have hP9 := hP
      have hD9 := hD
      exact W.iret (v := 0) hx hb hr (fun t ht hW => ⟨⟨_, (vp_updL fo (0 : Int32).toNatClampNeg 1), rfl, ⟨hk0.symm, fun _ => by rw [if_neg c_1]; rfl⟩, by rw [ht]; exact hP9, va_K.moved hW.alike hK, hD9⟩, hS.F ht⟩) hS.2.2 d_L_has_25
  · obtain ⟨rfl, hkE⟩ := hE
    refine ⟨20, ⟨[], [], x0, mr_iob, ht0, s0c, mr_cov s0a s0b (by decide), by rw [s0d]; decide, (by rw [s0d]; exact (hts (Cond.classLink "MeasureRowsLaw" 13 mr_iob) mw_351)), (hts (Cond.castable mr_iob mr_iob) mw_352), (fun y hy => nomatch hy)⟩, fun q9 H1 hz hk1 => ?_⟩
    have hS : va_S A s.heap H1 [] := ⟨Nat.le_trans hS.1 hz, fun a h1 h2 => (hk1 a (Nat.lt_of_lt_of_le h1 hS.1)).trans (hS.2.1 a h1 h2), hS.2.2⟩
    have hP := hP.kept (fun k x hx => hk1 x.1 (hP k x hx).lt)
    generalize H1 = H at hP hS ⊢
    refine W.widen (k := 1) (n := 6) (Nat.le_of_ble_eq_true rfl) (Nat.le_of_ble_eq_true rfl) ?_
    refine lv_astore (lv' := [(4, .ref q9), (0, .ref (r 0)), (1, .int a0), (2, .int a1), (3, .ref o)]) hx hb d_L_has_20 hl (by decide) rfl (fun ls hl => ?_)
    refine lv_iconst (v := 1) hx hb d_L_has_22 (by decide) ?_
    have hP9 := hP
    have hD9 := hD
    exact W.iret (v := 1) hx hb hr (fun t ht hW => ⟨⟨_, fo, rfl, ⟨hkE.symm, fun h => absurd (hkE.symm.trans h) (by decide)⟩, by rw [ht]; exact hP9, va_K.moved hW.alike hK, hD9⟩, hS.F ht⟩) hS.2.2 d_L_has_23
