theorem mw_380 : Cond.code y_M_row b_M_row 9 (some .int) ∈ lw_tbl := by decide +kernel
theorem mw_381 : Cond.initialized y_M_row.cls ∈ lw_tbl := by decide +kernel
theorem mw_382 : Cond.methodLink "MeasureRowsLaw" 18 y_M_row ∈ lw_tbl := by decide +kernel
theorem mw_383 : Cond.instanceMethod y_M_row ∈ lw_tbl := by decide +kernel
theorem mw_384 : Cond.selects "MeasureRows" y_M_row y_M_row ∈ lw_tbl := by decide +kernel
theorem mw_385 : Cond.classLink "MeasureRowsLaw" 24 mr_ise ∈ lw_tbl := by decide +kernel
theorem mw_386 : Cond.castable mr_ise mr_ise ∈ lw_tbl := by decide +kernel
theorem mw_387 : Cond.code y_M_end b_M_end 5 (some .int) ∈ lw_tbl := by decide +kernel
theorem mw_388 : Cond.initialized y_M_end.cls ∈ lw_tbl := by decide +kernel
theorem mw_389 : Cond.methodLink "MeasureRowsLaw" 26 y_M_end ∈ lw_tbl := by decide +kernel
theorem mw_390 : Cond.instanceMethod y_M_end ∈ lw_tbl := by decide +kernel
theorem mw_391 : Cond.selects "MeasureRows" y_M_end y_M_end ∈ lw_tbl := by decide +kernel
set_option maxHeartbeats 4000000 in
set_option maxRecDepth 100000 in
theorem mc_L_row (l : Launch) (hlt : l.stackTraces = false) (s0 : State) (dC : Nat → ClassId) (dI : Nat → Nat → Nat) (cI cR cL cZ : ClassId) (r : Nat → Nat) (n : Nat) (nw pb lc : Int32) (fm fi : Nat → Int32) (fr : Nat → Option Nat) (fl fc fg : Nat → Int32) (L : List Nat) (f : Nat → va_E) (o : Nat) (fo : Nat → Int64) (sz : Nat) (a0 : Int32) (a1 : Int32) (a2 : Int32) (a3 : Int32) (a4 : Int32) (a5 : Int32) (a6 : Int32) (hR : mr_RI cI n L f fr) : Met l y_L_row [Cond.codeWith y_L_row b_L_row 10 (some .int) [(0, 20, 23, 22), (0, 20, 27, 24)]] ({ frames := 7, cells := 3, slots := 27, locals := 120 }) (mr_PC s0 (dC, dI) [(cI, .int), (cR, .object "MeasureRows$Row"), (cL, .long), (cZ, .boolean)] [.ref (r 0), .int a0, .int a1, .int a2, .int a3, .int a4, .int a5, .int a6, .ref o] ([(o, .inl (cL, 1, .inr (.inl fo))), ((r 0), .inr (0, mf_M r (nI n) nw pb lc)), ((r 1), .inr (1, [.ref (r 2), .ref (r 3)])), ((r 2), .inl (cI, 8, .inl fm)), ((r 3), .inl (cI, 8, .inl fi)), ((r 4), .inl (cR, 80, .inr (.inr (.inr (.inr fr))))), ((r 5), .inl (cI, 80, .inl fl)), ((r 6), .inl (cI, 80, .inl fc)), ((r 7), .inl (cI, 8, .inl fg))] ++ va_pl L f) sz) (va_Qi (fun _ _ => True) (fun (u : Nat → Int64) t => ∃ (n9 : Nat) (nw9 : Int32) (fr9 : Nat → Option Nat) (L9 : List Nat) (f9 : Nat → va_E), mr_RI cI n9 L9 f9 fr9 ∧ mr_W (dC, dI) [(cI, .int), (cR, .object "MeasureRows$Row"), (cL, .long), (cZ, .boolean)] (va_A ([(o, .inl (cL, 1, .inr (.inl fo))), ((r 0), .inr (0, mf_M r (nI n) nw pb lc)), ((r 1), .inr (1, [.ref (r 2), .ref (r 3)])), ((r 2), .inl (cI, 8, .inl fm)), ((r 3), .inl (cI, 8, .inl fi)), ((r 4), .inl (cR, 80, .inr (.inr (.inr (.inr fr))))), ((r 5), .inl (cI, 80, .inl fl)), ((r 6), .inl (cI, 80, .inl fc)), ((r 7), .inl (cI, 8, .inl fg))] ++ va_pl L f) sz) ([(o, .inl (cL, 1, .inr (.inl u))), ((r 0), .inr (0, mf_M r (nI n9) nw9 pb lc)), ((r 1), .inr (1, [.ref (r 2), .ref (r 3)])), ((r 2), .inl (cI, 8, .inl fm)), ((r 3), .inl (cI, 8, .inl fi)), ((r 4), .inl (cR, 80, .inr (.inr (.inr (.inr fr9))))), ((r 5), .inl (cI, 80, .inl fl)), ((r 6), .inl (cI, 80, .inl fc)), ((r 7), .inl (cI, 8, .inl fg))] ++ va_pl L9 f9) t) (va_A ([(o, .inl (cL, 1, .inr (.inl fo))), ((r 0), .inr (0, mf_M r (nI n) nw pb lc)), ((r 1), .inr (1, [.ref (r 2), .ref (r 3)])), ((r 2), .inl (cI, 8, .inl fm)), ((r 3), .inl (cI, 8, .inl fi)), ((r 4), .inl (cR, 80, .inr (.inr (.inr (.inr fr))))), ((r 5), .inl (cI, 80, .inl fl)), ((r 6), .inl (cI, 80, .inl fc)), ((r 7), .inl (cI, 8, .inl fg))] ++ va_pl L f) sz)) 3 27 (va_A ([(o, .inl (cL, 1, .inr (.inl fo))), ((r 0), .inr (0, mf_M r (nI n) nw pb lc)), ((r 1), .inr (1, [.ref (r 2), .ref (r 3)])), ((r 2), .inl (cI, 8, .inl fm)), ((r 3), .inl (cI, 8, .inl fi)), ((r 4), .inl (cR, 80, .inr (.inr (.inr (.inr fr))))), ((r 5), .inl (cI, 80, .inl fl)), ((r 6), .inl (cI, 80, .inl fc)), ((r 7), .inl (cI, 8, .inl fg))] ++ va_pl L f) sz) := by
  refine mr_ofH (cc := b_L_row) (maxL := 10) (ret := (some .int)) (by decide) ?_
  intro p e s m args below meth c s₁ B hml htab hv
  obtain ⟨rfl, hsz, hB, hK, hP, hD0⟩ := hv
  subst hsz
  have hA0 := mr_A hB hD0
  have hD := hD0.self (sz := s.heap.size)
  generalize hAe : va_A ([(o, .inl (cL, 1, .inr (.inl fo))), ((r 0), .inr (0, mf_M r (nI n) nw pb lc)), ((r 1), .inr (1, [.ref (r 2), .ref (r 3)])), ((r 2), .inl (cI, 8, .inl fm)), ((r 3), .inl (cI, 8, .inl fi)), ((r 4), .inl (cR, 80, .inr (.inr (.inr (.inr fr))))), ((r 5), .inl (cI, 80, .inl fl)), ((r 6), .inl (cI, 80, .inl fc)), ((r 7), .inl (cI, 8, .inl fg))] ++ va_pl L f) s.heap.size = A at hD hA0 ⊢
  have hA : ∀ q : Nat, s.heap.size ≤ q → A q := fun q h => by rw [← hAe]; exact Or.inr h
  have hS : va_S A s.heap s.heap [] := va_S.rf
  have hP : va_P (dC, dI) mr_cl ([(o, .inl (cL, 1, .inr (.inl fo))), ((r 0), .inr (0, mf_M r (nI n) nw pb lc)), ((r 1), .inr (1, [.ref (r 2), .ref (r 3)])), ((r 2), .inl (cI, 8, .inl fm)), ((r 3), .inl (cI, 8, .inl fi)), ((r 4), .inl (cR, 80, .inr (.inr (.inr (.inr fr))))), ((r 5), .inl (cI, 80, .inl fl)), ((r 6), .inl (cI, 80, .inl fc)), ((r 7), .inl (cI, 8, .inl fg))] ++ va_pl L f) s.heap := hP
  have hBH := hB.at hS hA0
  have hx := B.exec
  have hb := B.bytes
  have hr := B.returns
  have hlocks := B.notSynchronized
  have hts : ∀ w ∈ lw_tbl, w.before [.ref (r 0), .int a0, .int a1, .int a2, .int a3, .int a4, .int a5, .int a6, .ref o].toArray s = true := hB.hts _
  have hown : s.vm.findClass "MeasureRowsLaw" = some m.cls := findClass_of_methodNamed B.named
  have hl := lv_entry ([.ref (r 0), .int a0, .int a1, .int a2, .int a3, .int a4, .int a5, .int a6, .ref o]) (n := 10) (Nat.le_of_ble_eq_true rfl)
  rw [lg_entry_eq]
  generalize (lg_sl ([.ref (r 0), .int a0, .int a1, .int a2, .int a3, .int a4, .int a5, .int a6, .ref o]) ++ List.replicate (10 - (lg_sl ([.ref (r 0), .int a0, .int a1, .int a2, .int a3, .int a4, .int a5, .int a6, .ref o])).length) Slot.unset).toArray = ls at hl ⊢
  have hl : lv_has ls 10 [(0, .ref (r 0)), (1, .int a0), (2, .int a1), (3, .int a2), (4, .int a3), (5, .int a4), (6, .int a5), (7, .int a6), (8, .ref o)] := hl
  obtain ⟨x0, x1, ht0, ⟨s0a, s0b, s0c, s0d⟩, s1a, s1b, s1c, s1d⟩ := mr_tab2 htab
  refine lv_aload hx hb d_L_row_0 (lv_at hl 8 rfl) ?_
  refine lv_iconst (v := 0) hx hb d_L_row_2 (by decide) ?_
  refine lv_aload_n hx hb d_L_row_3 rfl (lv_at hl 0 rfl) ?_
  refine lv_iload_n hx hb d_L_row_4 rfl (lv_at hl 1 rfl) ?_
  refine lv_iload_n hx hb d_L_row_5 rfl (lv_at hl 2 rfl) ?_
  refine lv_iload_n hx hb d_L_row_6 rfl (lv_at hl 3 rfl) ?_
  refine lv_iload hx hb d_L_row_7 (lv_at hl 4 rfl) ?_
  refine lv_iload hx hb d_L_row_9 (lv_at hl 5 rfl) ?_
  refine lv_iload hx hb d_L_row_11 (lv_at hl 6 rfl) ?_
  refine lv_iload hx hb d_L_row_13 (lv_at hl 7 rfl) ?_
  have hPc : va_P (dC, dI) mr_cl ([((r 0), .inr (0, mf_M r (nI n) nw pb lc)), ((r 1), .inr (1, [.ref (r 2), .ref (r 3)])), ((r 2), .inl (cI, 8, .inl fm)), ((r 3), .inl (cI, 8, .inl fi)), ((r 4), .inl (cR, 80, .inr (.inr (.inr (.inr fr))))), ((r 5), .inl (cI, 80, .inl fl)), ((r 6), .inl (cI, 80, .inl fc)), ((r 7), .inl (cI, 8, .inl fg))] ++ va_pl L f) s.heap := fun k y h => hP (k + 1) y h
  have hDc : va_D A ([((r 0), .inr (0, mf_M r (nI n) nw pb lc)), ((r 1), .inr (1, [.ref (r 2), .ref (r 3)])), ((r 2), .inl (cI, 8, .inl fm)), ((r 3), .inl (cI, 8, .inl fi)), ((r 4), .inl (cR, 80, .inr (.inr (.inr (.inr fr))))), ((r 5), .inl (cI, 80, .inl fl)), ((r 6), .inl (cI, 80, .inl fc)), ((r 7), .inl (cI, 8, .inl fg))] ++ va_pl L f) := ⟨fun i j p q h1 h2 h => Nat.succ.inj (hD.1 (i + 1) (j + 1) p q h1 h2 h), fun k q h => hD.2 (k + 1) q h⟩
  have hFc : ∀ q : Nat, va_A ([((r 0), .inr (0, mf_M r (nI n) nw pb lc)), ((r 1), .inr (1, [.ref (r 2), .ref (r 3)])), ((r 2), .inl (cI, 8, .inl fm)), ((r 3), .inl (cI, 8, .inl fi)), ((r 4), .inl (cR, 80, .inr (.inr (.inr (.inr fr))))), ((r 5), .inl (cI, 80, .inl fl)), ((r 6), .inl (cI, 80, .inl fc)), ((r 7), .inl (cI, 8, .inl fg))] ++ va_pl L f) s.heap.size q → A q := fun q h => h.elim (fun ⟨k, e, h⟩ => hD.2 (k + 1) (q, e) h) (fun h => hA q h)
  refine mr_callVw (As := [.int a0, .int a1, .int a2, .int a3, .int a4, .int a5, .int a6]) (rest := [.int 0, .ref o]) (C := R_M) ⟨hx, hb, hml, hown, hts⟩ (mc_M_row l hlt s0 dC dI cI cR cL cZ r n nw pb lc fm fi fr fl fc fg L f _ a0 a1 a2 a3 a4 a5 a6 hR) ⟨(mr_cB 7 (hts (Cond.code y_M_row b_M_row 9 (some .int)) mw_380) (hts (Cond.initialized y_M_row.cls) mw_381) (hts (Cond.methodLink "MeasureRowsLaw" 18 y_M_row) mw_382) rfl rfl (by decide +kernel) ⟨Nat.le_of_ble_eq_true rfl, Nat.le_of_ble_eq_true rfl⟩), (hts (Cond.instanceMethod y_M_row) mw_383), (hts (Cond.selects "MeasureRows" y_M_row y_M_row) mw_384)⟩ (mr_preCV hBH hK hPc (hDc.weaken (fun _ _ _ h => hA0 _ h)) (ci := 0) (q0 := 0) rfl rfl) rfl hl.1 rfl (Nat.le_of_ble_eq_true rfl) d_L_row_15 ⟨Nat.le_of_ble_eq_true rfl, Nat.le_of_ble_eq_true rfl⟩ hS (fun q _ h => hFc q h) hFc (fun r9 u9 t H1 locs ht hvm hw hB1 hz1 hk1 hS => ?_) (fun E9 hE => ?_)
  · obtain ⟨n9, nw9, fr9, L9, f9, hR9, hP1, hK1, hD1⟩ := hB1
    rw [ht] at hP1
    obtain ⟨hP, hD⟩ := mr_tl hP hD hk1 hFc hP1 hD1
    clear hK1 hk1 hPc hDc hFc
    generalize H1 = H at hP hS ht ⊢
    have hP : va_P (dC, dI) mr_cl ([(o, .inl (cL, 1, .inr (.inl fo))), ((r 0), .inr (0, mf_M r (nI n9) nw9 pb lc)), ((r 1), .inr (1, [.ref (r 2), .ref (r 3)])), ((r 2), .inl (cI, 8, .inl fm)), ((r 3), .inl (cI, 8, .inl fi)), ((r 4), .inl (cR, 80, .inr (.inr (.inr (.inr fr9))))), ((r 5), .inl (cI, 80, .inl fl)), ((r 6), .inl (cI, 80, .inl fc)), ((r 7), .inl (cI, 8, .inl fg))] ++ va_pl L9 f9) H := hP
    have hD : va_D A ([(o, .inl (cL, 1, .inr (.inl fo))), ((r 0), .inr (0, mf_M r (nI n9) nw9 pb lc)), ((r 1), .inr (1, [.ref (r 2), .ref (r 3)])), ((r 2), .inl (cI, 8, .inl fm)), ((r 3), .inl (cI, 8, .inl fi)), ((r 4), .inl (cR, 80, .inr (.inr (.inr (.inr fr9))))), ((r 5), .inl (cI, 80, .inl fl)), ((r 6), .inl (cI, 80, .inl fc)), ((r 7), .inl (cI, 8, .inl fg))] ++ va_pl L9 f9) := hD
    have hBH := hB.at hS hA0
    have hBH := hB.at hS hA0
    refine W.widen (k := 3) (n := 27) (Nat.le_of_ble_eq_true rfl) (Nat.le_of_ble_eq_true rfl) ?_
    refine lv_i2l (v := r9.toInt64) hx hb d_L_row_18 rfl ?_
    refine va_last (D := (dC, dI)) hx hb hK hP hD hS 0 2 rfl rfl (i := 0) (by unfold vp_in; decide) d_L_row_19 (fun H locs hP hD hS => ?_)
    have hP : va_P (dC, dI) mr_cl ([(o, .inl (cL, 1, .inr (.inl (vp_updL fo (0 : Int32).toNatClampNeg r9.toInt64)))), ((r 0), .inr (0, mf_M r (nI n9) nw9 pb lc)), ((r 1), .inr (1, [.ref (r 2), .ref (r 3)])), ((r 2), .inl (cI, 8, .inl fm)), ((r 3), .inl (cI, 8, .inl fi)), ((r 4), .inl (cR, 80, .inr (.inr (.inr (.inr fr9))))), ((r 5), .inl (cI, 80, .inl fl)), ((r 6), .inl (cI, 80, .inl fc)), ((r 7), .inl (cI, 8, .inl fg))] ++ va_pl L9 f9) H := hP
    have hD : va_D A ([(o, .inl (cL, 1, .inr (.inl (vp_updL fo (0 : Int32).toNatClampNeg r9.toInt64)))), ((r 0), .inr (0, mf_M r (nI n9) nw9 pb lc)), ((r 1), .inr (1, [.ref (r 2), .ref (r 3)])), ((r 2), .inl (cI, 8, .inl fm)), ((r 3), .inl (cI, 8, .inl fi)), ((r 4), .inl (cR, 80, .inr (.inr (.inr (.inr fr9))))), ((r 5), .inl (cI, 80, .inl fl)), ((r 6), .inl (cI, 80, .inl fc)), ((r 7), .inl (cI, 8, .inl fg))] ++ va_pl L9 f9) := hD
    have hBH := hB.at hS hA0
    refine lv_goto (tgt := 31) hx hb d_L_row_20 (by decide) ?_
    refine lv_iconst (v := 0) hx hb d_L_row_31 (by decide) ?_
    have hP9 := hP
    have hD9 := hD
    exact W.iret (v := 0) hx hb hr (fun t ht hW => ⟨⟨_, (vp_updL fo (0 : Int32).toNatClampNeg r9.toInt64), rfl, trivial, n9, nw9, fr9, L9, f9, hR9, by rw [ht]; exact hP9, va_K.moved hW.alike hK, hD9⟩, hS.F ht⟩) hS.2.2 d_L_row_32
  · rcases hE with rfl | rfl
    · refine ⟨23, ⟨[], [x1], x0, mr_iae, ht0, s0c, mr_cov s0a s0b (by decide), by rw [s0d]; decide, (by rw [s0d]; exact (hts (Cond.classLink "MeasureRowsLaw" 22 mr_iae) mw_363)), (hts (Cond.castable mr_iae mr_iae) mw_364), (fun y hy => nomatch hy)⟩, fun q9 H1 hz hk1 => ?_⟩
      have hS : va_S A s.heap H1 [] := ⟨Nat.le_trans hS.1 hz, fun a h1 h2 => (hk1 a (Nat.lt_of_lt_of_le h1 hS.1)).trans (hS.2.1 a h1 h2), hS.2.2⟩
      have hP := hP.kept (fun k x hx => hk1 x.1 (hP k x hx).lt)
      generalize H1 = H at hP hS ⊢
      refine W.widen (k := 3) (n := 27) (Nat.le_of_ble_eq_true rfl) (Nat.le_of_ble_eq_true rfl) ?_
      refine lv_astore (lv' := [(9, .ref q9), (0, .ref (r 0)), (1, .int a0), (2, .int a1), (3, .int a2), (4, .int a3), (5, .int a4), (6, .int a5), (7, .int a6), (8, .ref o)]) hx hb d_L_row_23 hl (by decide) rfl (fun ls hl => ?_)
      refine lv_iconst (v := 1) hx hb d_L_row_25 (by decide) ?_
      have hP9 := hP
      have hD9 := hD
      exact W.iret (v := 1) hx hb hr (fun t ht hW => ⟨⟨_, fo, rfl, trivial, n, nw, fr, L, f, hR, by rw [ht]; exact hP9, va_K.moved hW.alike hK, hD9⟩, hS.F ht⟩) hS.2.2 d_L_row_26
    · refine ⟨27, ⟨[x0], [], x1, mr_ise, ht0, s1c, mr_cov s1a s1b (by decide), by rw [s1d]; decide, (by rw [s1d]; exact (hts (Cond.classLink "MeasureRowsLaw" 24 mr_ise) mw_385)), (hts (Cond.castable mr_ise mr_ise) mw_386), (fun y hy => by rw [List.mem_singleton.mp hy]; exact ⟨mr_cov s0a s0b (by decide), by rw [s0d]; decide, _, (by rw [s0d]; exact (hts (Cond.classLink "MeasureRowsLaw" 22 mr_iae) mw_363)), hB.nc.1⟩)⟩, fun q9 H1 hz hk1 => ?_⟩
      have hS : va_S A s.heap H1 [] := ⟨Nat.le_trans hS.1 hz, fun a h1 h2 => (hk1 a (Nat.lt_of_lt_of_le h1 hS.1)).trans (hS.2.1 a h1 h2), hS.2.2⟩
      have hP := hP.kept (fun k x hx => hk1 x.1 (hP k x hx).lt)
      generalize H1 = H at hP hS ⊢
      refine W.widen (k := 3) (n := 27) (Nat.le_of_ble_eq_true rfl) (Nat.le_of_ble_eq_true rfl) ?_
      refine lv_astore (lv' := [(9, .ref q9), (0, .ref (r 0)), (1, .int a0), (2, .int a1), (3, .int a2), (4, .int a3), (5, .int a4), (6, .int a5), (7, .int a6), (8, .ref o)]) hx hb d_L_row_27 hl (by decide) rfl (fun ls hl => ?_)
      refine lv_iconst (v := 2) hx hb d_L_row_29 (by decide) ?_
      have hP9 := hP
      have hD9 := hD
      exact W.iret (v := 2) hx hb hr (fun t ht hW => ⟨⟨_, fo, rfl, trivial, n, nw, fr, L, f, hR, by rw [ht]; exact hP9, va_K.moved hW.alike hK, hD9⟩, hS.F ht⟩) hS.2.2 d_L_row_30
set_option maxHeartbeats 4000000 in
set_option maxRecDepth 100000 in
theorem mc_L_end (l : Launch) (hlt : l.stackTraces = false) (s0 : State) (dC : Nat → ClassId) (dI : Nat → Nat → Nat) (cI cR cL cZ : ClassId) (r : Nat → Nat) (n : Nat) (nw pb lc : Int32) (fm fi : Nat → Int32) (fr : Nat → Option Nat) (fl fc fg : Nat → Int32) (L : List Nat) (f : Nat → va_E) (o : Nat) (fo : Nat → Int64) (sz : Nat) (a0 : Int32) (a1 : Int32) (a2 : Int32) (hR : mr_RI cI n L f fr) : Met l y_L_end [Cond.codeWith y_L_end b_L_end 6 (some .int) [(0, 12, 15, 13), (0, 12, 19, 22), (0, 12, 23, 24)]] ({ frames := 7, cells := 1, slots := 6, locals := 116 }) (mr_PC s0 (dC, dI) [(cI, .int), (cR, .object "MeasureRows$Row"), (cL, .long), (cZ, .boolean)] [.ref (r 0), .int a0, .int a1, .int a2, .ref o] ([(o, .inl (cL, 1, .inr (.inl fo))), ((r 0), .inr (0, mf_M r (nI n) nw pb lc)), ((r 1), .inr (1, [.ref (r 2), .ref (r 3)])), ((r 2), .inl (cI, 8, .inl fm)), ((r 3), .inl (cI, 8, .inl fi)), ((r 4), .inl (cR, 80, .inr (.inr (.inr (.inr fr))))), ((r 5), .inl (cI, 80, .inl fl)), ((r 6), .inl (cI, 80, .inl fc)), ((r 7), .inl (cI, 8, .inl fg))] ++ va_pl L f) sz) (va_Qi (fun _ _ => True) (fun (u : Nat → Int64) t => ∃ (nw9 : Int32) (f9 : Nat → va_E), mr_RI cI n L f9 fr ∧ mr_W (dC, dI) [(cI, .int), (cR, .object "MeasureRows$Row"), (cL, .long), (cZ, .boolean)] (va_A ([(o, .inl (cL, 1, .inr (.inl fo))), ((r 0), .inr (0, mf_M r (nI n) nw pb lc)), ((r 1), .inr (1, [.ref (r 2), .ref (r 3)])), ((r 2), .inl (cI, 8, .inl fm)), ((r 3), .inl (cI, 8, .inl fi)), ((r 4), .inl (cR, 80, .inr (.inr (.inr (.inr fr))))), ((r 5), .inl (cI, 80, .inl fl)), ((r 6), .inl (cI, 80, .inl fc)), ((r 7), .inl (cI, 8, .inl fg))] ++ va_pl L f) sz) ([(o, .inl (cL, 1, .inr (.inl u))), ((r 0), .inr (0, mf_M r (nI n) nw9 pb lc)), ((r 1), .inr (1, [.ref (r 2), .ref (r 3)])), ((r 2), .inl (cI, 8, .inl fm)), ((r 3), .inl (cI, 8, .inl fi)), ((r 4), .inl (cR, 80, .inr (.inr (.inr (.inr fr))))), ((r 5), .inl (cI, 80, .inl fl)), ((r 6), .inl (cI, 80, .inl fc)), ((r 7), .inl (cI, 8, .inl fg))] ++ va_pl L f9) t) (va_A ([(o, .inl (cL, 1, .inr (.inl fo))), ((r 0), .inr (0, mf_M r (nI n) nw pb lc)), ((r 1), .inr (1, [.ref (r 2), .ref (r 3)])), ((r 2), .inl (cI, 8, .inl fm)), ((r 3), .inl (cI, 8, .inl fi)), ((r 4), .inl (cR, 80, .inr (.inr (.inr (.inr fr))))), ((r 5), .inl (cI, 80, .inl fl)), ((r 6), .inl (cI, 80, .inl fc)), ((r 7), .inl (cI, 8, .inl fg))] ++ va_pl L f) sz)) 1 6 (va_A ([(o, .inl (cL, 1, .inr (.inl fo))), ((r 0), .inr (0, mf_M r (nI n) nw pb lc)), ((r 1), .inr (1, [.ref (r 2), .ref (r 3)])), ((r 2), .inl (cI, 8, .inl fm)), ((r 3), .inl (cI, 8, .inl fi)), ((r 4), .inl (cR, 80, .inr (.inr (.inr (.inr fr))))), ((r 5), .inl (cI, 80, .inl fl)), ((r 6), .inl (cI, 80, .inl fc)), ((r 7), .inl (cI, 8, .inl fg))] ++ va_pl L f) sz) := by
  refine mr_ofH (cc := b_L_end) (maxL := 6) (ret := (some .int)) (by decide) ?_
  intro p e s m args below meth c s₁ B hml htab hv
  obtain ⟨rfl, hsz, hB, hK, hP, hD0⟩ := hv
  subst hsz
  have hA0 := mr_A hB hD0
  have hD := hD0.self (sz := s.heap.size)
  generalize hAe : va_A ([(o, .inl (cL, 1, .inr (.inl fo))), ((r 0), .inr (0, mf_M r (nI n) nw pb lc)), ((r 1), .inr (1, [.ref (r 2), .ref (r 3)])), ((r 2), .inl (cI, 8, .inl fm)), ((r 3), .inl (cI, 8, .inl fi)), ((r 4), .inl (cR, 80, .inr (.inr (.inr (.inr fr))))), ((r 5), .inl (cI, 80, .inl fl)), ((r 6), .inl (cI, 80, .inl fc)), ((r 7), .inl (cI, 8, .inl fg))] ++ va_pl L f) s.heap.size = A at hD hA0 ⊢
  have hA : ∀ q : Nat, s.heap.size ≤ q → A q := fun q h => by rw [← hAe]; exact Or.inr h
  have hS : va_S A s.heap s.heap [] := va_S.rf
  have hP : va_P (dC, dI) mr_cl ([(o, .inl (cL, 1, .inr (.inl fo))), ((r 0), .inr (0, mf_M r (nI n) nw pb lc)), ((r 1), .inr (1, [.ref (r 2), .ref (r 3)])), ((r 2), .inl (cI, 8, .inl fm)), ((r 3), .inl (cI, 8, .inl fi)), ((r 4), .inl (cR, 80, .inr (.inr (.inr (.inr fr))))), ((r 5), .inl (cI, 80, .inl fl)), ((r 6), .inl (cI, 80, .inl fc)), ((r 7), .inl (cI, 8, .inl fg))] ++ va_pl L f) s.heap := hP
  have hBH := hB.at hS hA0
  have hx := B.exec
  have hb := B.bytes
  have hr := B.returns
  have hlocks := B.notSynchronized
  have hts : ∀ w ∈ lw_tbl, w.before [.ref (r 0), .int a0, .int a1, .int a2, .ref o].toArray s = true := hB.hts _
  have hown : s.vm.findClass "MeasureRowsLaw" = some m.cls := findClass_of_methodNamed B.named
  have hl := lv_entry ([.ref (r 0), .int a0, .int a1, .int a2, .ref o]) (n := 6) (Nat.le_of_ble_eq_true rfl)
  rw [lg_entry_eq]
  generalize (lg_sl ([.ref (r 0), .int a0, .int a1, .int a2, .ref o]) ++ List.replicate (6 - (lg_sl ([.ref (r 0), .int a0, .int a1, .int a2, .ref o])).length) Slot.unset).toArray = ls at hl ⊢
  have hl : lv_has ls 6 [(0, .ref (r 0)), (1, .int a0), (2, .int a1), (3, .int a2), (4, .ref o)] := hl
  obtain ⟨x0, x1, x2, ht0, ⟨s0a, s0b, s0c, s0d⟩, ⟨s1a, s1b, s1c, s1d⟩, s2a, s2b, s2c, s2d⟩ := mr_tab3 htab
  refine lv_aload hx hb d_L_end_0 (lv_at hl 4 rfl) ?_
  refine lv_iconst (v := 0) hx hb d_L_end_2 (by decide) ?_
  refine lv_aload_n hx hb d_L_end_3 rfl (lv_at hl 0 rfl) ?_
  refine lv_iload_n hx hb d_L_end_4 rfl (lv_at hl 1 rfl) ?_
  refine lv_iload_n hx hb d_L_end_5 rfl (lv_at hl 2 rfl) ?_
  refine lv_iload_n hx hb d_L_end_6 rfl (lv_at hl 3 rfl) ?_
  have hPc : va_P (dC, dI) mr_cl ([((r 0), .inr (0, mf_M r (nI n) nw pb lc)), ((r 1), .inr (1, [.ref (r 2), .ref (r 3)])), ((r 2), .inl (cI, 8, .inl fm)), ((r 3), .inl (cI, 8, .inl fi)), ((r 4), .inl (cR, 80, .inr (.inr (.inr (.inr fr))))), ((r 5), .inl (cI, 80, .inl fl)), ((r 6), .inl (cI, 80, .inl fc)), ((r 7), .inl (cI, 8, .inl fg))] ++ va_pl L f) s.heap := fun k y h => hP (k + 1) y h
  have hDc : va_D A ([((r 0), .inr (0, mf_M r (nI n) nw pb lc)), ((r 1), .inr (1, [.ref (r 2), .ref (r 3)])), ((r 2), .inl (cI, 8, .inl fm)), ((r 3), .inl (cI, 8, .inl fi)), ((r 4), .inl (cR, 80, .inr (.inr (.inr (.inr fr))))), ((r 5), .inl (cI, 80, .inl fl)), ((r 6), .inl (cI, 80, .inl fc)), ((r 7), .inl (cI, 8, .inl fg))] ++ va_pl L f) := ⟨fun i j p q h1 h2 h => Nat.succ.inj (hD.1 (i + 1) (j + 1) p q h1 h2 h), fun k q h => hD.2 (k + 1) q h⟩
  have hFc : ∀ q : Nat, va_A ([((r 0), .inr (0, mf_M r (nI n) nw pb lc)), ((r 1), .inr (1, [.ref (r 2), .ref (r 3)])), ((r 2), .inl (cI, 8, .inl fm)), ((r 3), .inl (cI, 8, .inl fi)), ((r 4), .inl (cR, 80, .inr (.inr (.inr (.inr fr))))), ((r 5), .inl (cI, 80, .inl fl)), ((r 6), .inl (cI, 80, .inl fc)), ((r 7), .inl (cI, 8, .inl fg))] ++ va_pl L f) s.heap.size q → A q := fun q h => h.elim (fun ⟨k, e, h⟩ => hD.2 (k + 1) (q, e) h) (fun h => hA q h)
  refine mr_callVw (As := [.int a0, .int a1, .int a2]) (rest := [.int 0, .ref o]) (C := R_M) ⟨hx, hb, hml, hown, hts⟩ (mc_M_end l hlt s0 dC dI cI cR cL cZ r n nw pb lc fm fi fr fl fc fg L f _ a0 a1 a2 hR) ⟨(mr_cB 3 (hts (Cond.code y_M_end b_M_end 5 (some .int)) mw_387) (hts (Cond.initialized y_M_end.cls) mw_388) (hts (Cond.methodLink "MeasureRowsLaw" 26 y_M_end) mw_389) rfl rfl (by decide +kernel) ⟨Nat.le_of_ble_eq_true rfl, Nat.le_of_ble_eq_true rfl⟩), (hts (Cond.instanceMethod y_M_end) mw_390), (hts (Cond.selects "MeasureRows" y_M_end y_M_end) mw_391)⟩ (mr_preCV hBH hK hPc (hDc.weaken (fun _ _ _ h => hA0 _ h)) (ci := 0) (q0 := 0) rfl rfl) rfl hl.1 rfl (Nat.le_of_ble_eq_true rfl) d_L_end_7 ⟨Nat.le_of_ble_eq_true rfl, Nat.le_of_ble_eq_true rfl⟩ hS (fun q _ h => hFc q h) hFc (fun r9 u9 t H1 locs ht hvm hw hB1 hz1 hk1 hS => ?_) (fun E9 hE => ?_)
  · obtain ⟨nw9, f9⟩ := u9; obtain ⟨hR9, hP1, hK1, hD1⟩ := hB1
    rw [ht] at hP1
    obtain ⟨hP, hD⟩ := mr_tl hP hD hk1 hFc hP1 hD1
    clear hK1 hk1 hPc hDc hFc
    generalize H1 = H at hP hS ht ⊢
    have hP : va_P (dC, dI) mr_cl ([(o, .inl (cL, 1, .inr (.inl fo))), ((r 0), .inr (0, mf_M r (nI n) nw9 pb lc)), ((r 1), .inr (1, [.ref (r 2), .ref (r 3)])), ((r 2), .inl (cI, 8, .inl fm)), ((r 3), .inl (cI, 8, .inl fi)), ((r 4), .inl (cR, 80, .inr (.inr (.inr (.inr fr))))), ((r 5), .inl (cI, 80, .inl fl)), ((r 6), .inl (cI, 80, .inl fc)), ((r 7), .inl (cI, 8, .inl fg))] ++ va_pl L f9) H := hP
    have hD : va_D A ([(o, .inl (cL, 1, .inr (.inl fo))), ((r 0), .inr (0, mf_M r (nI n) nw9 pb lc)), ((r 1), .inr (1, [.ref (r 2), .ref (r 3)])), ((r 2), .inl (cI, 8, .inl fm)), ((r 3), .inl (cI, 8, .inl fi)), ((r 4), .inl (cR, 80, .inr (.inr (.inr (.inr fr))))), ((r 5), .inl (cI, 80, .inl fl)), ((r 6), .inl (cI, 80, .inl fc)), ((r 7), .inl (cI, 8, .inl fg))] ++ va_pl L f9) := hD
    have hBH := hB.at hS hA0
    have hBH := hB.at hS hA0
    refine W.widen (k := 1) (n := 6) (Nat.le_of_ble_eq_true rfl) (Nat.le_of_ble_eq_true rfl) ?_
    refine lv_i2l (v := r9.toInt64) hx hb d_L_end_10 rfl ?_
    refine va_last (D := (dC, dI)) hx hb hK hP hD hS 0 2 rfl rfl (i := 0) (by unfold vp_in; decide) d_L_end_11 (fun H locs hP hD hS => ?_)
    have hP : va_P (dC, dI) mr_cl ([(o, .inl (cL, 1, .inr (.inl (vp_updL fo (0 : Int32).toNatClampNeg r9.toInt64)))), ((r 0), .inr (0, mf_M r (nI n) nw9 pb lc)), ((r 1), .inr (1, [.ref (r 2), .ref (r 3)])), ((r 2), .inl (cI, 8, .inl fm)), ((r 3), .inl (cI, 8, .inl fi)), ((r 4), .inl (cR, 80, .inr (.inr (.inr (.inr fr))))), ((r 5), .inl (cI, 80, .inl fl)), ((r 6), .inl (cI, 80, .inl fc)), ((r 7), .inl (cI, 8, .inl fg))] ++ va_pl L f9) H := hP
    have hD : va_D A ([(o, .inl (cL, 1, .inr (.inl (vp_updL fo (0 : Int32).toNatClampNeg r9.toInt64)))), ((r 0), .inr (0, mf_M r (nI n) nw9 pb lc)), ((r 1), .inr (1, [.ref (r 2), .ref (r 3)])), ((r 2), .inl (cI, 8, .inl fm)), ((r 3), .inl (cI, 8, .inl fi)), ((r 4), .inl (cR, 80, .inr (.inr (.inr (.inr fr))))), ((r 5), .inl (cI, 80, .inl fl)), ((r 6), .inl (cI, 80, .inl fc)), ((r 7), .inl (cI, 8, .inl fg))] ++ va_pl L f9) := hD
    have hBH := hB.at hS hA0
    refine lv_goto (tgt := 27) hx hb d_L_end_12 (by decide) ?_
    refine lv_iconst (v := 0) hx hb d_L_end_27 (by decide) ?_
    have hP9 := hP
    have hD9 := hD
    exact W.iret (v := 0) hx hb hr (fun t ht hW => ⟨⟨_, (vp_updL fo (0 : Int32).toNatClampNeg r9.toInt64), rfl, trivial, nw9, f9, hR9, by rw [ht]; exact hP9, va_K.moved hW.alike hK, hD9⟩, hS.F ht⟩) hS.2.2 d_L_end_28
  · rcases hE with rfl | rfl | rfl
    · refine ⟨15, ⟨[], [x1, x2], x0, mr_iob, ht0, s0c, mr_cov s0a s0b (by decide), by rw [s0d]; decide, (by rw [s0d]; exact (hts (Cond.classLink "MeasureRowsLaw" 13 mr_iob) mw_351)), (hts (Cond.castable mr_iob mr_iob) mw_352), (fun y hy => nomatch hy)⟩, fun q9 H1 hz hk1 => ?_⟩
      have hS : va_S A s.heap H1 [] := ⟨Nat.le_trans hS.1 hz, fun a h1 h2 => (hk1 a (Nat.lt_of_lt_of_le h1 hS.1)).trans (hS.2.1 a h1 h2), hS.2.2⟩
      have hP := hP.kept (fun k x hx => hk1 x.1 (hP k x hx).lt)
      generalize H1 = H at hP hS ⊢
      refine W.widen (k := 1) (n := 6) (Nat.le_of_ble_eq_true rfl) (Nat.le_of_ble_eq_true rfl) ?_
      refine lv_astore (lv' := [(5, .ref q9), (0, .ref (r 0)), (1, .int a0), (2, .int a1), (3, .int a2), (4, .ref o)]) hx hb d_L_end_15 hl (by decide) rfl (fun ls hl => ?_)
      refine lv_iconst (v := 1) hx hb d_L_end_17 (by decide) ?_
      have hP9 := hP
      have hD9 := hD
      exact W.iret (v := 1) hx hb hr (fun t ht hW => ⟨⟨_, fo, rfl, trivial, nw, f, hR, by rw [ht]; exact hP9, va_K.moved hW.alike hK, hD9⟩, hS.F ht⟩) hS.2.2 d_L_end_18
    · refine ⟨19, ⟨[x0], [x2], x1, mr_iae, ht0, s1c, mr_cov s1a s1b (by decide), by rw [s1d]; decide, (by rw [s1d]; exact (hts (Cond.classLink "MeasureRowsLaw" 22 mr_iae) mw_363)), (hts (Cond.castable mr_iae mr_iae) mw_364), (fun y hy => by rw [List.mem_singleton.mp hy]; exact ⟨mr_cov s0a s0b (by decide), by rw [s0d]; decide, _, (by rw [s0d]; exact (hts (Cond.classLink "MeasureRowsLaw" 13 mr_iob) mw_351)), hB.nc.2.1⟩)⟩, fun q9 H1 hz hk1 => ?_⟩
      have hS : va_S A s.heap H1 [] := ⟨Nat.le_trans hS.1 hz, fun a h1 h2 => (hk1 a (Nat.lt_of_lt_of_le h1 hS.1)).trans (hS.2.1 a h1 h2), hS.2.2⟩
      have hP := hP.kept (fun k x hx => hk1 x.1 (hP k x hx).lt)
      generalize H1 = H at hP hS ⊢
      refine W.widen (k := 1) (n := 6) (Nat.le_of_ble_eq_true rfl) (Nat.le_of_ble_eq_true rfl) ?_
      refine lv_astore (lv' := [(5, .ref q9), (0, .ref (r 0)), (1, .int a0), (2, .int a1), (3, .int a2), (4, .ref o)]) hx hb d_L_end_19 hl (by decide) rfl (fun ls hl => ?_)
      refine lv_iconst (v := 2) hx hb d_L_end_21 (by decide) ?_
      have hP9 := hP
      have hD9 := hD
      exact W.iret (v := 2) hx hb hr (fun t ht hW => ⟨⟨_, fo, rfl, trivial, nw, f, hR, by rw [ht]; exact hP9, va_K.moved hW.alike hK, hD9⟩, hS.F ht⟩) hS.2.2 d_L_end_22
    · refine ⟨23, ⟨[x0, x1], [], x2, mr_ise, ht0, s2c, mr_cov s2a s2b (by decide), by rw [s2d]; decide, (by rw [s2d]; exact (hts (Cond.classLink "MeasureRowsLaw" 24 mr_ise) mw_385)), (hts (Cond.castable mr_ise mr_ise) mw_386), (fun y hy => by rcases List.mem_cons.mp hy with rfl | hy2; exact ⟨mr_cov s0a s0b (by decide), by rw [s0d]; decide, _, (by rw [s0d]; exact (hts (Cond.classLink "MeasureRowsLaw" 13 mr_iob) mw_351)), hB.nc.2.2⟩; rw [List.mem_singleton.mp hy2]; exact ⟨mr_cov s1a s1b (by decide), by rw [s1d]; decide, _, (by rw [s1d]; exact (hts (Cond.classLink "MeasureRowsLaw" 22 mr_iae) mw_363)), hB.nc.1⟩)⟩, fun q9 H1 hz hk1 => ?_⟩
      have hS : va_S A s.heap H1 [] := ⟨Nat.le_trans hS.1 hz, fun a h1 h2 => (hk1 a (Nat.lt_of_lt_of_le h1 hS.1)).trans (hS.2.1 a h1 h2), hS.2.2⟩
      have hP := hP.kept (fun k x hx => hk1 x.1 (hP k x hx).lt)
      generalize H1 = H at hP hS ⊢
      refine W.widen (k := 1) (n := 6) (Nat.le_of_ble_eq_true rfl) (Nat.le_of_ble_eq_true rfl) ?_
      refine lv_astore (lv' := [(5, .ref q9), (0, .ref (r 0)), (1, .int a0), (2, .int a1), (3, .int a2), (4, .ref o)]) hx hb d_L_end_23 hl (by decide) rfl (fun ls hl => ?_)
      refine lv_iconst (v := 3) hx hb d_L_end_25 (by decide) ?_
      have hP9 := hP
      have hD9 := hD
      exact W.iret (v := 3) hx hb hr (fun t ht hW => ⟨⟨_, fo, rfl, trivial, nw, f, hR, by rw [ht]; exact hP9, va_K.moved hW.alike hK, hD9⟩, hS.F ht⟩) hS.2.2 d_L_end_26
