theorem mw_310 : Cond.constant "MeasureRowsModel" 110 65535 ∈ lw_tbl := by decide +kernel
theorem mw_311 : Cond.fieldLink "MeasureRowsModel" 111 "MeasureRowsModel" "there" "I" ∈ lw_tbl := by decide +kernel
theorem mw_312 : Cond.fieldLink "MeasureRowsModel" 124 "MeasureRowsModel" "listed" "I" ∈ lw_tbl := by decide +kernel
theorem mw_313 : Cond.fieldLink "MeasureRowsModel" 46 "MeasureRowsModel" "list" "[I" ∈ lw_tbl := by decide +kernel
theorem mw_314 : Cond.code y_D_isDay b_D_isDay 1 (some .boolean) ∈ lw_tbl := by decide +kernel
theorem mw_315 : Cond.initialized y_D_isDay.cls ∈ lw_tbl := by decide +kernel
theorem mw_316 : Cond.methodLink "MeasureRowsModel" 94 y_D_isDay ∈ lw_tbl := by decide +kernel
theorem mw_317 : Cond.static y_D_isDay ∈ lw_tbl := by decide +kernel
theorem mw_318 : Cond.code y_D_fails b_D_fails 2 (some .int) ∈ lw_tbl := by decide +kernel
theorem mw_319 : Cond.initialized y_D_fails.cls ∈ lw_tbl := by decide +kernel
theorem mw_320 : Cond.methodLink "MeasureRowsModel" 97 y_D_fails ∈ lw_tbl := by decide +kernel
theorem mw_321 : Cond.instanceMethod y_D_fails ∈ lw_tbl := by decide +kernel
theorem mw_322 : Cond.selects "MeasureRowsModel" y_D_fails y_D_fails ∈ lw_tbl := by decide +kernel
theorem mw_323 : Cond.code y_D_isOf b_D_isOf 6 (some .boolean) ∈ lw_tbl := by decide +kernel
theorem mw_324 : Cond.initialized y_D_isOf.cls ∈ lw_tbl := by decide +kernel
theorem mw_325 : Cond.methodLink "MeasureRowsModel" 120 y_D_isOf ∈ lw_tbl := by decide +kernel
theorem mw_326 : Cond.instanceMethod y_D_isOf ∈ lw_tbl := by decide +kernel
theorem mw_327 : Cond.selects "MeasureRowsModel" y_D_isOf y_D_isOf ∈ lw_tbl := by decide +kernel
set_option maxHeartbeats 4000000 in
set_option maxRecDepth 100000 in
theorem mc_D_papers (l : Launch) (s0 : State) (dC : Nat → ClassId) (dI : Nat → Nat → Nat) (cI cR cL cZ : ClassId) (r : Nat → Nat) (th nw pb lc : Int32) (n : Nat)  (sz : Nat) (a0 : Int32)  : Met l y_D_papers [Cond.code y_D_papers b_D_papers 2 none] ({ frames := 0, cells := 0, slots := 0, locals := 0 }) (mr_PC s0 (dC, dI) [(cI, .int), (cR, .object "MeasureRows$Row"), (cL, .long), (cZ, .boolean)] [.ref (r 0), .int a0] [((r 0), .inr (3, mf_D r th (nI n) nw pb lc))] sz) (va_Qv (fun _ => True) (fun (u : Unit) t => ∃ (th9 : Int32) (pb9 : Int32), mr_W (dC, dI) [(cI, .int), (cR, .object "MeasureRows$Row"), (cL, .long), (cZ, .boolean)] (va_A [((r 0), .inr (3, mf_D r th (nI n) nw pb lc))] sz) [((r 0), .inr (3, mf_D r th9 (nI n) nw pb9 lc))] t) (va_A [((r 0), .inr (3, mf_D r th (nI n) nw pb lc))] sz)) 0 0 (va_A [((r 0), .inr (3, mf_D r th (nI n) nw pb lc))] sz) := by
  refine Met.ofW (cc := b_D_papers) (maxL := 2) (ret := none) (by decide) rfl ?_
  intro p e s m args below meth c s₁ B hml hv
  obtain ⟨rfl, hsz, hB, hK, hP, hD0⟩ := hv
  subst hsz
  have hA0 := mr_A hB hD0
  have hD := hD0.self (sz := s.heap.size)
  generalize hAe : va_A [((r 0), .inr (3, mf_D r th (nI n) nw pb lc))] s.heap.size = A at hD hA0 ⊢
  have hA : ∀ q : Nat, s.heap.size ≤ q → A q := fun q h => by rw [← hAe]; exact Or.inr h
  have hS : va_S A s.heap s.heap [] := va_S.rf
  have hP : va_P (dC, dI) mr_cl [((r 0), .inr (3, mf_D r th (nI n) nw pb lc))] s.heap := hP
  have hBH := hB.at hS hA0
  have hx := B.exec
  have hb := B.bytes
  have hr := B.returns
  have hlocks := B.notSynchronized
  have hts : ∀ w ∈ lw_tbl, w.before [.ref (r 0), .int a0].toArray s = true := hB.hts _
  have hown : s.vm.findClass "MeasureRowsModel" = some m.cls := findClass_of_methodNamed B.named
  have hl := lv_entry ([.ref (r 0), .int a0]) (n := 2) (Nat.le_of_ble_eq_true rfl)
  rw [lg_entry_eq]
  generalize (lg_sl ([.ref (r 0), .int a0]) ++ List.replicate (2 - (lg_sl ([.ref (r 0), .int a0])).length) Slot.unset).toArray = ls at hl ⊢
  have hl : lv_has ls 2 [(0, .ref (r 0)), (1, .int a0)] := hl
  refine lv_aload_n hx hb d_D_papers_0 rfl (lv_at hl 0 rfl) ?_
  refine lv_iconst (v := 0) hx hb d_D_papers_1 (by decide) ?_
  refine va_put (D := (dC, dI)) (ci := 3) (v := .int 0) (ty := .int) (C := R_D) (T := T_D) (N := 19) hx hb hts ti_D t_D to_D tn_D hown hK hP hD hS 0 rfl rfl 0 (by decide) (hts (Cond.fieldLink "MeasureRowsModel" 53 "MeasureRowsModel" "thrown" "I") mw_295) (fun _ h9 => h9) rfl (by decide +kernel) rfl rfl (Nat.le_of_ble_eq_true rfl) d_D_papers_2 (fun H locs hP hD hS => ?_)
  have hP : va_P (dC, dI) mr_cl [((r 0), .inr (3, mf_D r 0 (nI n) nw pb lc))] H := hP
  have hD : va_D A [((r 0), .inr (3, mf_D r 0 (nI n) nw pb lc))] := hD
  have hBH := hB.at hS hA0
  refine lv_aload_n hx hb d_D_papers_5 rfl (lv_at hl 0 rfl) ?_
  refine lv_iload_n hx hb d_D_papers_6 rfl (lv_at hl 1 rfl) ?_
  refine lv_ldc (v := 65535) hx hb hown (hts (Cond.constant "MeasureRowsModel" 110 65535) mw_310) d_D_papers_7 ?_
  refine lv_iand hx hb d_D_papers_9 ?_
  refine va_put (D := (dC, dI)) (ci := 3) (v := .int (a0 &&& 65535)) (ty := .int) (C := R_D) (T := T_D) (N := 19) hx hb hts ti_D t_D to_D tn_D hown hK hP hD hS 0 rfl rfl 15 (by decide) (hts (Cond.fieldLink "MeasureRowsModel" 111 "MeasureRowsModel" "there" "I") mw_311) (fun _ h9 => h9) rfl (by decide +kernel) rfl rfl (Nat.le_of_ble_eq_true rfl) d_D_papers_10 (fun H locs hP hD hS => ?_)
  have hP : va_P (dC, dI) mr_cl [((r 0), .inr (3, mf_D r 0 (nI n) nw (a0 &&& 65535) lc))] H := hP
  have hD : va_D A [((r 0), .inr (3, mf_D r 0 (nI n) nw (a0 &&& 65535) lc))] := hD
  have hBH := hB.at hS hA0
  have hP9 := hP.sub (ws' := [((r 0), .inr (3, mf_D r 0 (nI n) nw (a0 &&& 65535) lc))]) [0] rfl
  have hD9 := hD.sub (ws' := [((r 0), .inr (3, mf_D r 0 (nI n) nw (a0 &&& 65535) lc))]) [0] (by decide) rfl
  exact W.vret hx hb hr (fun t ht hW => ⟨⟨(), rfl, trivial, 0, (a0 &&& 65535), ⟨by rw [ht]; exact hP9, va_K.moved hW.alike hK, hD9⟩⟩, hS.F ht⟩) hS.2.2 d_D_papers_13
set_option maxHeartbeats 4000000 in
set_option maxRecDepth 100000 in
theorem mc_D_at (l : Launch) (s0 : State) (dC : Nat → ClassId) (dI : Nat → Nat → Nat) (cI cR cL cZ : ClassId) (r : Nat → Nat) (th nw pb : Int32) (qc : Nat) (n : Nat) (fli : Nat → Int32)  (sz : Nat) (a0 : Int32) (hq : qc ≤ 80) : Met l y_D_at [Cond.code y_D_at b_D_at 2 (some .int)] ({ frames := 0, cells := 0, slots := 0, locals := 0 }) (mr_PC s0 (dC, dI) [(cI, .int), (cR, .object "MeasureRows$Row"), (cL, .long), (cZ, .boolean)] [.ref (r 0), .int a0] [((r 0), .inr (3, mf_D r th (nI n) nw pb (nI qc))), ((r 16), .inl (cI, 80, .inl fli))] sz) (va_Qi (fun _ _ => True) (fun (u : Unit) t => ∃ (th9 : Int32), mr_W (dC, dI) [(cI, .int), (cR, .object "MeasureRows$Row"), (cL, .long), (cZ, .boolean)] (va_A [((r 0), .inr (3, mf_D r th (nI n) nw pb (nI qc))), ((r 16), .inl (cI, 80, .inl fli))] sz) [((r 0), .inr (3, mf_D r th9 (nI n) nw pb (nI qc))), ((r 16), .inl (cI, 80, .inl fli))] t) (va_A [((r 0), .inr (3, mf_D r th (nI n) nw pb (nI qc))), ((r 16), .inl (cI, 80, .inl fli))] sz)) 0 0 (va_A [((r 0), .inr (3, mf_D r th (nI n) nw pb (nI qc))), ((r 16), .inl (cI, 80, .inl fli))] sz) := by
  refine Met.ofW (cc := b_D_at) (maxL := 2) (ret := (some .int)) (by decide) rfl ?_
  intro p e s m args below meth c s₁ B hml hv
  obtain ⟨rfl, hsz, hB, hK, hP, hD0⟩ := hv
  subst hsz
  have hA0 := mr_A hB hD0
  have hD := hD0.self (sz := s.heap.size)
  generalize hAe : va_A [((r 0), .inr (3, mf_D r th (nI n) nw pb (nI qc))), ((r 16), .inl (cI, 80, .inl fli))] s.heap.size = A at hD hA0 ⊢
  have hA : ∀ q : Nat, s.heap.size ≤ q → A q := fun q h => by rw [← hAe]; exact Or.inr h
  have hS : va_S A s.heap s.heap [] := va_S.rf
  have hP : va_P (dC, dI) mr_cl [((r 0), .inr (3, mf_D r th (nI n) nw pb (nI qc))), ((r 16), .inl (cI, 80, .inl fli))] s.heap := hP
  have hBH := hB.at hS hA0
  have hx := B.exec
  have hb := B.bytes
  have hr := B.returns
  have hlocks := B.notSynchronized
  have hts : ∀ w ∈ lw_tbl, w.before [.ref (r 0), .int a0].toArray s = true := hB.hts _
  have hown : s.vm.findClass "MeasureRowsModel" = some m.cls := findClass_of_methodNamed B.named
  have hl := lv_entry ([.ref (r 0), .int a0]) (n := 2) (Nat.le_of_ble_eq_true rfl)
  rw [lg_entry_eq]
  generalize (lg_sl ([.ref (r 0), .int a0]) ++ List.replicate (2 - (lg_sl ([.ref (r 0), .int a0])).length) Slot.unset).toArray = ls at hl ⊢
  have hl : lv_has ls 2 [(0, .ref (r 0)), (1, .int a0)] := hl
  refine lv_aload_n hx hb d_D_at_0 rfl (lv_at hl 0 rfl) ?_
  refine lv_iconst (v := 0) hx hb d_D_at_1 (by decide) ?_
  refine va_put (D := (dC, dI)) (ci := 3) (v := .int 0) (ty := .int) (C := R_D) (T := T_D) (N := 19) hx hb hts ti_D t_D to_D tn_D hown hK hP hD hS 0 rfl rfl 0 (by decide) (hts (Cond.fieldLink "MeasureRowsModel" 53 "MeasureRowsModel" "thrown" "I") mw_295) (fun _ h9 => h9) rfl (by decide +kernel) rfl rfl (Nat.le_of_ble_eq_true rfl) d_D_at_2 (fun H locs hP hD hS => ?_)
  have hP : va_P (dC, dI) mr_cl [((r 0), .inr (3, mf_D r 0 (nI n) nw pb (nI qc))), ((r 16), .inl (cI, 80, .inl fli))] H := hP
  have hD : va_D A [((r 0), .inr (3, mf_D r 0 (nI n) nw pb (nI qc))), ((r 16), .inl (cI, 80, .inl fli))] := hD
  have hBH := hB.at hS hA0
  refine lv_iload_n hx hb d_D_at_5 rfl (lv_at hl 1 rfl) ?_
  refine lv_if_lt (tgt := 26) hx hb d_D_at_6 (by decide) (fun c_1 => ?_) (fun c_1 => ?_)
  · refine lv_iconst (v := (-1)) hx hb d_D_at_26 (by decide) ?_
    have hP9 := hP.sub (ws' := [((r 0), .inr (3, mf_D r 0 (nI n) nw pb (nI qc))), ((r 16), .inl (cI, 80, .inl fli))]) [0, 1] rfl
    have hD9 := hD.sub (ws' := [((r 0), .inr (3, mf_D r 0 (nI n) nw pb (nI qc))), ((r 16), .inl (cI, 80, .inl fli))]) [0, 1] (by decide) rfl
    exact W.iret (v := (-1)) hx hb hr (fun t ht hW => ⟨⟨_, (), rfl, trivial, 0, ⟨by rw [ht]; exact hP9, va_K.moved hW.alike hK, hD9⟩⟩, hS.F ht⟩) hS.2.2 d_D_at_27
  · refine lv_iload_n hx hb d_D_at_9 rfl (lv_at hl 1 rfl) ?_
    refine lv_aload_n hx hb d_D_at_10 rfl (lv_at hl 0 rfl) ?_
    refine va_get (D := (dC, dI)) (ci := 3) (v := .int (nI qc)) (C := R_D) (T := T_D) (N := 19) hx hb hts ti_D hown hK hP 0 rfl rfl 17 (by decide) (hts (Cond.fieldLink "MeasureRowsModel" 124 "MeasureRowsModel" "listed" "I") mw_312) (fun _ h9 => h9) rfl d_D_at_11 ?_
    refine lv_icmp_ge (tgt := 26) hx hb d_D_at_14 (by decide) (fun c_2 => ?_) (fun c_2 => ?_)
    · refine lv_iconst (v := (-1)) hx hb d_D_at_26 (by decide) ?_
      have hP9 := hP.sub (ws' := [((r 0), .inr (3, mf_D r 0 (nI n) nw pb (nI qc))), ((r 16), .inl (cI, 80, .inl fli))]) [0, 1] rfl
      have hD9 := hD.sub (ws' := [((r 0), .inr (3, mf_D r 0 (nI n) nw pb (nI qc))), ((r 16), .inl (cI, 80, .inl fli))]) [0, 1] (by decide) rfl
      exact W.iret (v := (-1)) hx hb hr (fun t ht hW => ⟨⟨_, (), rfl, trivial, 0, ⟨by rw [ht]; exact hP9, va_K.moved hW.alike hK, hD9⟩⟩, hS.F ht⟩) hS.2.2 d_D_at_27
    · refine lv_aload_n hx hb d_D_at_17 rfl (lv_at hl 0 rfl) ?_
      refine va_get (D := (dC, dI)) (ci := 3) (v := .ref (r 16)) (C := R_D) (T := T_D) (N := 19) hx hb hts ti_D hown hK hP 0 rfl rfl 16 (by decide) (hts (Cond.fieldLink "MeasureRowsModel" 46 "MeasureRowsModel" "list" "[I") mw_313) (fun _ h9 => h9) rfl d_D_at_18 ?_
      refine lv_iload_n hx hb d_D_at_21 rfl (lv_at hl 1 rfl) ?_
      refine va_iald (D := (dC, dI)) hx hb hK hP 1 0 rfl rfl (i := a0) (mr_ab hq c_1 c_2) d_D_at_22 ?_
      refine lv_goto (tgt := 27) hx hb d_D_at_23 (by decide) ?_
      have hP9 := hP.sub (ws' := [((r 0), .inr (3, mf_D r 0 (nI n) nw pb (nI qc))), ((r 16), .inl (cI, 80, .inl fli))]) [0, 1] rfl
      have hD9 := hD.sub (ws' := [((r 0), .inr (3, mf_D r 0 (nI n) nw pb (nI qc))), ((r 16), .inl (cI, 80, .inl fli))]) [0, 1] (by decide) rfl
      exact W.iret (v := fli a0.toNatClampNeg) hx hb hr (fun t ht hW => ⟨⟨_, (), rfl, trivial, 0, ⟨by rw [ht]; exact hP9, va_K.moved hW.alike hK, hD9⟩⟩, hS.F ht⟩) hS.2.2 d_D_at_27
set_option maxHeartbeats 4000000 in
set_option maxRecDepth 100000 in
theorem mc_D_count (l : Launch) (s0 : State) (dC : Nat → ClassId) (dI : Nat → Nat → Nat) (cI cR cL cZ : ClassId) (r : Nat → Nat) (th nw pb lc : Int32) (n : Nat) (fm : Nat → Int32)  (sz : Nat) (a0 : Int32)  : Met l y_D_count [Cond.code y_D_count b_D_count 2 (some .int)] ({ frames := 2, cells := 0, slots := 0, locals := 42 }) (mr_PC s0 (dC, dI) [(cI, .int), (cR, .object "MeasureRows$Row"), (cL, .long), (cZ, .boolean)] [.ref (r 0), .int a0] [((r 0), .inr (3, mf_D r th (nI n) nw pb lc)), ((r 1), .inl (cI, 8, .inl fm))] sz) (va_Qi (fun _ _ => True) (fun (u : Unit) t => ∃ (th9 : Int32), mr_W (dC, dI) [(cI, .int), (cR, .object "MeasureRows$Row"), (cL, .long), (cZ, .boolean)] (va_A [((r 0), .inr (3, mf_D r th (nI n) nw pb lc)), ((r 1), .inl (cI, 8, .inl fm))] sz) [((r 0), .inr (3, mf_D r th9 (nI n) nw pb lc)), ((r 1), .inl (cI, 8, .inl fm))] t) (va_A [((r 0), .inr (3, mf_D r th (nI n) nw pb lc)), ((r 1), .inl (cI, 8, .inl fm))] sz)) 0 0 (va_A [((r 0), .inr (3, mf_D r th (nI n) nw pb lc)), ((r 1), .inl (cI, 8, .inl fm))] sz) := by
  refine Met.ofW (cc := b_D_count) (maxL := 2) (ret := (some .int)) (by decide) rfl ?_
  intro p e s m args below meth c s₁ B hml hv
  obtain ⟨rfl, hsz, hB, hK, hP, hD0⟩ := hv
  subst hsz
  have hA0 := mr_A hB hD0
  have hD := hD0.self (sz := s.heap.size)
  generalize hAe : va_A [((r 0), .inr (3, mf_D r th (nI n) nw pb lc)), ((r 1), .inl (cI, 8, .inl fm))] s.heap.size = A at hD hA0 ⊢
  have hA : ∀ q : Nat, s.heap.size ≤ q → A q := fun q h => by rw [← hAe]; exact Or.inr h
  have hS : va_S A s.heap s.heap [] := va_S.rf
  have hP : va_P (dC, dI) mr_cl [((r 0), .inr (3, mf_D r th (nI n) nw pb lc)), ((r 1), .inl (cI, 8, .inl fm))] s.heap := hP
  have hBH := hB.at hS hA0
  have hx := B.exec
  have hb := B.bytes
  have hr := B.returns
  have hlocks := B.notSynchronized
  have hts : ∀ w ∈ lw_tbl, w.before [.ref (r 0), .int a0].toArray s = true := hB.hts _
  have hown : s.vm.findClass "MeasureRowsModel" = some m.cls := findClass_of_methodNamed B.named
  have hl := lv_entry ([.ref (r 0), .int a0]) (n := 2) (Nat.le_of_ble_eq_true rfl)
  rw [lg_entry_eq]
  generalize (lg_sl ([.ref (r 0), .int a0]) ++ List.replicate (2 - (lg_sl ([.ref (r 0), .int a0])).length) Slot.unset).toArray = ls at hl ⊢
  have hl : lv_has ls 2 [(0, .ref (r 0)), (1, .int a0)] := hl
  refine lv_aload_n hx hb d_D_count_0 rfl (lv_at hl 0 rfl) ?_
  refine lv_iconst (v := 0) hx hb d_D_count_1 (by decide) ?_
  refine va_put (D := (dC, dI)) (ci := 3) (v := .int 0) (ty := .int) (C := R_D) (T := T_D) (N := 19) hx hb hts ti_D t_D to_D tn_D hown hK hP hD hS 0 rfl rfl 0 (by decide) (hts (Cond.fieldLink "MeasureRowsModel" 53 "MeasureRowsModel" "thrown" "I") mw_295) (fun _ h9 => h9) rfl (by decide +kernel) rfl rfl (Nat.le_of_ble_eq_true rfl) d_D_count_2 (fun H locs hP hD hS => ?_)
  have hP : va_P (dC, dI) mr_cl [((r 0), .inr (3, mf_D r 0 (nI n) nw pb lc)), ((r 1), .inl (cI, 8, .inl fm))] H := hP
  have hD : va_D A [((r 0), .inr (3, mf_D r 0 (nI n) nw pb lc)), ((r 1), .inl (cI, 8, .inl fm))] := hD
  have hBH := hB.at hS hA0
  refine lv_iload_n hx hb d_D_count_5 rfl (lv_at hl 1 rfl) ?_
  refine vp_callSi (va_Run.run (va_runS (As := [.int a0]) (rest := []) ⟨hx, hb, hml, hown, hts⟩ (mc_D_isGroup l s0 a0) ⟨(mr_cB 1 (hts (Cond.code y_D_isGroup b_D_isGroup 1 (some .boolean)) mw_93) (hts (Cond.initialized y_D_isGroup.cls) mw_94) (hts (Cond.methodLink "MeasureRowsModel" 67 y_D_isGroup) mw_95) rfl rfl (by decide +kernel) ⟨Nat.le_of_ble_eq_true rfl, Nat.le_of_ble_eq_true rfl⟩), (hts (Cond.static y_D_isGroup) mw_96)⟩ (mr_pre0 hBH) rfl rfl hl.1 rfl (lv_room (Nat.le_of_ble_eq_true rfl)) d_D_count_6 ⟨Nat.le_of_ble_eq_true rfl, Nat.le_of_ble_eq_true rfl⟩)) (fun r_1 h_2 => ?_)
  subst h_2
  refine lv_if_eq (tgt := 24) hx hb d_D_count_9 (by decide) (fun c_3 => ?_) (fun c_3 => ?_)
  · refine lv_iload_n hx hb d_D_count_24 rfl (lv_at hl 1 rfl) ?_
    by_cases c_4 : a0 = 0
    · refine lv_tableIn (tgt := 56) hx hb d_D_count_25 (by rw [c_4]; decide) (by rw [c_4]; decide) (by rw [c_4]; rfl) (by decide) ?_
      refine lv_aload_n hx hb d_D_count_56 rfl (lv_at hl 0 rfl) ?_
      refine va_get (D := (dC, dI)) (ci := 3) (v := .int (nI n)) (C := R_D) (T := T_D) (N := 19) hx hb hts ti_D hown hK hP 0 rfl rfl 2 (by decide) (hts (Cond.fieldLink "MeasureRowsModel" 81 "MeasureRowsModel" "rows" "I") mw_294) (fun _ h9 => h9) rfl d_D_count_57 ?_
      have hP9 := hP.sub (ws' := [((r 0), .inr (3, mf_D r 0 (nI n) nw pb lc)), ((r 1), .inl (cI, 8, .inl fm))]) [0, 1] rfl
      have hD9 := hD.sub (ws' := [((r 0), .inr (3, mf_D r 0 (nI n) nw pb lc)), ((r 1), .inl (cI, 8, .inl fm))]) [0, 1] (by decide) rfl
      exact W.iret (v := (nI n)) hx hb hr (fun t ht hW => ⟨⟨_, (), rfl, trivial, 0, ⟨by rw [ht]; exact hP9, va_K.moved hW.alike hK, hD9⟩⟩, hS.F ht⟩) hS.2.2 d_D_count_60
    · skip
      by_cases c_5 : a0 = 1
      · refine lv_tableIn (tgt := 61) hx hb d_D_count_25 (by rw [c_5]; decide) (by rw [c_5]; decide) (by rw [c_5]; rfl) (by decide) ?_
        refine lv_aload_n hx hb d_D_count_61 rfl (lv_at hl 0 rfl) ?_
        refine va_get (D := (dC, dI)) (ci := 3) (v := .int nw) (C := R_D) (T := T_D) (N := 19) hx hb hts ti_D hown hK hP 0 rfl rfl 14 (by decide) (hts (Cond.fieldLink "MeasureRowsModel" 84 "MeasureRowsModel" "now" "I") mw_273) (fun _ h9 => h9) rfl d_D_count_62 ?_
        have hP9 := hP.sub (ws' := [((r 0), .inr (3, mf_D r 0 (nI n) nw pb lc)), ((r 1), .inl (cI, 8, .inl fm))]) [0, 1] rfl
        have hD9 := hD.sub (ws' := [((r 0), .inr (3, mf_D r 0 (nI n) nw pb lc)), ((r 1), .inl (cI, 8, .inl fm))]) [0, 1] (by decide) rfl
        exact W.iret (v := nw) hx hb hr (fun t ht hW => ⟨⟨_, (), rfl, trivial, 0, ⟨by rw [ht]; exact hP9, va_K.moved hW.alike hK, hD9⟩⟩, hS.F ht⟩) hS.2.2 d_D_count_65
      · skip
        by_cases c_6 : a0 = 2
        · refine lv_tableIn (tgt := 66) hx hb d_D_count_25 (by rw [c_6]; decide) (by rw [c_6]; decide) (by rw [c_6]; rfl) (by decide) ?_
          refine lv_aload_n hx hb d_D_count_66 rfl (lv_at hl 0 rfl) ?_
          refine va_get (D := (dC, dI)) (ci := 3) (v := .int lc) (C := R_D) (T := T_D) (N := 19) hx hb hts ti_D hown hK hP 0 rfl rfl 17 (by decide) (hts (Cond.fieldLink "MeasureRowsModel" 124 "MeasureRowsModel" "listed" "I") mw_312) (fun _ h9 => h9) rfl d_D_count_67 ?_
          have hP9 := hP.sub (ws' := [((r 0), .inr (3, mf_D r 0 (nI n) nw pb lc)), ((r 1), .inl (cI, 8, .inl fm))]) [0, 1] rfl
          have hD9 := hD.sub (ws' := [((r 0), .inr (3, mf_D r 0 (nI n) nw pb lc)), ((r 1), .inl (cI, 8, .inl fm))]) [0, 1] (by decide) rfl
          exact W.iret (v := lc) hx hb hr (fun t ht hW => ⟨⟨_, (), rfl, trivial, 0, ⟨by rw [ht]; exact hP9, va_K.moved hW.alike hK, hD9⟩⟩, hS.F ht⟩) hS.2.2 d_D_count_70
        · skip
          by_cases c_7 : a0 = 3
          · refine lv_tableIn (tgt := 71) hx hb d_D_count_25 (by rw [c_7]; decide) (by rw [c_7]; decide) (by rw [c_7]; rfl) (by decide) ?_
            refine lv_aload_n hx hb d_D_count_71 rfl (lv_at hl 0 rfl) ?_
            refine va_get (D := (dC, dI)) (ci := 3) (v := .int pb) (C := R_D) (T := T_D) (N := 19) hx hb hts ti_D hown hK hP 0 rfl rfl 15 (by decide) (hts (Cond.fieldLink "MeasureRowsModel" 111 "MeasureRowsModel" "there" "I") mw_311) (fun _ h9 => h9) rfl d_D_count_72 ?_
            have hP9 := hP.sub (ws' := [((r 0), .inr (3, mf_D r 0 (nI n) nw pb lc)), ((r 1), .inl (cI, 8, .inl fm))]) [0, 1] rfl
            have hD9 := hD.sub (ws' := [((r 0), .inr (3, mf_D r 0 (nI n) nw pb lc)), ((r 1), .inl (cI, 8, .inl fm))]) [0, 1] (by decide) rfl
            exact W.iret (v := pb) hx hb hr (fun t ht hW => ⟨⟨_, (), rfl, trivial, 0, ⟨by rw [ht]; exact hP9, va_K.moved hW.alike hK, hD9⟩⟩, hS.F ht⟩) hS.2.2 d_D_count_75
          · skip
            refine lv_tableOut (tgt := 76) hx hb d_D_count_25 (by have z0 := mr_ne (z := 0) (by decide) c_4; have z1 := mr_ne (z := 1) (by decide) c_5; have z2 := mr_ne (z := 2) (by decide) c_6; have z3 := mr_ne (z := 3) (by decide) c_7; omega) (by decide) ?_
            refine lv_iconst (v := (-1)) hx hb d_D_count_76 (by decide) ?_
            have hP9 := hP.sub (ws' := [((r 0), .inr (3, mf_D r 0 (nI n) nw pb lc)), ((r 1), .inl (cI, 8, .inl fm))]) [0, 1] rfl
            have hD9 := hD.sub (ws' := [((r 0), .inr (3, mf_D r 0 (nI n) nw pb lc)), ((r 1), .inl (cI, 8, .inl fm))]) [0, 1] (by decide) rfl
            exact W.iret (v := (-1)) hx hb hr (fun t ht hW => ⟨⟨_, (), rfl, trivial, 0, ⟨by rw [ht]; exact hP9, va_K.moved hW.alike hK, hD9⟩⟩, hS.F ht⟩) hS.2.2 d_D_count_77
  · refine lv_aload_n hx hb d_D_count_12 rfl (lv_at hl 0 rfl) ?_
    refine lv_iload_n hx hb d_D_count_13 rfl (lv_at hl 1 rfl) ?_
    refine vp_callSi (va_Run.run (va_runV (As := [.int a0]) (rest := []) (C := R_D) ⟨hx, hb, hml, hown, hts⟩ (mc_D_all l s0 dC dI cI cR cL cZ r 0 (nI n) nw pb lc fm a0 c_3) ⟨(mr_cB 1 (hts (Cond.code y_D_all b_D_all 5 (some .int)) mw_88) (hts (Cond.initialized y_D_all.cls) mw_89) (hts (Cond.methodLink "MeasureRowsModel" 63 y_D_all) mw_90) rfl rfl (by decide +kernel) ⟨Nat.le_of_ble_eq_true rfl, Nat.le_of_ble_eq_true rfl⟩), (hts (Cond.instanceMethod y_D_all) mw_91), (hts (Cond.selects "MeasureRowsModel" y_D_all y_D_all) mw_92)⟩ (mr_preV hBH hK (hP.sub (ws' := [((r 0), .inr (3, mf_D r 0 (nI n) nw pb lc)), ((r 1), .inl (cI, 8, .inl fm))]) [0, 1] rfl) (ci := 3) (q0 := 0) rfl rfl) rfl rfl hl.1 rfl (lv_room (Nat.le_of_ble_eq_true rfl)) d_D_count_14 ⟨Nat.le_of_ble_eq_true rfl, Nat.le_of_ble_eq_true rfl⟩)) (fun r_8 h_9 => ?_)
    subst h_9
    refine lv_ldc (v := 65535) hx hb hown (hts (Cond.constant "MeasureRowsModel" 110 65535) mw_310) d_D_count_17 ?_
    refine lv_iand hx hb d_D_count_19 ?_
    refine vp_callSi (va_Run.run (va_runS (As := [.int ((mv_D_all fm a0) &&& 65535)]) (rest := []) ⟨hx, hb, hml, hown, hts⟩ (mc_D_bits l s0 ((mv_D_all fm a0) &&& 65535)) ⟨(mr_cB 1 (hts (Cond.code y_D_bits b_D_bits 3 (some .int)) mw_305) (hts (Cond.initialized y_D_bits.cls) mw_306) (hts (Cond.methodLink "MeasureRowsModel" 107 y_D_bits) mw_307) rfl rfl (by decide +kernel) ⟨Nat.le_of_ble_eq_true rfl, Nat.le_of_ble_eq_true rfl⟩), (hts (Cond.static y_D_bits) mw_308)⟩ (mr_pre0 hBH) rfl rfl hl.1 rfl (lv_room (Nat.le_of_ble_eq_true rfl)) d_D_count_20 ⟨Nat.le_of_ble_eq_true rfl, Nat.le_of_ble_eq_true rfl⟩)) (fun r_10 h_11 => ?_)
    subst h_11
    have hP9 := hP.sub (ws' := [((r 0), .inr (3, mf_D r 0 (nI n) nw pb lc)), ((r 1), .inl (cI, 8, .inl fm))]) [0, 1] rfl
    have hD9 := hD.sub (ws' := [((r 0), .inr (3, mf_D r 0 (nI n) nw pb lc)), ((r 1), .inl (cI, 8, .inl fm))]) [0, 1] (by decide) rfl
    exact W.iret (v := mv_D_bits ((mv_D_all fm a0) &&& 65535)) hx hb hr (fun t ht hW => ⟨⟨_, (), rfl, trivial, 0, ⟨by rw [ht]; exact hP9, va_K.moved hW.alike hK, hD9⟩⟩, hS.F ht⟩) hS.2.2 d_D_count_23
