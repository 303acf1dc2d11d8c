theorem mw_274 : Cond.fieldLink "MeasureRowsModel" 28 "MeasureRowsModel" "known" "[I" ∈ lw_tbl := by decide +kernel
theorem mw_275 : Cond.code y_D_isUnder b_D_isUnder 3 (some .boolean) ∈ lw_tbl := by decide +kernel
theorem mw_276 : Cond.initialized y_D_isUnder.cls ∈ lw_tbl := by decide +kernel
theorem mw_277 : Cond.methodLink "MeasureRowsModel" 114 y_D_isUnder ∈ lw_tbl := by decide +kernel
theorem mw_278 : Cond.static y_D_isUnder ∈ lw_tbl := by decide +kernel
theorem mw_279 : Cond.code y_D_isIn b_D_isIn 3 (some .boolean) ∈ lw_tbl := by decide +kernel
theorem mw_280 : Cond.initialized y_D_isIn.cls ∈ lw_tbl := by decide +kernel
theorem mw_281 : Cond.methodLink "MeasureRowsModel" 78 y_D_isIn ∈ lw_tbl := by decide +kernel
theorem mw_282 : Cond.instanceMethod y_D_isIn ∈ lw_tbl := by decide +kernel
theorem mw_283 : Cond.selects "MeasureRowsModel" y_D_isIn y_D_isIn ∈ lw_tbl := by decide +kernel
theorem mw_284 : Cond.fieldLink "MeasureRowsModel" 31 "MeasureRowsModel" "lands" "[I" ∈ lw_tbl := by decide +kernel
theorem mw_285 : Cond.code y_D_lasts b_D_lasts 4 (some .boolean) ∈ lw_tbl := by decide +kernel
theorem mw_286 : Cond.initialized y_D_lasts.cls ∈ lw_tbl := by decide +kernel
theorem mw_287 : Cond.methodLink "MeasureRowsModel" 117 y_D_lasts ∈ lw_tbl := by decide +kernel
theorem mw_288 : Cond.instanceMethod y_D_lasts ∈ lw_tbl := by decide +kernel
theorem mw_289 : Cond.selects "MeasureRowsModel" y_D_lasts y_D_lasts ∈ lw_tbl := by decide +kernel
theorem mw_290 : Cond.code y_D_digits b_D_digits 1 (some .int) ∈ lw_tbl := by decide +kernel
theorem mw_291 : Cond.initialized y_D_digits.cls ∈ lw_tbl := by decide +kernel
theorem mw_292 : Cond.methodLink "MeasureRowsModel" 91 y_D_digits ∈ lw_tbl := by decide +kernel
theorem mw_293 : Cond.static y_D_digits ∈ lw_tbl := by decide +kernel
theorem mw_294 : Cond.fieldLink "MeasureRowsModel" 81 "MeasureRowsModel" "rows" "I" ∈ lw_tbl := by decide +kernel
theorem mw_295 : Cond.fieldLink "MeasureRowsModel" 53 "MeasureRowsModel" "thrown" "I" ∈ lw_tbl := by decide +kernel
theorem mw_296 : Cond.code y_D_isRow b_D_isRow 2 (some .boolean) ∈ lw_tbl := by decide +kernel
theorem mw_297 : Cond.initialized y_D_isRow.cls ∈ lw_tbl := by decide +kernel
theorem mw_298 : Cond.methodLink "MeasureRowsModel" 104 y_D_isRow ∈ lw_tbl := by decide +kernel
theorem mw_299 : Cond.instanceMethod y_D_isRow ∈ lw_tbl := by decide +kernel
theorem mw_300 : Cond.selects "MeasureRowsModel" y_D_isRow y_D_isRow ∈ lw_tbl := by decide +kernel
theorem mw_301 : Cond.code y_D_isLand b_D_isLand 1 (some .boolean) ∈ lw_tbl := by decide +kernel
theorem mw_302 : Cond.initialized y_D_isLand.cls ∈ lw_tbl := by decide +kernel
theorem mw_303 : Cond.methodLink "MeasureRowsModel" 71 y_D_isLand ∈ lw_tbl := by decide +kernel
theorem mw_304 : Cond.static y_D_isLand ∈ lw_tbl := by decide +kernel
theorem mw_305 : Cond.code y_D_bits b_D_bits 3 (some .int) ∈ lw_tbl := by decide +kernel
theorem mw_306 : Cond.initialized y_D_bits.cls ∈ lw_tbl := by decide +kernel
theorem mw_307 : Cond.methodLink "MeasureRowsModel" 107 y_D_bits ∈ lw_tbl := by decide +kernel
theorem mw_308 : Cond.static y_D_bits ∈ lw_tbl := by decide +kernel
theorem mw_309 : Cond.fieldLink "MeasureRowsModel" 34 "MeasureRowsModel" "papers" "[I" ∈ lw_tbl := by decide +kernel
set_option maxHeartbeats 4000000 in
set_option maxRecDepth 100000 in
theorem mc_D_isOf (l : Launch) (s0 : State) (dC : Nat → ClassId) (dI : Nat → Nat → Nat) (cI cR cL cZ : ClassId) (r : Nat → Nat) (th nw pb lc : Int32) (n : Nat) (fm fco fla ffi fkn fls fe fa fk : Nat → Int32) (i : Nat) (a1 : Int32) (a2 : Int32) (a3 : Int32) (a4 : Int32) (hi1 : 1 ≤ i) (hin : i ≤ n) (hM : mr_MI n fe fco) : Met l y_D_isOf [Cond.code y_D_isOf b_D_isOf 6 (some .boolean)] ({ frames := 3, cells := 0, slots := 0, locals := 64 }) (mr_PW s0 (dC, dI) [(cI, .int), (cR, .object "MeasureRows$Row"), (cL, .long), (cZ, .boolean)] [.ref (r 0), .int (nI i), .int a1, .int a2, .int a3, .int a4] [((r 0), .inr (3, mf_D r th (nI n) nw pb lc)), ((r 1), .inl (cI, 8, .inl fm)), ((r 3), .inl (cI, 81, .inl fco)), ((r 4), .inl (cI, 81, .inl fla)), ((r 5), .inl (cI, 81, .inl ffi)), ((r 8), .inl (cI, 81, .inl fkn)), ((r 9), .inl (cI, 81, .inl fls)), ((r 11), .inl (cI, 81, .inl fe)), ((r 12), .inl (cI, 648, .inl fa)), ((r 13), .inl (cI, 648, .inl fk))]) (vp_Si (fun r => mr_b01 r)) 0 0 (fun _ => False) := by
  refine Met.ofW (cc := b_D_isOf) (maxL := 6) (ret := (some .boolean)) (by decide) rfl ?_
  intro p e s m args below meth c s₁ B hml hv
  obtain ⟨rfl, hB, hK, hP⟩ := hv
  have hBH := hB.here
  have hx := B.exec
  have hb := B.bytes
  have hr := B.returns
  have hlocks := B.notSynchronized
  have hts : ∀ w ∈ lw_tbl, w.before [.ref (r 0), .int (nI i), .int a1, .int a2, .int a3, .int a4].toArray s = true := hB.hts _
  have hown : s.vm.findClass "MeasureRowsModel" = some m.cls := findClass_of_methodNamed B.named
  have hl := lv_entry ([.ref (r 0), .int (nI i), .int a1, .int a2, .int a3, .int a4]) (n := 6) (Nat.le_of_ble_eq_true rfl)
  rw [lg_entry_eq]
  generalize (lg_sl ([.ref (r 0), .int (nI i), .int a1, .int a2, .int a3, .int a4]) ++ List.replicate (6 - (lg_sl ([.ref (r 0), .int (nI i), .int a1, .int a2, .int a3, .int a4])).length) Slot.unset).toArray = ls at hl ⊢
  have hl : lv_has ls 6 [(0, .ref (r 0)), (1, .int (nI i)), (2, .int a1), (3, .int a2), (4, .int a3), (5, .int a4)] := hl
  refine lv_aload_n hx hb d_D_isOf_0 rfl (lv_at hl 0 rfl) ?_
  refine va_get (D := (dC, dI)) (ci := 3) (v := .ref (r 8)) (C := R_D) (T := T_D) (N := 19) hx hb hts ti_D hown hK hP 0 rfl rfl 8 (by decide) (hts (Cond.fieldLink "MeasureRowsModel" 28 "MeasureRowsModel" "known" "[I") mw_274) (fun _ h9 => h9) rfl d_D_isOf_1 ?_
  refine lv_iload_n hx hb d_D_isOf_4 rfl (lv_at hl 1 rfl) ?_
  refine va_iald (D := (dC, dI)) hx hb hK hP 5 0 rfl rfl (i := nI i) (nI_in (by have := hM.1; omega) (by decide)) d_D_isOf_5 ?_
  refine mr_top (show fkn (nI i).toNatClampNeg = fkn i from mr_nc (by have := hM.1; omega)) ?_
  refine lv_iload hx hb d_D_isOf_6 (lv_at hl 5 rfl) ?_
  refine lv_icmp_gt (tgt := 67) hx hb d_D_isOf_8 (by decide) (fun c_1 => ?_) (fun c_1 => ?_)
  · refine lv_iconst (v := 0) hx hb d_D_isOf_67 (by decide) ?_
    exact W.zret (v := 0) hx hb hr (mr_narz mr_b0) (fun t ht _ => ⟨_, rfl, mr_b0, ht⟩) (fun _ h => nomatch h) d_D_isOf_68
  · refine lv_iload_n hx hb d_D_isOf_11 rfl (lv_at hl 2 rfl) ?_
    refine lv_aload_n hx hb d_D_isOf_12 rfl (lv_at hl 0 rfl) ?_
    refine va_get (D := (dC, dI)) (ci := 3) (v := .ref (r 3)) (C := R_D) (T := T_D) (N := 19) hx hb hts ti_D hown hK hP 0 rfl rfl 3 (by decide) (hts (Cond.fieldLink "MeasureRowsModel" 13 "MeasureRowsModel" "code" "[I") mw_269) (fun _ h9 => h9) rfl d_D_isOf_13 ?_
    refine lv_iload_n hx hb d_D_isOf_16 rfl (lv_at hl 1 rfl) ?_
    refine va_iald (D := (dC, dI)) hx hb hK hP 2 0 rfl rfl (i := nI i) (nI_in (by have := hM.1; omega) (by decide)) d_D_isOf_17 ?_
    refine mr_top (show fco (nI i).toNatClampNeg = fco i from mr_nc (by have := hM.1; omega)) ?_
    refine vp_callSi (va_Run.run (va_runS (As := [.int a1, .int (fco i)]) (rest := []) ⟨hx, hb, hml, hown, hts⟩ (mc_D_isUnder l s0 a1 (fco i) (hM.2 i (by omega) (by omega)).2) ⟨(mr_cB 2 (hts (Cond.code y_D_isUnder b_D_isUnder 3 (some .boolean)) mw_275) (hts (Cond.initialized y_D_isUnder.cls) mw_276) (hts (Cond.methodLink "MeasureRowsModel" 114 y_D_isUnder) mw_277) rfl rfl (by decide +kernel) ⟨Nat.le_of_ble_eq_true rfl, Nat.le_of_ble_eq_true rfl⟩), (hts (Cond.static y_D_isUnder) mw_278)⟩ (mr_pre0 hBH) rfl rfl hl.1 rfl (lv_room (Nat.le_of_ble_eq_true rfl)) d_D_isOf_18 ⟨Nat.le_of_ble_eq_true rfl, Nat.le_of_ble_eq_true rfl⟩)) (fun r_2 h_3 => ?_)
    refine lv_if_eq (tgt := 67) hx hb d_D_isOf_21 (by decide) (fun c_4 => ?_) (fun c_4 => ?_)
    · refine lv_iconst (v := 0) hx hb d_D_isOf_67 (by decide) ?_
      exact W.zret (v := 0) hx hb hr (mr_narz mr_b0) (fun t ht _ => ⟨_, rfl, mr_b0, ht⟩) (fun _ h => nomatch h) d_D_isOf_68
    · refine lv_aload_n hx hb d_D_isOf_24 rfl (lv_at hl 0 rfl) ?_
      refine lv_iload_n hx hb d_D_isOf_25 rfl (lv_at hl 3 rfl) ?_
      refine lv_aload_n hx hb d_D_isOf_26 rfl (lv_at hl 0 rfl) ?_
      refine va_get (D := (dC, dI)) (ci := 3) (v := .ref (r 4)) (C := R_D) (T := T_D) (N := 19) hx hb hts ti_D hown hK hP 0 rfl rfl 4 (by decide) (hts (Cond.fieldLink "MeasureRowsModel" 16 "MeasureRowsModel" "land" "[I") mw_270) (fun _ h9 => h9) rfl d_D_isOf_27 ?_
      refine lv_iload_n hx hb d_D_isOf_30 rfl (lv_at hl 1 rfl) ?_
      refine va_iald (D := (dC, dI)) hx hb hK hP 3 0 rfl rfl (i := nI i) (nI_in (by have := hM.1; omega) (by decide)) d_D_isOf_31 ?_
      refine mr_top (show fla (nI i).toNatClampNeg = fla i from mr_nc (by have := hM.1; omega)) ?_
      refine vp_callSi (va_Run.run (va_runV (As := [.int a2, .int (fla i)]) (rest := []) (C := R_D) ⟨hx, hb, hml, hown, hts⟩ (mc_D_isIn l s0 dC dI cI cR cL cZ r th (nI n) nw pb lc fm a2 (fla i)) ⟨(mr_cB 2 (hts (Cond.code y_D_isIn b_D_isIn 3 (some .boolean)) mw_279) (hts (Cond.initialized y_D_isIn.cls) mw_280) (hts (Cond.methodLink "MeasureRowsModel" 78 y_D_isIn) mw_281) rfl rfl (by decide +kernel) ⟨Nat.le_of_ble_eq_true rfl, Nat.le_of_ble_eq_true rfl⟩), (hts (Cond.instanceMethod y_D_isIn) mw_282), (hts (Cond.selects "MeasureRowsModel" y_D_isIn y_D_isIn) mw_283)⟩ (mr_preV hBH hK (hP.sub (ws' := [((r 0), .inr (3, mf_D r th (nI n) nw pb lc)), ((r 1), .inl (cI, 8, .inl fm))]) [0, 1] rfl) (ci := 3) (q0 := 0) rfl rfl) rfl rfl hl.1 rfl (lv_room (Nat.le_of_ble_eq_true rfl)) d_D_isOf_32 ⟨Nat.le_of_ble_eq_true rfl, Nat.le_of_ble_eq_true rfl⟩)) (fun r_5 h_6 => ?_)
      subst h_6
      refine lv_if_eq (tgt := 67) hx hb d_D_isOf_35 (by decide) (fun c_7 => ?_) (fun c_7 => ?_)
      · refine lv_iconst (v := 0) hx hb d_D_isOf_67 (by decide) ?_
        exact W.zret (v := 0) hx hb hr (mr_narz mr_b0) (fun t ht _ => ⟨_, rfl, mr_b0, ht⟩) (fun _ h => nomatch h) d_D_isOf_68
      · refine lv_aload_n hx hb d_D_isOf_38 rfl (lv_at hl 0 rfl) ?_
        refine va_get (D := (dC, dI)) (ci := 3) (v := .ref (r 9)) (C := R_D) (T := T_D) (N := 19) hx hb hts ti_D hown hK hP 0 rfl rfl 9 (by decide) (hts (Cond.fieldLink "MeasureRowsModel" 31 "MeasureRowsModel" "lands" "[I") mw_284) (fun _ h9 => h9) rfl d_D_isOf_39 ?_
        refine lv_iload_n hx hb d_D_isOf_42 rfl (lv_at hl 1 rfl) ?_
        refine va_iald (D := (dC, dI)) hx hb hK hP 6 0 rfl rfl (i := nI i) (nI_in (by have := hM.1; omega) (by decide)) d_D_isOf_43 ?_
        refine mr_top (show fls (nI i).toNatClampNeg = fls i from mr_nc (by have := hM.1; omega)) ?_
        refine lv_iload_n hx hb d_D_isOf_44 rfl (lv_at hl 3 rfl) ?_
        refine lv_ishr hx hb d_D_isOf_45 ?_
        refine lv_iconst (v := 1) hx hb d_D_isOf_46 (by decide) ?_
        refine lv_iand hx hb d_D_isOf_47 ?_
        refine lv_if_ne (tgt := 67) hx hb d_D_isOf_48 (by decide) (fun c_8 => ?_) (fun c_8 => ?_)
        · refine lv_iconst (v := 0) hx hb d_D_isOf_67 (by decide) ?_
          exact W.zret (v := 0) hx hb hr (mr_narz mr_b0) (fun t ht _ => ⟨_, rfl, mr_b0, ht⟩) (fun _ h => nomatch h) d_D_isOf_68
        · refine lv_aload_n hx hb d_D_isOf_51 rfl (lv_at hl 0 rfl) ?_
          refine lv_iload_n hx hb d_D_isOf_52 rfl (lv_at hl 1 rfl) ?_
          refine lv_iload hx hb d_D_isOf_53 (lv_at hl 4 rfl) ?_
          refine lv_iload hx hb d_D_isOf_55 (lv_at hl 5 rfl) ?_
          refine vp_callSi (va_Run.run (va_runV (As := [.int (nI i), .int a3, .int a4]) (rest := []) (C := R_D) ⟨hx, hb, hml, hown, hts⟩ (mc_D_lasts l s0 dC dI cI cR cL cZ r th nw pb lc n fco ffi fe fa fk i a3 a4 (by omega) (by omega) hM) ⟨(mr_cB 3 (hts (Cond.code y_D_lasts b_D_lasts 4 (some .boolean)) mw_285) (hts (Cond.initialized y_D_lasts.cls) mw_286) (hts (Cond.methodLink "MeasureRowsModel" 117 y_D_lasts) mw_287) rfl rfl (by decide +kernel) ⟨Nat.le_of_ble_eq_true rfl, Nat.le_of_ble_eq_true rfl⟩), (hts (Cond.instanceMethod y_D_lasts) mw_288), (hts (Cond.selects "MeasureRowsModel" y_D_lasts y_D_lasts) mw_289)⟩ (mr_preV hBH hK (hP.sub (ws' := [((r 0), .inr (3, mf_D r th (nI n) nw pb lc)), ((r 3), .inl (cI, 81, .inl fco)), ((r 5), .inl (cI, 81, .inl ffi)), ((r 11), .inl (cI, 81, .inl fe)), ((r 12), .inl (cI, 648, .inl fa)), ((r 13), .inl (cI, 648, .inl fk))]) [0, 2, 4, 7, 8, 9] rfl) (ci := 3) (q0 := 0) rfl rfl) rfl rfl hl.1 rfl (lv_room (Nat.le_of_ble_eq_true rfl)) d_D_isOf_57 ⟨Nat.le_of_ble_eq_true rfl, Nat.le_of_ble_eq_true rfl⟩)) (fun r_9 h_10 => ?_)
          refine lv_if_eq (tgt := 67) hx hb d_D_isOf_60 (by decide) (fun c_11 => ?_) (fun c_11 => ?_)
          · refine lv_iconst (v := 0) hx hb d_D_isOf_67 (by decide) ?_
            exact W.zret (v := 0) hx hb hr (mr_narz mr_b0) (fun t ht _ => ⟨_, rfl, mr_b0, ht⟩) (fun _ h => nomatch h) d_D_isOf_68
          · refine lv_iconst (v := 1) hx hb d_D_isOf_63 (by decide) ?_
            refine lv_goto (tgt := 68) hx hb d_D_isOf_64 (by decide) ?_
            exact W.zret (v := 1) hx hb hr (mr_narz mr_b1) (fun t ht _ => ⟨_, rfl, mr_b1, ht⟩) (fun _ h => nomatch h) d_D_isOf_68
set_option maxHeartbeats 4000000 in
set_option maxRecDepth 100000 in
theorem mc_D_beats (l : Launch) (s0 : State) (dC : Nat → ClassId) (dI : Nat → Nat → Nat) (cI cR cL cZ : ClassId) (r : Nat → Nat) (th nw pb lc : Int32) (n : Nat) (fco fki fra fe : Nat → Int32) (i i2 : Nat) (hin : i ≤ n) (hin2 : i2 ≤ n) (hM : mr_MI n fe fco) : Met l y_D_beats [Cond.code y_D_beats b_D_beats 5 (some .boolean)] ({ frames := 2, cells := 0, slots := 0, locals := 42 }) (mr_PW s0 (dC, dI) [(cI, .int), (cR, .object "MeasureRows$Row"), (cL, .long), (cZ, .boolean)] [.ref (r 0), .int (nI i), .int (nI i2)] [((r 0), .inr (3, mf_D r th (nI n) nw pb lc)), ((r 3), .inl (cI, 81, .inl fco)), ((r 6), .inl (cI, 81, .inl fki)), ((r 7), .inl (cI, 81, .inl fra)), ((r 11), .inl (cI, 81, .inl fe))]) (vp_Si (fun r => mr_b01 r)) 0 0 (fun _ => False) := by
  refine Met.ofW (cc := b_D_beats) (maxL := 5) (ret := (some .boolean)) (by decide) rfl ?_
  intro p e s m args below meth c s₁ B hml hv
  obtain ⟨rfl, hB, hK, hP⟩ := hv
  have hBH := hB.here
  have hx := B.exec
  have hb := B.bytes
  have hr := B.returns
  have hlocks := B.notSynchronized
  have hts : ∀ w ∈ lw_tbl, w.before [.ref (r 0), .int (nI i), .int (nI i2)].toArray s = true := hB.hts _
  have hown : s.vm.findClass "MeasureRowsModel" = some m.cls := findClass_of_methodNamed B.named
  have hl := lv_entry ([.ref (r 0), .int (nI i), .int (nI i2)]) (n := 5) (Nat.le_of_ble_eq_true rfl)
  rw [lg_entry_eq]
  generalize (lg_sl ([.ref (r 0), .int (nI i), .int (nI i2)]) ++ List.replicate (5 - (lg_sl ([.ref (r 0), .int (nI i), .int (nI i2)])).length) Slot.unset).toArray = ls at hl ⊢
  have hl : lv_has ls 5 [(0, .ref (r 0)), (1, .int (nI i)), (2, .int (nI i2))] := hl
  refine lv_aload_n hx hb d_D_beats_0 rfl (lv_at hl 0 rfl) ?_
  refine va_get (D := (dC, dI)) (ci := 3) (v := .ref (r 3)) (C := R_D) (T := T_D) (N := 19) hx hb hts ti_D hown hK hP 0 rfl rfl 3 (by decide) (hts (Cond.fieldLink "MeasureRowsModel" 13 "MeasureRowsModel" "code" "[I") mw_269) (fun _ h9 => h9) rfl d_D_beats_1 ?_
  refine lv_iload_n hx hb d_D_beats_4 rfl (lv_at hl 1 rfl) ?_
  refine va_iald (D := (dC, dI)) hx hb hK hP 1 0 rfl rfl (i := nI i) (nI_in (by have := hM.1; omega) (by decide)) d_D_beats_5 ?_
  refine mr_top (show fco (nI i).toNatClampNeg = fco i from mr_nc (by have := hM.1; omega)) ?_
  refine vp_callSi (va_Run.run (va_runS (As := [.int (fco i)]) (rest := []) ⟨hx, hb, hml, hown, hts⟩ (mc_D_digits l s0 (fco i)) ⟨(mr_cB 1 (hts (Cond.code y_D_digits b_D_digits 1 (some .int)) mw_290) (hts (Cond.initialized y_D_digits.cls) mw_291) (hts (Cond.methodLink "MeasureRowsModel" 91 y_D_digits) mw_292) rfl rfl (by decide +kernel) ⟨Nat.le_of_ble_eq_true rfl, Nat.le_of_ble_eq_true rfl⟩), (hts (Cond.static y_D_digits) mw_293)⟩ (mr_pre0 hBH) rfl rfl hl.1 rfl (lv_room (Nat.le_of_ble_eq_true rfl)) d_D_beats_6 ⟨Nat.le_of_ble_eq_true rfl, Nat.le_of_ble_eq_true rfl⟩)) (fun r_1 h_2 => ?_)
  subst h_2
  refine lv_istore_n (lv' := [(3, .int (mv_D_digits (fco i))), (0, .ref (r 0)), (1, .int (nI i)), (2, .int (nI i2))]) hx hb d_D_beats_9 rfl hl (by decide) rfl (fun ls hl => ?_)
  refine lv_aload_n hx hb d_D_beats_10 rfl (lv_at hl 1 rfl) ?_
  refine va_get (D := (dC, dI)) (ci := 3) (v := .ref (r 3)) (C := R_D) (T := T_D) (N := 19) hx hb hts ti_D hown hK hP 0 rfl rfl 3 (by decide) (hts (Cond.fieldLink "MeasureRowsModel" 13 "MeasureRowsModel" "code" "[I") mw_269) (fun _ h9 => h9) rfl d_D_beats_11 ?_
  refine lv_iload_n hx hb d_D_beats_14 rfl (lv_at hl 3 rfl) ?_
  refine va_iald (D := (dC, dI)) hx hb hK hP 1 0 rfl rfl (i := nI i2) (nI_in (by have := hM.1; omega) (by decide)) d_D_beats_15 ?_
  refine mr_top (show fco (nI i2).toNatClampNeg = fco i2 from mr_nc (by have := hM.1; omega)) ?_
  refine vp_callSi (va_Run.run (va_runS (As := [.int (fco i2)]) (rest := []) ⟨hx, hb, hml, hown, hts⟩ (mc_D_digits l s0 (fco i2)) ⟨(mr_cB 1 (hts (Cond.code y_D_digits b_D_digits 1 (some .int)) mw_290) (hts (Cond.initialized y_D_digits.cls) mw_291) (hts (Cond.methodLink "MeasureRowsModel" 91 y_D_digits) mw_292) rfl rfl (by decide +kernel) ⟨Nat.le_of_ble_eq_true rfl, Nat.le_of_ble_eq_true rfl⟩), (hts (Cond.static y_D_digits) mw_293)⟩ (mr_pre0 hBH) rfl rfl hl.1 rfl (lv_room (Nat.le_of_ble_eq_true rfl)) d_D_beats_16 ⟨Nat.le_of_ble_eq_true rfl, Nat.le_of_ble_eq_true rfl⟩)) (fun r_3 h_4 => ?_)
  subst h_4
  refine lv_istore (lv' := [(4, .int (mv_D_digits (fco i2))), (3, .int (mv_D_digits (fco i))), (0, .ref (r 0)), (1, .int (nI i)), (2, .int (nI i2))]) hx hb d_D_beats_19 hl (by decide) rfl (fun ls hl => ?_)
  refine lv_aload_n hx hb d_D_beats_21 rfl (lv_at hl 2 rfl) ?_
  refine va_get (D := (dC, dI)) (ci := 3) (v := .ref (r 6)) (C := R_D) (T := T_D) (N := 19) hx hb hts ti_D hown hK hP 0 rfl rfl 6 (by decide) (hts (Cond.fieldLink "MeasureRowsModel" 22 "MeasureRowsModel" "kind" "[I") mw_271) (fun _ h9 => h9) rfl d_D_beats_22 ?_
  refine lv_iload_n hx hb d_D_beats_25 rfl (lv_at hl 3 rfl) ?_
  refine va_iald (D := (dC, dI)) hx hb hK hP 2 0 rfl rfl (i := nI i) (nI_in (by have := hM.1; omega) (by decide)) d_D_beats_26 ?_
  refine mr_top (show fki (nI i).toNatClampNeg = fki i from mr_nc (by have := hM.1; omega)) ?_
  refine lv_aload_n hx hb d_D_beats_27 rfl (lv_at hl 2 rfl) ?_
  refine va_get (D := (dC, dI)) (ci := 3) (v := .ref (r 6)) (C := R_D) (T := T_D) (N := 19) hx hb hts ti_D hown hK hP 0 rfl rfl 6 (by decide) (hts (Cond.fieldLink "MeasureRowsModel" 22 "MeasureRowsModel" "kind" "[I") mw_271) (fun _ h9 => h9) rfl d_D_beats_28 ?_
  refine lv_iload_n hx hb d_D_beats_31 rfl (lv_at hl 4 rfl) ?_
  refine va_iald (D := (dC, dI)) hx hb hK hP 2 0 rfl rfl (i := nI i2) (nI_in (by have := hM.1; omega) (by decide)) d_D_beats_32 ?_
  refine mr_top (show fki (nI i2).toNatClampNeg = fki i2 from mr_nc (by have := hM.1; omega)) ?_
  refine lv_icmp_ne (tgt := 67) hx hb d_D_beats_33 (by decide) (fun c_5 => ?_) (fun c_5 => ?_)
  · refine lv_iconst (v := 0) hx hb d_D_beats_67 (by decide) ?_
    exact W.zret (v := 0) hx hb hr (mr_narz mr_b0) (fun t ht _ => ⟨_, rfl, mr_b0, ht⟩) (fun _ h => nomatch h) d_D_beats_68
  · refine lv_iload_n hx hb d_D_beats_36 rfl (lv_at hl 1 rfl) ?_
    refine lv_iload hx hb d_D_beats_37 (lv_at hl 0 rfl) ?_
    refine lv_icmp_gt (tgt := 63) hx hb d_D_beats_39 (by decide) (fun c_6 => ?_) (fun c_6 => ?_)
    · refine lv_iconst (v := 1) hx hb d_D_beats_63 (by decide) ?_
      refine lv_goto (tgt := 68) hx hb d_D_beats_64 (by decide) ?_
      exact W.zret (v := 1) hx hb hr (mr_narz mr_b1) (fun t ht _ => ⟨_, rfl, mr_b1, ht⟩) (fun _ h => nomatch h) d_D_beats_68
    · refine lv_iload_n hx hb d_D_beats_42 rfl (lv_at hl 1 rfl) ?_
      refine lv_iload hx hb d_D_beats_43 (lv_at hl 0 rfl) ?_
      refine lv_icmp_ne (tgt := 67) hx hb d_D_beats_45 (by decide) (fun c_7 => ?_) (fun c_7 => ?_)
      · refine lv_iconst (v := 0) hx hb d_D_beats_67 (by decide) ?_
        exact W.zret (v := 0) hx hb hr (mr_narz mr_b0) (fun t ht _ => ⟨_, rfl, mr_b0, ht⟩) (fun _ h => nomatch h) d_D_beats_68
      · refine lv_aload_n hx hb d_D_beats_48 rfl (lv_at hl 2 rfl) ?_
        refine va_get (D := (dC, dI)) (ci := 3) (v := .ref (r 7)) (C := R_D) (T := T_D) (N := 19) hx hb hts ti_D hown hK hP 0 rfl rfl 7 (by decide) (hts (Cond.fieldLink "MeasureRowsModel" 25 "MeasureRowsModel" "rank" "[I") mw_272) (fun _ h9 => h9) rfl d_D_beats_49 ?_
        refine lv_iload_n hx hb d_D_beats_52 rfl (lv_at hl 3 rfl) ?_
        refine va_iald (D := (dC, dI)) hx hb hK hP 3 0 rfl rfl (i := nI i) (nI_in (by have := hM.1; omega) (by decide)) d_D_beats_53 ?_
        refine mr_top (show fra (nI i).toNatClampNeg = fra i from mr_nc (by have := hM.1; omega)) ?_
        refine lv_aload_n hx hb d_D_beats_54 rfl (lv_at hl 2 rfl) ?_
        refine va_get (D := (dC, dI)) (ci := 3) (v := .ref (r 7)) (C := R_D) (T := T_D) (N := 19) hx hb hts ti_D hown hK hP 0 rfl rfl 7 (by decide) (hts (Cond.fieldLink "MeasureRowsModel" 25 "MeasureRowsModel" "rank" "[I") mw_272) (fun _ h9 => h9) rfl d_D_beats_55 ?_
        refine lv_iload_n hx hb d_D_beats_58 rfl (lv_at hl 4 rfl) ?_
        refine va_iald (D := (dC, dI)) hx hb hK hP 3 0 rfl rfl (i := nI i2) (nI_in (by have := hM.1; omega) (by decide)) d_D_beats_59 ?_
        refine mr_top (show fra (nI i2).toNatClampNeg = fra i2 from mr_nc (by have := hM.1; omega)) ?_
        refine lv_icmp_le (tgt := 67) hx hb d_D_beats_60 (by decide) (fun c_8 => ?_) (fun c_8 => ?_)
        · refine lv_iconst (v := 0) hx hb d_D_beats_67 (by decide) ?_
          exact W.zret (v := 0) hx hb hr (mr_narz mr_b0) (fun t ht _ => ⟨_, rfl, mr_b0, ht⟩) (fun _ h => nomatch h) d_D_beats_68
        · refine lv_iconst (v := 1) hx hb d_D_beats_63 (by decide) ?_
          refine lv_goto (tgt := 68) hx hb d_D_beats_64 (by decide) ?_
          exact W.zret (v := 1) hx hb hr (mr_narz mr_b1) (fun t ht _ => ⟨_, rfl, mr_b1, ht⟩) (fun _ h => nomatch h) d_D_beats_68
def mv_D_isRow (n : Nat) (a0 : Int32) : Int32 := if a0 < 1 then 0 else if (nI n) < a0 then 0 else 1
theorem mv_D_isRow_b (n : Nat) (a0 : Int32) : mr_b01 (mv_D_isRow n a0) := (mr_bi mr_b0 (mr_bi mr_b0 mr_b1))
set_option maxHeartbeats 4000000 in
set_option maxRecDepth 100000 in
theorem mc_D_isRow (l : Launch) (s0 : State) (dC : Nat → ClassId) (dI : Nat → Nat → Nat) (cI cR cL cZ : ClassId) (r : Nat → Nat) (th nw pb lc : Int32) (n : Nat) (a0 : Int32) : Met l y_D_isRow [Cond.code y_D_isRow b_D_isRow 2 (some .boolean)] ({ frames := 0, cells := 0, slots := 0, locals := 0 }) (mr_PW s0 (dC, dI) [(cI, .int), (cR, .object "MeasureRows$Row"), (cL, .long), (cZ, .boolean)] [.ref (r 0), .int a0] [((r 0), .inr (3, mf_D r th (nI n) nw pb lc))]) (vp_Si (fun r => r = mv_D_isRow n a0)) 0 0 (fun _ => False) := by
  refine Met.ofW (cc := b_D_isRow) (maxL := 2) (ret := (some .boolean)) (by decide) rfl ?_
  intro p e s m args below meth c s₁ B hml hv
  obtain ⟨rfl, hB, hK, hP⟩ := hv
  have hBH := hB.here
  have hx := B.exec
  have hb := B.bytes
  have hr := B.returns
  have hlocks := B.notSynchronized
  have hts : ∀ w ∈ lw_tbl, w.before [.ref (r 0), .int a0].toArray s = true := hB.hts _
  have hown : s.vm.findClass "MeasureRowsModel" = some m.cls := findClass_of_methodNamed B.named
  have hl := lv_entry ([.ref (r 0), .int a0]) (n := 2) (Nat.le_of_ble_eq_true rfl)
  rw [lg_entry_eq]
  generalize (lg_sl ([.ref (r 0), .int a0]) ++ List.replicate (2 - (lg_sl ([.ref (r 0), .int a0])).length) Slot.unset).toArray = ls at hl ⊢
  have hl : lv_has ls 2 [(0, .ref (r 0)), (1, .int a0)] := hl
  refine lv_iload_n hx hb d_D_isRow_0 rfl (lv_at hl 1 rfl) ?_
  refine lv_iconst (v := 1) hx hb d_D_isRow_1 (by decide) ?_
  refine lv_icmp_lt (tgt := 17) hx hb d_D_isRow_2 (by decide) (fun c_1 => ?_) (fun c_1 => ?_)
  · refine lv_iconst (v := 0) hx hb d_D_isRow_17 (by decide) ?_
    exact W.zret (v := 0) hx hb hr (mr_narz mr_b0) (fun t ht _ => ⟨_, rfl, by unfold mv_D_isRow; rw [if_pos c_1], ht⟩) (fun _ h => nomatch h) d_D_isRow_18
  · refine lv_iload_n hx hb d_D_isRow_5 rfl (lv_at hl 1 rfl) ?_
    refine lv_aload_n hx hb d_D_isRow_6 rfl (lv_at hl 0 rfl) ?_
    refine va_get (D := (dC, dI)) (ci := 3) (v := .int (nI n)) (C := R_D) (T := T_D) (N := 19) hx hb hts ti_D hown hK hP 0 rfl rfl 2 (by decide) (hts (Cond.fieldLink "MeasureRowsModel" 81 "MeasureRowsModel" "rows" "I") mw_294) (fun _ h9 => h9) rfl d_D_isRow_7 ?_
    refine lv_icmp_gt (tgt := 17) hx hb d_D_isRow_10 (by decide) (fun c_2 => ?_) (fun c_2 => ?_)
    · refine lv_iconst (v := 0) hx hb d_D_isRow_17 (by decide) ?_
      exact W.zret (v := 0) hx hb hr (mr_narz mr_b0) (fun t ht _ => ⟨_, rfl, by unfold mv_D_isRow; rw [if_neg c_1, if_pos c_2], ht⟩) (fun _ h => nomatch h) d_D_isRow_18
    · refine lv_iconst (v := 1) hx hb d_D_isRow_13 (by decide) ?_
      refine lv_goto (tgt := 18) hx hb d_D_isRow_14 (by decide) ?_
      exact W.zret (v := 1) hx hb hr (mr_narz mr_b1) (fun t ht _ => ⟨_, rfl, by unfold mv_D_isRow; rw [if_neg c_1, if_neg c_2], ht⟩) (fun _ h => nomatch h) d_D_isRow_18
theorem mv_isRow_y {n i : Nat} (h1 : 1 ≤ i) (hn : i ≤ n) (h8 : n ≤ 80) : mv_D_isRow n (nI i) = 1 := by
  unfold mv_D_isRow
  rw [if_neg (show ¬ nI i < 1 from nI_nlt (b := 1) h1 (by omega)), if_neg (nI_nlt hn (by omega))]
theorem mv_isRow_c {n : Nat} (h8 : n ≤ 80) (x : Int32) : mv_D_isRow n x = 0 ∨ ∃ i, 1 ≤ i ∧ i ≤ n ∧ x = nI i := by
  unfold mv_D_isRow
  by_cases h1 : x < 1
  · rw [if_pos h1]; exact Or.inl rfl
  · rw [if_neg h1]
    by_cases h2 : nI n < x
    · rw [if_pos h2]; exact Or.inl rfl
    · obtain ⟨i, hi, rfl⟩ := mr_fi h8 h1 h2
      exact Or.inr ⟨i + 1, by omega, by omega, rfl⟩
set_option maxHeartbeats 4000000 in
set_option maxRecDepth 100000 in
theorem mc_D_fails (l : Launch) (s0 : State) (dC : Nat → ClassId) (dI : Nat → Nat → Nat) (cI cR cL cZ : ClassId) (r : Nat → Nat) (th rw nw pb lc : Int32) (sz : Nat) (a0 : Int32)  : Met l y_D_fails [Cond.code y_D_fails b_D_fails 2 (some .int)] ({ frames := 0, cells := 0, slots := 0, locals := 0 }) (mr_PC s0 (dC, dI) [(cI, .int), (cR, .object "MeasureRows$Row"), (cL, .long), (cZ, .boolean)] [.ref (r 0), .int a0] [((r 0), .inr (3, mf_D r th rw nw pb lc))] sz) (va_Qi (fun rr _ => rr = 0) (fun (u : Unit) t => mr_W (dC, dI) [(cI, .int), (cR, .object "MeasureRows$Row"), (cL, .long), (cZ, .boolean)] (va_A [((r 0), .inr (3, mf_D r th rw nw pb lc))] sz) [((r 0), .inr (3, mf_D r a0 rw nw pb lc))] t) (va_A [((r 0), .inr (3, mf_D r th rw nw pb lc))] sz)) 0 0 (va_A [((r 0), .inr (3, mf_D r th rw nw pb lc))] sz) := by
  refine Met.ofW (cc := b_D_fails) (maxL := 2) (ret := (some .int)) (by decide) rfl ?_
  intro p e s m args below meth c s₁ B hml hv
  obtain ⟨rfl, hsz, hB, hK, hP, hD0⟩ := hv
  subst hsz
  have hA0 := mr_A hB hD0
  have hD := hD0.self (sz := s.heap.size)
  generalize hAe : va_A [((r 0), .inr (3, mf_D r th rw nw pb lc))] s.heap.size = A at hD hA0 ⊢
  have hA : ∀ q : Nat, s.heap.size ≤ q → A q := fun q h => by rw [← hAe]; exact Or.inr h
  have hS : va_S A s.heap s.heap [] := va_S.rf
  have hP : va_P (dC, dI) mr_cl [((r 0), .inr (3, mf_D r th rw nw pb lc))] s.heap := hP
  have hBH := hB.at hS hA0
  have hx := B.exec
  have hb := B.bytes
  have hr := B.returns
  have hlocks := B.notSynchronized
  have hts : ∀ w ∈ lw_tbl, w.before [.ref (r 0), .int a0].toArray s = true := hB.hts _
  have hown : s.vm.findClass "MeasureRowsModel" = some m.cls := findClass_of_methodNamed B.named
  have hl := lv_entry ([.ref (r 0), .int a0]) (n := 2) (Nat.le_of_ble_eq_true rfl)
  rw [lg_entry_eq]
  generalize (lg_sl ([.ref (r 0), .int a0]) ++ List.replicate (2 - (lg_sl ([.ref (r 0), .int a0])).length) Slot.unset).toArray = ls at hl ⊢
  have hl : lv_has ls 2 [(0, .ref (r 0)), (1, .int a0)] := hl
  refine lv_aload_n hx hb d_D_fails_0 rfl (lv_at hl 0 rfl) ?_
  refine lv_iload_n hx hb d_D_fails_1 rfl (lv_at hl 1 rfl) ?_
  refine va_put (D := (dC, dI)) (ci := 3) (v := .int a0) (ty := .int) (C := R_D) (T := T_D) (N := 19) hx hb hts ti_D t_D to_D tn_D hown hK hP hD hS 0 rfl rfl 0 (by decide) (hts (Cond.fieldLink "MeasureRowsModel" 53 "MeasureRowsModel" "thrown" "I") mw_295) (fun _ h9 => h9) rfl (by decide +kernel) rfl rfl (Nat.le_of_ble_eq_true rfl) d_D_fails_2 (fun H locs hP hD hS => ?_)
  have hP : va_P (dC, dI) mr_cl [((r 0), .inr (3, mf_D r a0 rw nw pb lc))] H := hP
  have hD : va_D A [((r 0), .inr (3, mf_D r a0 rw nw pb lc))] := hD
  have hBH := hB.at hS hA0
  refine lv_iconst (v := 0) hx hb d_D_fails_5 (by decide) ?_
  have hP9 := hP.sub (ws' := [((r 0), .inr (3, mf_D r a0 rw nw pb lc))]) [0] rfl
  have hD9 := hD.sub (ws' := [((r 0), .inr (3, mf_D r a0 rw nw pb lc))]) [0] (by decide) rfl
  exact W.iret (v := 0) hx hb hr (fun t ht hW => ⟨⟨_, (), rfl, rfl, by rw [ht]; exact hP9, va_K.moved hW.alike hK, hD9⟩, hS.F ht⟩) hS.2.2 d_D_fails_6
