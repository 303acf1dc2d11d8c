
def mv_D_end_y (ffi : Nat → Int32) (fe : Nat → Int32) (fa : Nat → Int32) (fk : Nat → Int32) (nw : Int32) (i : Nat) (a1 : Int32) (a2 : Int32) : Int32 := if (mv_D_isDay a1) = 0 then (if a1 = 20000 then (if (mv_D_isDay a2) = 0 then 0 else if (fe i) = 8 then 0 else if (ffi i) ≤ a1 then (if a2 ≤ nw then ((fe i) + 1) else ((fe i) + 1)) else 0) else 0) else if (mv_D_isDay a2) = 0 then 0 else if (fe i) = 8 then 0 else if (ffi i) ≤ a1 then (if a2 ≤ nw then ((fe i) + 1) else ((fe i) + 1)) else 0
def mN_D_end_y_th (ffi : Nat → Int32) (fe : Nat → Int32) (fa : Nat → Int32) (fk : Nat → Int32) (nw : Int32) (i : Nat) (a1 : Int32) (a2 : Int32) : Int32 := if (mv_D_isDay a1) = 0 then (if a1 = 20000 then (if (mv_D_isDay a2) = 0 then 2 else if (fe i) = 8 then 3 else if (ffi i) ≤ a1 then (if a2 ≤ nw then 0 else 0) else 0) else 2) else if (mv_D_isDay a2) = 0 then 2 else if (fe i) = 8 then 3 else if (ffi i) ≤ a1 then (if a2 ≤ nw then 0 else 0) else 0
def mN_D_end_y_nw (ffi : Nat → Int32) (fe : Nat → Int32) (fa : Nat → Int32) (fk : Nat → Int32) (nw : Int32) (i : Nat) (a1 : Int32) (a2 : Int32) : Int32 := if (mv_D_isDay a1) = 0 then (if a1 = 20000 then (if (mv_D_isDay a2) = 0 then nw else if (fe i) = 8 then nw else if (ffi i) ≤ a1 then (if a2 ≤ nw then nw else a2) else nw) else nw) else if (mv_D_isDay a2) = 0 then nw else if (fe i) = 8 then nw else if (ffi i) ≤ a1 then (if a2 ≤ nw then nw else a2) else nw
def mN_D_end_y_fe (ffi : Nat → Int32) (fe : Nat → Int32) (fa : Nat → Int32) (fk : Nat → Int32) (nw : Int32) (i : Nat) (a1 : Int32) (a2 : Int32) : Nat → Int32 := if (mv_D_isDay a1) = 0 then (if a1 = 20000 then (if (mv_D_isDay a2) = 0 then fe else if (fe i) = 8 then fe else if (ffi i) ≤ a1 then (if a2 ≤ nw then (upd fe (nI i).toNatClampNeg ((fe i) + 1)) else (upd fe (nI i).toNatClampNeg ((fe i) + 1))) else fe) else fe) else if (mv_D_isDay a2) = 0 then fe else if (fe i) = 8 then fe else if (ffi i) ≤ a1 then (if a2 ≤ nw then (upd fe (nI i).toNatClampNeg ((fe i) + 1)) else (upd fe (nI i).toNatClampNeg ((fe i) + 1))) else fe
def mN_D_end_y_fa (ffi : Nat → Int32) (fe : Nat → Int32) (fa : Nat → Int32) (fk : Nat → Int32) (nw : Int32) (i : Nat) (a1 : Int32) (a2 : Int32) : Nat → Int32 := if (mv_D_isDay a1) = 0 then (if a1 = 20000 then (if (mv_D_isDay a2) = 0 then fa else if (fe i) = 8 then fa else if (ffi i) ≤ a1 then (if a2 ≤ nw then (upd fa ((nI (8 * i)) + (fe i)).toNatClampNeg a1) else (upd fa ((nI (8 * i)) + (fe i)).toNatClampNeg a1)) else fa) else fa) else if (mv_D_isDay a2) = 0 then fa else if (fe i) = 8 then fa else if (ffi i) ≤ a1 then (if a2 ≤ nw then (upd fa ((nI (8 * i)) + (fe i)).toNatClampNeg a1) else (upd fa ((nI (8 * i)) + (fe i)).toNatClampNeg a1)) else fa
def mN_D_end_y_fk (ffi : Nat → Int32) (fe : Nat → Int32) (fa : Nat → Int32) (fk : Nat → Int32) (nw : Int32) (i : Nat) (a1 : Int32) (a2 : Int32) : Nat → Int32 := if (mv_D_isDay a1) = 0 then (if a1 = 20000 then (if (mv_D_isDay a2) = 0 then fk else if (fe i) = 8 then fk else if (ffi i) ≤ a1 then (if a2 ≤ nw then (upd fk ((nI (8 * i)) + (fe i)).toNatClampNeg a2) else (upd fk ((nI (8 * i)) + (fe i)).toNatClampNeg a2)) else fk) else fk) else if (mv_D_isDay a2) = 0 then fk else if (fe i) = 8 then fk else if (ffi i) ≤ a1 then (if a2 ≤ nw then (upd fk ((nI (8 * i)) + (fe i)).toNatClampNeg a2) else (upd fk ((nI (8 * i)) + (fe i)).toNatClampNeg a2)) else fk
set_option maxHeartbeats 4000000 in
set_option maxRecDepth 100000 in
theorem mc_D_end_yX (l : Launch) (s0 : State) (dC : Nat → ClassId) (dI : Nat → Nat → Nat) (cI cR cL cZ : ClassId) (r : Nat → Nat) (th nw pb lc : Int32) (n : Nat) (fco ffi fe fa fk : Nat → Int32) (i : Nat) (sz : Nat) (a1 : Int32) (a2 : Int32) (hi1 : 1 ≤ i) (hin : i ≤ n) (hM : mr_MI n fe fco) : Met l y_D_end [Cond.code y_D_end b_D_end 4 (some .int)] ({ frames := 2, cells := 0, slots := 0, locals := 42 }) (mr_PC s0 (dC, dI) [(cI, .int), (cR, .object "MeasureRows$Row"), (cL, .long), (cZ, .boolean)] [.ref (r 0), .int (nI i), .int a1, .int a2] [((r 0), .inr (3, mf_D r th (nI n) nw pb lc)), ((r 3), .inl (cI, 81, .inl fco)), ((r 5), .inl (cI, 81, .inl ffi)), ((r 11), .inl (cI, 81, .inl fe)), ((r 12), .inl (cI, 648, .inl fa)), ((r 13), .inl (cI, 648, .inl fk))] sz) (va_Qi (fun rr _ => rr = mv_D_end_y ffi fe fa fk nw i a1 a2) (fun (u : Unit) t => ∃ (th9 : Int32) (nw9 : Int32) (fe9 : Nat → Int32) (fa9 : Nat → Int32) (fk9 : Nat → Int32), mr_W (dC, dI) [(cI, .int), (cR, .object "MeasureRows$Row"), (cL, .long), (cZ, .boolean)] (va_A [((r 0), .inr (3, mf_D r th (nI n) nw pb lc)), ((r 3), .inl (cI, 81, .inl fco)), ((r 5), .inl (cI, 81, .inl ffi)), ((r 11), .inl (cI, 81, .inl fe)), ((r 12), .inl (cI, 648, .inl fa)), ((r 13), .inl (cI, 648, .inl fk))] sz) [((r 0), .inr (3, mf_D r th9 (nI n) nw9 pb lc)), ((r 3), .inl (cI, 81, .inl fco)), ((r 5), .inl (cI, 81, .inl ffi)), ((r 11), .inl (cI, 81, .inl fe9)), ((r 12), .inl (cI, 648, .inl fa9)), ((r 13), .inl (cI, 648, .inl fk9))] t ∧ th9 = (mN_D_end_y_th ffi fe fa fk nw i a1 a2) ∧ nw9 = (mN_D_end_y_nw ffi fe fa fk nw i a1 a2) ∧ fe9 = (mN_D_end_y_fe ffi fe fa fk nw i a1 a2) ∧ fa9 = (mN_D_end_y_fa ffi fe fa fk nw i a1 a2) ∧ fk9 = (mN_D_end_y_fk ffi fe fa fk nw i a1 a2)) (va_A [((r 0), .inr (3, mf_D r th (nI n) nw pb lc)), ((r 3), .inl (cI, 81, .inl fco)), ((r 5), .inl (cI, 81, .inl ffi)), ((r 11), .inl (cI, 81, .inl fe)), ((r 12), .inl (cI, 648, .inl fa)), ((r 13), .inl (cI, 648, .inl fk))] sz)) 0 0 (va_A [((r 0), .inr (3, mf_D r th (nI n) nw pb lc)), ((r 3), .inl (cI, 81, .inl fco)), ((r 5), .inl (cI, 81, .inl ffi)), ((r 11), .inl (cI, 81, .inl fe)), ((r 12), .inl (cI, 648, .inl fa)), ((r 13), .inl (cI, 648, .inl fk))] sz) := by
  refine Met.ofW (cc := b_D_end) (maxL := 4) (ret := (some .int)) (by decide) rfl ?_
  intro p e s m args below meth c s₁ B hml hv
  obtain ⟨rfl, hsz, hB, hK, hP, hD0⟩ := hv
  subst hsz
  have hA0 := mr_A hB hD0
  have hD := hD0.self (sz := s.heap.size)
  generalize hAe : va_A [((r 0), .inr (3, mf_D r th (nI n) nw pb lc)), ((r 3), .inl (cI, 81, .inl fco)), ((r 5), .inl (cI, 81, .inl ffi)), ((r 11), .inl (cI, 81, .inl fe)), ((r 12), .inl (cI, 648, .inl fa)), ((r 13), .inl (cI, 648, .inl fk))] s.heap.size = A at hD hA0 ⊢
  have hA : ∀ q : Nat, s.heap.size ≤ q → A q := fun q h => by rw [← hAe]; exact Or.inr h
  have hS : va_S A s.heap s.heap [] := va_S.rf
  have hP : va_P (dC, dI) mr_cl [((r 0), .inr (3, mf_D r th (nI n) nw pb lc)), ((r 3), .inl (cI, 81, .inl fco)), ((r 5), .inl (cI, 81, .inl ffi)), ((r 11), .inl (cI, 81, .inl fe)), ((r 12), .inl (cI, 648, .inl fa)), ((r 13), .inl (cI, 648, .inl fk))] s.heap := hP
  have hBH := hB.at hS hA0
  have hx := B.exec
  have hb := B.bytes
  have hr := B.returns
  have hlocks := B.notSynchronized
  have hts : ∀ w ∈ lw_tbl, w.before [.ref (r 0), .int (nI i), .int a1, .int a2].toArray s = true := hB.hts _
  have hown : s.vm.findClass "MeasureRowsModel" = some m.cls := findClass_of_methodNamed B.named
  have hl := lv_entry ([.ref (r 0), .int (nI i), .int a1, .int a2]) (n := 4) (Nat.le_of_ble_eq_true rfl)
  rw [lg_entry_eq]
  generalize (lg_sl ([.ref (r 0), .int (nI i), .int a1, .int a2]) ++ List.replicate (4 - (lg_sl ([.ref (r 0), .int (nI i), .int a1, .int a2])).length) Slot.unset).toArray = ls at hl ⊢
  have hl : lv_has ls 4 [(0, .ref (r 0)), (1, .int (nI i)), (2, .int a1), (3, .int a2)] := hl
  obtain ⟨t9, het9, h19, h89⟩ := (hM.2 i hi1 hin).1
  refine lv_aload_n hx hb d_D_end_0 rfl (lv_at hl 0 rfl) ?_
  refine lv_iload_n hx hb d_D_end_1 rfl (lv_at hl 1 rfl) ?_
  refine vp_callSi (va_Run.run (va_runV (As := [.int (nI i)]) (rest := []) (C := R_D) ⟨hx, hb, hml, hown, hts⟩ (mc_D_isRow l s0 dC dI cI cR cL cZ r th nw pb lc n (nI i)) ⟨(mr_cB 1 (hts (Cond.code y_D_isRow b_D_isRow 2 (some .boolean)) mw_296) (hts (Cond.initialized y_D_isRow.cls) mw_297) (hts (Cond.methodLink "MeasureRowsModel" 104 y_D_isRow) mw_298) rfl rfl (by decide +kernel) ⟨Nat.le_of_ble_eq_true rfl, Nat.le_of_ble_eq_true rfl⟩), (hts (Cond.instanceMethod y_D_isRow) mw_299), (hts (Cond.selects "MeasureRowsModel" y_D_isRow y_D_isRow) mw_300)⟩ (mr_preV hBH hK (hP.sub (ws' := [((r 0), .inr (3, mf_D r th (nI n) nw pb lc))]) [0] rfl) (ci := 3) (q0 := 0) rfl rfl) rfl rfl hl.1 rfl (lv_room (Nat.le_of_ble_eq_true rfl)) d_D_end_2 ⟨Nat.le_of_ble_eq_true rfl, Nat.le_of_ble_eq_true rfl⟩)) (fun r_1 h_2 => ?_)
  subst h_2
  refine mr_top (mv_isRow_y hi1 hin hM.1) ?_
  refine lv_if_ne (tgt := 14) hx hb d_D_end_5 (by decide) (fun _ => ?_) (fun c_3 => absurd c_3 (by decide))
  refine lv_iload_n hx hb d_D_end_14 rfl (lv_at hl 2 rfl) ?_
  refine vp_callSi (va_Run.run (va_runS (As := [.int a1]) (rest := []) ⟨hx, hb, hml, hown, hts⟩ (mc_D_isDay l s0 a1) ⟨(mr_cB 1 (hts (Cond.code y_D_isDay b_D_isDay 1 (some .boolean)) mw_314) (hts (Cond.initialized y_D_isDay.cls) mw_315) (hts (Cond.methodLink "MeasureRowsModel" 94 y_D_isDay) mw_316) rfl rfl (by decide +kernel) ⟨Nat.le_of_ble_eq_true rfl, Nat.le_of_ble_eq_true rfl⟩), (hts (Cond.static y_D_isDay) mw_317)⟩ (mr_pre0 hBH) rfl rfl hl.1 rfl (lv_room (Nat.le_of_ble_eq_true rfl)) d_D_end_15 ⟨Nat.le_of_ble_eq_true rfl, Nat.le_of_ble_eq_true rfl⟩)) (fun r_4 h_5 => ?_)
  subst h_5
  refine lv_if_ne (tgt := 28) hx hb d_D_end_18 (by decide) (fun c_6 => ?_) (fun c_6 => ?_)
  · refine lv_iload_n hx hb d_D_end_28 rfl (lv_at hl 3 rfl) ?_
    refine vp_callSi (va_Run.run (va_runS (As := [.int a2]) (rest := []) ⟨hx, hb, hml, hown, hts⟩ (mc_D_isDay l s0 a2) ⟨(mr_cB 1 (hts (Cond.code y_D_isDay b_D_isDay 1 (some .boolean)) mw_314) (hts (Cond.initialized y_D_isDay.cls) mw_315) (hts (Cond.methodLink "MeasureRowsModel" 94 y_D_isDay) mw_316) rfl rfl (by decide +kernel) ⟨Nat.le_of_ble_eq_true rfl, Nat.le_of_ble_eq_true rfl⟩), (hts (Cond.static y_D_isDay) mw_317)⟩ (mr_pre0 hBH) rfl rfl hl.1 rfl (lv_room (Nat.le_of_ble_eq_true rfl)) d_D_end_29 ⟨Nat.le_of_ble_eq_true rfl, Nat.le_of_ble_eq_true rfl⟩)) (fun r_7 h_8 => ?_)
    subst h_8
    refine lv_if_ne (tgt := 41) hx hb d_D_end_32 (by decide) (fun c_9 => ?_) (fun c_9 => ?_)
    · refine lv_aload_n hx hb d_D_end_41 rfl (lv_at hl 0 rfl) ?_
      refine va_get (D := (dC, dI)) (ci := 3) (v := .ref (r 11)) (C := R_D) (T := T_D) (N := 19) hx hb hts ti_D hown hK hP 0 rfl rfl 11 (by decide) (hts (Cond.fieldLink "MeasureRowsModel" 37 "MeasureRowsModel" "ends" "[I") mw_260) (fun _ h9 => h9) rfl d_D_end_42 ?_
      refine lv_iload_n hx hb d_D_end_45 rfl (lv_at hl 1 rfl) ?_
      refine va_iald (D := (dC, dI)) hx hb hK hP 3 0 rfl rfl (i := nI i) (nI_in (by have := hM.1; omega) (by decide)) d_D_end_46 ?_
      refine mr_top (show fe (nI i).toNatClampNeg = fe i from mr_nc (by have := hM.1; omega)) ?_
      refine lv_bipush (v := 8) hx hb d_D_end_47 (by decide) ?_
      refine lv_icmp_ne (tgt := 58) hx hb d_D_end_49 (by decide) (fun c_10 => ?_) (fun c_10 => ?_)
      · refine lv_aload_n hx hb d_D_end_58 rfl (lv_at hl 0 rfl) ?_
        refine lv_iconst (v := 0) hx hb d_D_end_59 (by decide) ?_
        refine va_put (D := (dC, dI)) (ci := 3) (v := .int 0) (ty := .int) (C := R_D) (T := T_D) (N := 19) hx hb hts ti_D t_D to_D tn_D hown hK hP hD hS 0 rfl rfl 0 (by decide) (hts (Cond.fieldLink "MeasureRowsModel" 53 "MeasureRowsModel" "thrown" "I") mw_295) (fun _ h9 => h9) rfl (by decide +kernel) rfl rfl (Nat.le_of_ble_eq_true rfl) d_D_end_60 (fun H locs hP hD hS => ?_)
        have hP : va_P (dC, dI) mr_cl [((r 0), .inr (3, mf_D r 0 (nI n) nw pb lc)), ((r 3), .inl (cI, 81, .inl fco)), ((r 5), .inl (cI, 81, .inl ffi)), ((r 11), .inl (cI, 81, .inl fe)), ((r 12), .inl (cI, 648, .inl fa)), ((r 13), .inl (cI, 648, .inl fk))] H := hP
        have hD : va_D A [((r 0), .inr (3, mf_D r 0 (nI n) nw pb lc)), ((r 3), .inl (cI, 81, .inl fco)), ((r 5), .inl (cI, 81, .inl ffi)), ((r 11), .inl (cI, 81, .inl fe)), ((r 12), .inl (cI, 648, .inl fa)), ((r 13), .inl (cI, 648, .inl fk))] := hD
        have hBH := hB.at hS hA0
        refine lv_iload_n hx hb d_D_end_63 rfl (lv_at hl 2 rfl) ?_
        refine lv_aload_n hx hb d_D_end_64 rfl (lv_at hl 0 rfl) ?_
        refine va_get (D := (dC, dI)) (ci := 3) (v := .ref (r 5)) (C := R_D) (T := T_D) (N := 19) hx hb hts ti_D hown hK hP 0 rfl rfl 5 (by decide) (hts (Cond.fieldLink "MeasureRowsModel" 19 "MeasureRowsModel" "first" "[I") mw_263) (fun _ h9 => h9) rfl d_D_end_65 ?_
        refine lv_iload_n hx hb d_D_end_68 rfl (lv_at hl 1 rfl) ?_
        refine va_iald (D := (dC, dI)) hx hb hK hP 2 0 rfl rfl (i := nI i) (nI_in (by have := hM.1; omega) (by decide)) d_D_end_69 ?_
        refine mr_top (show ffi (nI i).toNatClampNeg = ffi i from mr_nc (by have := hM.1; omega)) ?_
        refine lv_icmp_ge (tgt := 75) hx hb d_D_end_70 (by decide) (fun c_11 => ?_) (fun c_11 => ?_)
        · refine lv_aload_n hx hb d_D_end_75 rfl (lv_at hl 0 rfl) ?_
          refine va_get (D := (dC, dI)) (ci := 3) (v := .ref (r 12)) (C := R_D) (T := T_D) (N := 19) hx hb hts ti_D hown hK hP 0 rfl rfl 12 (by decide) (hts (Cond.fieldLink "MeasureRowsModel" 40 "MeasureRowsModel" "last" "[I") mw_262) (fun _ h9 => h9) rfl d_D_end_76 ?_
          refine lv_bipush (v := 8) hx hb d_D_end_79 (by decide) ?_
          refine lv_iload_n hx hb d_D_end_81 rfl (lv_at hl 1 rfl) ?_
          refine lv_imul hx hb d_D_end_82 ?_
          refine mr_top (mr_mul8 i) ?_
          refine lv_aload_n hx hb d_D_end_83 rfl (lv_at hl 0 rfl) ?_
          refine va_get (D := (dC, dI)) (ci := 3) (v := .ref (r 11)) (C := R_D) (T := T_D) (N := 19) hx hb hts ti_D hown hK hP 0 rfl rfl 11 (by decide) (hts (Cond.fieldLink "MeasureRowsModel" 37 "MeasureRowsModel" "ends" "[I") mw_260) (fun _ h9 => h9) rfl d_D_end_84 ?_
          refine lv_iload_n hx hb d_D_end_87 rfl (lv_at hl 1 rfl) ?_
          refine va_iald (D := (dC, dI)) hx hb hK hP 3 0 rfl rfl (i := nI i) (nI_in (by have := hM.1; omega) (by decide)) d_D_end_88 ?_
          refine mr_top (show fe (nI i).toNatClampNeg = fe i from mr_nc (by have := hM.1; omega)) ?_
          refine lv_iadd hx hb d_D_end_89 ?_
          refine lv_iload_n hx hb d_D_end_90 rfl (lv_at hl 2 rfl) ?_
          refine va_iast (D := (dC, dI)) hx hb hK hP hD hS 4 0 rfl rfl (i := (nI (8 * i)) + (fe i)) (by rw [het9, nI_add]; exact nI_in (by have := hM.1; have := mr_t9 (by rw [← het9]; exact c_10) h89; omega) (by decide)) d_D_end_91 (fun H locs hP hD hS => ?_)
          have hP : va_P (dC, dI) mr_cl [((r 0), .inr (3, mf_D r 0 (nI n) nw pb lc)), ((r 3), .inl (cI, 81, .inl fco)), ((r 5), .inl (cI, 81, .inl ffi)), ((r 11), .inl (cI, 81, .inl fe)), ((r 12), .inl (cI, 648, .inl (upd fa ((nI (8 * i)) + (fe i)).toNatClampNeg a1))), ((r 13), .inl (cI, 648, .inl fk))] H := hP
          have hD : va_D A [((r 0), .inr (3, mf_D r 0 (nI n) nw pb lc)), ((r 3), .inl (cI, 81, .inl fco)), ((r 5), .inl (cI, 81, .inl ffi)), ((r 11), .inl (cI, 81, .inl fe)), ((r 12), .inl (cI, 648, .inl (upd fa ((nI (8 * i)) + (fe i)).toNatClampNeg a1))), ((r 13), .inl (cI, 648, .inl fk))] := hD
          have hBH := hB.at hS hA0
          refine lv_aload_n hx hb d_D_end_92 rfl (lv_at hl 0 rfl) ?_
          refine va_get (D := (dC, dI)) (ci := 3) (v := .ref (r 13)) (C := R_D) (T := T_D) (N := 19) hx hb hts ti_D hown hK hP 0 rfl rfl 13 (by decide) (hts (Cond.fieldLink "MeasureRowsModel" 43 "MeasureRowsModel" "lastKnown" "[I") mw_261) (fun _ h9 => h9) rfl d_D_end_93 ?_
          refine lv_bipush (v := 8) hx hb d_D_end_96 (by decide) ?_
          refine lv_iload_n hx hb d_D_end_98 rfl (lv_at hl 1 rfl) ?_
          refine lv_imul hx hb d_D_end_99 ?_
          refine mr_top (mr_mul8 i) ?_
          refine lv_aload_n hx hb d_D_end_100 rfl (lv_at hl 0 rfl) ?_
          refine va_get (D := (dC, dI)) (ci := 3) (v := .ref (r 11)) (C := R_D) (T := T_D) (N := 19) hx hb hts ti_D hown hK hP 0 rfl rfl 11 (by decide) (hts (Cond.fieldLink "MeasureRowsModel" 37 "MeasureRowsModel" "ends" "[I") mw_260) (fun _ h9 => h9) rfl d_D_end_101 ?_
          refine lv_iload_n hx hb d_D_end_104 rfl (lv_at hl 1 rfl) ?_
          refine va_iald (D := (dC, dI)) hx hb hK hP 3 0 rfl rfl (i := nI i) (nI_in (by have := hM.1; omega) (by decide)) d_D_end_105 ?_
          refine mr_top (show fe (nI i).toNatClampNeg = fe i from mr_nc (by have := hM.1; omega)) ?_
          refine lv_iadd hx hb d_D_end_106 ?_
          refine lv_iload_n hx hb d_D_end_107 rfl (lv_at hl 3 rfl) ?_
          refine va_iast (D := (dC, dI)) hx hb hK hP hD hS 5 0 rfl rfl (i := (nI (8 * i)) + (fe i)) (by rw [het9, nI_add]; exact nI_in (by have := hM.1; have := mr_t9 (by rw [← het9]; exact c_10) h89; omega) (by decide)) d_D_end_108 (fun H locs hP hD hS => ?_)
          have hP : va_P (dC, dI) mr_cl [((r 0), .inr (3, mf_D r 0 (nI n) nw pb lc)), ((r 3), .inl (cI, 81, .inl fco)), ((r 5), .inl (cI, 81, .inl ffi)), ((r 11), .inl (cI, 81, .inl fe)), ((r 12), .inl (cI, 648, .inl (upd fa ((nI (8 * i)) + (fe i)).toNatClampNeg a1))), ((r 13), .inl (cI, 648, .inl (upd fk ((nI (8 * i)) + (fe i)).toNatClampNeg a2)))] H := hP
          have hD : va_D A [((r 0), .inr (3, mf_D r 0 (nI n) nw pb lc)), ((r 3), .inl (cI, 81, .inl fco)), ((r 5), .inl (cI, 81, .inl ffi)), ((r 11), .inl (cI, 81, .inl fe)), ((r 12), .inl (cI, 648, .inl (upd fa ((nI (8 * i)) + (fe i)).toNatClampNeg a1))), ((r 13), .inl (cI, 648, .inl (upd fk ((nI (8 * i)) + (fe i)).toNatClampNeg a2)))] := hD
          have hBH := hB.at hS hA0
          refine lv_aload_n hx hb d_D_end_109 rfl (lv_at hl 0 rfl) ?_
          refine va_get (D := (dC, dI)) (ci := 3) (v := .ref (r 11)) (C := R_D) (T := T_D) (N := 19) hx hb hts ti_D hown hK hP 0 rfl rfl 11 (by decide) (hts (Cond.fieldLink "MeasureRowsModel" 37 "MeasureRowsModel" "ends" "[I") mw_260) (fun _ h9 => h9) rfl d_D_end_110 ?_
          refine lv_iload_n hx hb d_D_end_113 rfl (lv_at hl 1 rfl) ?_
          refine lv_dup2_11 hx hb d_D_end_114 rfl rfl ?_
          refine va_iald (D := (dC, dI)) hx hb hK hP 3 0 rfl rfl (i := nI i) (nI_in (by have := hM.1; omega) (by decide)) d_D_end_115 ?_
          refine mr_top (show fe (nI i).toNatClampNeg = fe i from mr_nc (by have := hM.1; omega)) ?_
          refine lv_iconst (v := 1) hx hb d_D_end_116 (by decide) ?_
          refine lv_iadd hx hb d_D_end_117 ?_
          refine va_iast (D := (dC, dI)) hx hb hK hP hD hS 3 0 rfl rfl (i := nI i) (nI_in (by have := hM.1; omega) (by decide)) d_D_end_118 (fun H locs hP hD hS => ?_)
          have hP : va_P (dC, dI) mr_cl [((r 0), .inr (3, mf_D r 0 (nI n) nw pb lc)), ((r 3), .inl (cI, 81, .inl fco)), ((r 5), .inl (cI, 81, .inl ffi)), ((r 11), .inl (cI, 81, .inl (upd fe (nI i).toNatClampNeg ((fe i) + 1)))), ((r 12), .inl (cI, 648, .inl (upd fa ((nI (8 * i)) + (fe i)).toNatClampNeg a1))), ((r 13), .inl (cI, 648, .inl (upd fk ((nI (8 * i)) + (fe i)).toNatClampNeg a2)))] H := hP
          have hD : va_D A [((r 0), .inr (3, mf_D r 0 (nI n) nw pb lc)), ((r 3), .inl (cI, 81, .inl fco)), ((r 5), .inl (cI, 81, .inl ffi)), ((r 11), .inl (cI, 81, .inl (upd fe (nI i).toNatClampNeg ((fe i) + 1)))), ((r 12), .inl (cI, 648, .inl (upd fa ((nI (8 * i)) + (fe i)).toNatClampNeg a1))), ((r 13), .inl (cI, 648, .inl (upd fk ((nI (8 * i)) + (fe i)).toNatClampNeg a2)))] := hD
          have hBH := hB.at hS hA0
          refine lv_aload_n hx hb d_D_end_119 rfl (lv_at hl 0 rfl) ?_
          refine lv_iload_n hx hb d_D_end_120 rfl (lv_at hl 3 rfl) ?_
          refine lv_aload_n hx hb d_D_end_121 rfl (lv_at hl 0 rfl) ?_
          refine va_get (D := (dC, dI)) (ci := 3) (v := .int nw) (C := R_D) (T := T_D) (N := 19) hx hb hts ti_D hown hK hP 0 rfl rfl 14 (by decide) (hts (Cond.fieldLink "MeasureRowsModel" 84 "MeasureRowsModel" "now" "I") mw_273) (fun _ h9 => h9) rfl d_D_end_122 ?_
          refine lv_icmp_le (tgt := 132) hx hb d_D_end_125 (by decide) (fun c_12 => ?_) (fun c_12 => ?_)
          · refine lv_aload_n hx hb d_D_end_132 rfl (lv_at hl 0 rfl) ?_
            refine va_get (D := (dC, dI)) (ci := 3) (v := .int nw) (C := R_D) (T := T_D) (N := 19) hx hb hts ti_D hown hK hP 0 rfl rfl 14 (by decide) (hts (Cond.fieldLink "MeasureRowsModel" 84 "MeasureRowsModel" "now" "I") mw_273) (fun _ h9 => h9) rfl d_D_end_133 ?_
            refine va_put (D := (dC, dI)) (ci := 3) (v := .int nw) (ty := .int) (C := R_D) (T := T_D) (N := 19) hx hb hts ti_D t_D to_D tn_D hown hK hP hD hS 0 rfl rfl 14 (by decide) (hts (Cond.fieldLink "MeasureRowsModel" 84 "MeasureRowsModel" "now" "I") mw_273) (fun _ h9 => h9) rfl (by decide +kernel) rfl rfl (Nat.le_of_ble_eq_true rfl) d_D_end_136 (fun H locs hP hD hS => ?_)
            have hP : va_P (dC, dI) mr_cl [((r 0), .inr (3, mf_D r 0 (nI n) nw pb lc)), ((r 3), .inl (cI, 81, .inl fco)), ((r 5), .inl (cI, 81, .inl ffi)), ((r 11), .inl (cI, 81, .inl (upd fe (nI i).toNatClampNeg ((fe i) + 1)))), ((r 12), .inl (cI, 648, .inl (upd fa ((nI (8 * i)) + (fe i)).toNatClampNeg a1))), ((r 13), .inl (cI, 648, .inl (upd fk ((nI (8 * i)) + (fe i)).toNatClampNeg a2)))] H := hP
            have hD : va_D A [((r 0), .inr (3, mf_D r 0 (nI n) nw pb lc)), ((r 3), .inl (cI, 81, .inl fco)), ((r 5), .inl (cI, 81, .inl ffi)), ((r 11), .inl (cI, 81, .inl (upd fe (nI i).toNatClampNeg ((fe i) + 1)))), ((r 12), .inl (cI, 648, .inl (upd fa ((nI (8 * i)) + (fe i)).toNatClampNeg a1))), ((r 13), .inl (cI, 648, .inl (upd fk ((nI (8 * i)) + (fe i)).toNatClampNeg a2)))] := hD
            have hBH := hB.at hS hA0
            refine lv_aload_n hx hb d_D_end_139 rfl (lv_at hl 0 rfl) ?_
            refine va_get (D := (dC, dI)) (ci := 3) (v := .ref (r 11)) (C := R_D) (T := T_D) (N := 19) hx hb hts ti_D hown hK hP 0 rfl rfl 11 (by decide) (hts (Cond.fieldLink "MeasureRowsModel" 37 "MeasureRowsModel" "ends" "[I") mw_260) (fun _ h9 => h9) rfl d_D_end_140 ?_
            refine lv_iload_n hx hb d_D_end_143 rfl (lv_at hl 1 rfl) ?_
            refine va_iald (D := (dC, dI)) hx hb hK hP 3 0 rfl rfl (i := nI i) (nI_in (by have := hM.1; omega) (by decide)) d_D_end_144 ?_
            refine mr_top (show (upd fe (nI i).toNatClampNeg ((fe i) + 1)) (nI i).toNatClampNeg = fe i + 1 by simp [upd]) ?_
            have hP9 := hP.sub (ws' := [((r 0), .inr (3, mf_D r 0 (nI n) nw pb lc)), ((r 3), .inl (cI, 81, .inl fco)), ((r 5), .inl (cI, 81, .inl ffi)), ((r 11), .inl (cI, 81, .inl (upd fe (nI i).toNatClampNeg ((fe i) + 1)))), ((r 12), .inl (cI, 648, .inl (upd fa ((nI (8 * i)) + (fe i)).toNatClampNeg a1))), ((r 13), .inl (cI, 648, .inl (upd fk ((nI (8 * i)) + (fe i)).toNatClampNeg a2)))]) [0, 1, 2, 3, 4, 5] rfl
            have hD9 := hD.sub (ws' := [((r 0), .inr (3, mf_D r 0 (nI n) nw pb lc)), ((r 3), .inl (cI, 81, .inl fco)), ((r 5), .inl (cI, 81, .inl ffi)), ((r 11), .inl (cI, 81, .inl (upd fe (nI i).toNatClampNeg ((fe i) + 1)))), ((r 12), .inl (cI, 648, .inl (upd fa ((nI (8 * i)) + (fe i)).toNatClampNeg a1))), ((r 13), .inl (cI, 648, .inl (upd fk ((nI (8 * i)) + (fe i)).toNatClampNeg a2)))]) [0, 1, 2, 3, 4, 5] (by decide) rfl
            exact W.iret (v := (fe i) + 1) hx hb hr (fun t ht hW => ⟨⟨_, (), rfl, (by unfold mv_D_end_y; rw [if_neg c_6, if_neg c_9, if_neg c_10, if_pos c_11, if_pos c_12]), 0, nw, (upd fe (nI i).toNatClampNeg ((fe i) + 1)), (upd fa ((nI (8 * i)) + (fe i)).toNatClampNeg a1), (upd fk ((nI (8 * i)) + (fe i)).toNatClampNeg a2), ⟨by rw [ht]; exact hP9, va_K.moved hW.alike hK, hD9⟩, (by unfold mN_D_end_y_th; rw [if_neg c_6, if_neg c_9, if_neg c_10, if_pos c_11, if_pos c_12]), (by unfold mN_D_end_y_nw; rw [if_neg c_6, if_neg c_9, if_neg c_10, if_pos c_11, if_pos c_12]), (by unfold mN_D_end_y_fe; rw [if_neg c_6, if_neg c_9, if_neg c_10, if_pos c_11, if_pos c_12]), (by unfold mN_D_end_y_fa; rw [if_neg c_6, if_neg c_9, if_neg c_10, if_pos c_11, if_pos c_12]), (by unfold mN_D_end_y_fk; rw [if_neg c_6, if_neg c_9, if_neg c_10, if_pos c_11, if_pos c_12])⟩, hS.F ht⟩) hS.2.2 d_D_end_145
          · refine lv_iload_n hx hb d_D_end_128 rfl (lv_at hl 3 rfl) ?_
            refine lv_goto (tgt := 136) hx hb d_D_end_129 (by decide) ?_
            refine va_put (D := (dC, dI)) (ci := 3) (v := .int a2) (ty := .int) (C := R_D) (T := T_D) (N := 19) hx hb hts ti_D t_D to_D tn_D hown hK hP hD hS 0 rfl rfl 14 (by decide) (hts (Cond.fieldLink "MeasureRowsModel" 84 "MeasureRowsModel" "now" "I") mw_273) (fun _ h9 => h9) rfl (by decide +kernel) rfl rfl (Nat.le_of_ble_eq_true rfl) d_D_end_136 (fun H locs hP hD hS => ?_)
            have hP : va_P (dC, dI) mr_cl [((r 0), .inr (3, mf_D r 0 (nI n) a2 pb lc)), ((r 3), .inl (cI, 81, .inl fco)), ((r 5), .inl (cI, 81, .inl ffi)), ((r 11), .inl (cI, 81, .inl (upd fe (nI i).toNatClampNeg ((fe i) + 1)))), ((r 12), .inl (cI, 648, .inl (upd fa ((nI (8 * i)) + (fe i)).toNatClampNeg a1))), ((r 13), .inl (cI, 648, .inl (upd fk ((nI (8 * i)) + (fe i)).toNatClampNeg a2)))] H := hP
            have hD : va_D A [((r 0), .inr (3, mf_D r 0 (nI n) a2 pb lc)), ((r 3), .inl (cI, 81, .inl fco)), ((r 5), .inl (cI, 81, .inl ffi)), ((r 11), .inl (cI, 81, .inl (upd fe (nI i).toNatClampNeg ((fe i) + 1)))), ((r 12), .inl (cI, 648, .inl (upd fa ((nI (8 * i)) + (fe i)).toNatClampNeg a1))), ((r 13), .inl (cI, 648, .inl (upd fk ((nI (8 * i)) + (fe i)).toNatClampNeg a2)))] := hD
            have hBH := hB.at hS hA0
            refine lv_aload_n hx hb d_D_end_139 rfl (lv_at hl 0 rfl) ?_
            refine va_get (D := (dC, dI)) (ci := 3) (v := .ref (r 11)) (C := R_D) (T := T_D) (N := 19) hx hb hts ti_D hown hK hP 0 rfl rfl 11 (by decide) (hts (Cond.fieldLink "MeasureRowsModel" 37 "MeasureRowsModel" "ends" "[I") mw_260) (fun _ h9 => h9) rfl d_D_end_140 ?_
            refine lv_iload_n hx hb d_D_end_143 rfl (lv_at hl 1 rfl) ?_
            refine va_iald (D := (dC, dI)) hx hb hK hP 3 0 rfl rfl (i := nI i) (nI_in (by have := hM.1; omega) (by decide)) d_D_end_144 ?_
            refine mr_top (show (upd fe (nI i).toNatClampNeg ((fe i) + 1)) (nI i).toNatClampNeg = fe i + 1 by simp [upd]) ?_
            have hP9 := hP.sub (ws' := [((r 0), .inr (3, mf_D r 0 (nI n) a2 pb lc)), ((r 3), .inl (cI, 81, .inl fco)), ((r 5), .inl (cI, 81, .inl ffi)), ((r 11), .inl (cI, 81, .inl (upd fe (nI i).toNatClampNeg ((fe i) + 1)))), ((r 12), .inl (cI, 648, .inl (upd fa ((nI (8 * i)) + (fe i)).toNatClampNeg a1))), ((r 13), .inl (cI, 648, .inl (upd fk ((nI (8 * i)) + (fe i)).toNatClampNeg a2)))]) [0, 1, 2, 3, 4, 5] rfl
            have hD9 := hD.sub (ws' := [((r 0), .inr (3, mf_D r 0 (nI n) a2 pb lc)), ((r 3), .inl (cI, 81, .inl fco)), ((r 5), .inl (cI, 81, .inl ffi)), ((r 11), .inl (cI, 81, .inl (upd fe (nI i).toNatClampNeg ((fe i) + 1)))), ((r 12), .inl (cI, 648, .inl (upd fa ((nI (8 * i)) + (fe i)).toNatClampNeg a1))), ((r 13), .inl (cI, 648, .inl (upd fk ((nI (8 * i)) + (fe i)).toNatClampNeg a2)))]) [0, 1, 2, 3, 4, 5] (by decide) rfl
            exact W.iret (v := (fe i) + 1) hx hb hr (fun t ht hW => ⟨⟨_, (), rfl, (by unfold mv_D_end_y; rw [if_neg c_6, if_neg c_9, if_neg c_10, if_pos c_11, if_neg c_12]), 0, a2, (upd fe (nI i).toNatClampNeg ((fe i) + 1)), (upd fa ((nI (8 * i)) + (fe i)).toNatClampNeg a1), (upd fk ((nI (8 * i)) + (fe i)).toNatClampNeg a2), ⟨by rw [ht]; exact hP9, va_K.moved hW.alike hK, hD9⟩, (by unfold mN_D_end_y_th; rw [if_neg c_6, if_neg c_9, if_neg c_10, if_pos c_11, if_neg c_12]), (by unfold mN_D_end_y_nw; rw [if_neg c_6, if_neg c_9, if_neg c_10, if_pos c_11, if_neg c_12]), (by unfold mN_D_end_y_fe; rw [if_neg c_6, if_neg c_9, if_neg c_10, if_pos c_11, if_neg c_12]), (by unfold mN_D_end_y_fa; rw [if_neg c_6, if_neg c_9, if_neg c_10, if_pos c_11, if_neg c_12]), (by unfold mN_D_end_y_fk; rw [if_neg c_6, if_neg c_9, if_neg c_10, if_pos c_11, if_neg c_12])⟩, hS.F ht⟩) hS.2.2 d_D_end_145
        · refine lv_iconst (v := 0) hx hb d_D_end_73 (by decide) ?_
          have hP9 := hP.sub (ws' := [((r 0), .inr (3, mf_D r 0 (nI n) nw pb lc)), ((r 3), .inl (cI, 81, .inl fco)), ((r 5), .inl (cI, 81, .inl ffi)), ((r 11), .inl (cI, 81, .inl fe)), ((r 12), .inl (cI, 648, .inl fa)), ((r 13), .inl (cI, 648, .inl fk))]) [0, 1, 2, 3, 4, 5] rfl
          have hD9 := hD.sub (ws' := [((r 0), .inr (3, mf_D r 0 (nI n) nw pb lc)), ((r 3), .inl (cI, 81, .inl fco)), ((r 5), .inl (cI, 81, .inl ffi)), ((r 11), .inl (cI, 81, .inl fe)), ((r 12), .inl (cI, 648, .inl fa)), ((r 13), .inl (cI, 648, .inl fk))]) [0, 1, 2, 3, 4, 5] (by decide) rfl
          exact W.iret (v := 0) hx hb hr (fun t ht hW => ⟨⟨_, (), rfl, (by unfold mv_D_end_y; rw [if_neg c_6, if_neg c_9, if_neg c_10, if_neg c_11]), 0, nw, fe, fa, fk, ⟨by rw [ht]; exact hP9, va_K.moved hW.alike hK, hD9⟩, (by unfold mN_D_end_y_th; rw [if_neg c_6, if_neg c_9, if_neg c_10, if_neg c_11]), (by unfold mN_D_end_y_nw; rw [if_neg c_6, if_neg c_9, if_neg c_10, if_neg c_11]), (by unfold mN_D_end_y_fe; rw [if_neg c_6, if_neg c_9, if_neg c_10, if_neg c_11]), (by unfold mN_D_end_y_fa; rw [if_neg c_6, if_neg c_9, if_neg c_10, if_neg c_11]), (by unfold mN_D_end_y_fk; rw [if_neg c_6, if_neg c_9, if_neg c_10, if_neg c_11])⟩, hS.F ht⟩) hS.2.2 d_D_end_74
      · refine lv_aload_n hx hb d_D_end_52 rfl (lv_at hl 0 rfl) ?_
        refine lv_iconst (v := 3) hx hb d_D_end_53 (by decide) ?_
        have hPc := hP.sub (ws' := [((r 0), .inr (3, mf_D r th (nI n) nw pb lc))]) [0] rfl
        have hDc := hD.sub (ws' := [((r 0), .inr (3, mf_D r th (nI n) nw pb lc))]) [0] (by decide) rfl
        have hFc := va_free (wc := [((r 0), .inr (3, mf_D r th (nI n) nw pb lc))]) hD hS hA [0] rfl
        refine va_calli (va_runV (As := [.int 3]) (rest := []) (C := R_D) ⟨hx, hb, hml, hown, hts⟩ (mc_D_fails l s0 dC dI cI cR cL cZ r th (nI n) nw pb lc _ 3) ⟨(mr_cB 1 (hts (Cond.code y_D_fails b_D_fails 2 (some .int)) mw_318) (hts (Cond.initialized y_D_fails.cls) mw_319) (hts (Cond.methodLink "MeasureRowsModel" 97 y_D_fails) mw_320) rfl rfl (by decide +kernel) ⟨Nat.le_of_ble_eq_true rfl, Nat.le_of_ble_eq_true rfl⟩), (hts (Cond.instanceMethod y_D_fails) mw_321), (hts (Cond.selects "MeasureRowsModel" y_D_fails y_D_fails) mw_322)⟩ (mr_preCV hBH hK hPc (hDc.weaken (fun _ _ _ h => hA0 _ h)) (ci := 3) (q0 := 0) rfl rfl) rfl rfl hl.1 rfl (lv_room (Nat.le_of_ble_eq_true rfl)) d_D_end_54 ⟨Nat.le_of_ble_eq_true rfl, Nat.le_of_ble_eq_true rfl⟩) hS (fun q _ h => hFc q h) hFc (fun r_13 u_14 t H1 locs ht hvm hw hB1 hz1 hk1 hS => ?_)
        obtain ⟨hP1, hK1, hD1⟩ := hB1
        rw [ht] at hP1
        obtain ⟨hP, hD⟩ := va_join (wr := [((r 3), .inl (cI, 81, .inl fco)), ((r 5), .inl (cI, 81, .inl ffi)), ((r 11), .inl (cI, 81, .inl fe)), ((r 12), .inl (cI, 648, .inl fa)), ((r 13), .inl (cI, 648, .inl fk))]) (w1 := [((r 0), .inr (3, mf_D r 3 (nI n) nw pb lc))]) hP hD [0] [1, 2, 3, 4, 5] rfl rfl (by decide) (by decide) hk1 hFc hP1 hD1
        clear hK1 hk1 hPc hDc hFc
        generalize H1 = H at hP hS ht ⊢
        have hP : va_P (dC, dI) mr_cl [((r 3), .inl (cI, 81, .inl fco)), ((r 5), .inl (cI, 81, .inl ffi)), ((r 11), .inl (cI, 81, .inl fe)), ((r 12), .inl (cI, 648, .inl fa)), ((r 13), .inl (cI, 648, .inl fk)), ((r 0), .inr (3, mf_D r 3 (nI n) nw pb lc))] H := hP
        have hD : va_D A [((r 3), .inl (cI, 81, .inl fco)), ((r 5), .inl (cI, 81, .inl ffi)), ((r 11), .inl (cI, 81, .inl fe)), ((r 12), .inl (cI, 648, .inl fa)), ((r 13), .inl (cI, 648, .inl fk)), ((r 0), .inr (3, mf_D r 3 (nI n) nw pb lc))] := hD
        have hBH := hB.at hS hA0
        obtain rfl : r_13 = 0 := hw
        have hP9 := hP.sub (ws' := [((r 0), .inr (3, mf_D r 3 (nI n) nw pb lc)), ((r 3), .inl (cI, 81, .inl fco)), ((r 5), .inl (cI, 81, .inl ffi)), ((r 11), .inl (cI, 81, .inl fe)), ((r 12), .inl (cI, 648, .inl fa)), ((r 13), .inl (cI, 648, .inl fk))]) [5, 0, 1, 2, 3, 4] rfl
        have hD9 := hD.sub (ws' := [((r 0), .inr (3, mf_D r 3 (nI n) nw pb lc)), ((r 3), .inl (cI, 81, .inl fco)), ((r 5), .inl (cI, 81, .inl ffi)), ((r 11), .inl (cI, 81, .inl fe)), ((r 12), .inl (cI, 648, .inl fa)), ((r 13), .inl (cI, 648, .inl fk))]) [5, 0, 1, 2, 3, 4] (by decide) rfl
        exact W.iret (v := 0) hx hb hr (fun t ht hW => ⟨⟨_, (), rfl, (by unfold mv_D_end_y; rw [if_neg c_6, if_neg c_9, if_pos c_10]), 3, nw, fe, fa, fk, ⟨by rw [ht]; exact hP9, va_K.moved hW.alike hK, hD9⟩, (by unfold mN_D_end_y_th; rw [if_neg c_6, if_neg c_9, if_pos c_10]), (by unfold mN_D_end_y_nw; rw [if_neg c_6, if_neg c_9, if_pos c_10]), (by unfold mN_D_end_y_fe; rw [if_neg c_6, if_neg c_9, if_pos c_10]), (by unfold mN_D_end_y_fa; rw [if_neg c_6, if_neg c_9, if_pos c_10]), (by unfold mN_D_end_y_fk; rw [if_neg c_6, if_neg c_9, if_pos c_10])⟩, hS.F ht⟩) hS.2.2 d_D_end_57
    · refine lv_aload_n hx hb d_D_end_35 rfl (lv_at hl 0 rfl) ?_
      refine lv_iconst (v := 2) hx hb d_D_end_36 (by decide) ?_
      have hPc := hP.sub (ws' := [((r 0), .inr (3, mf_D r th (nI n) nw pb lc))]) [0] rfl
      have hDc := hD.sub (ws' := [((r 0), .inr (3, mf_D r th (nI n) nw pb lc))]) [0] (by decide) rfl
      have hFc := va_free (wc := [((r 0), .inr (3, mf_D r th (nI n) nw pb lc))]) hD hS hA [0] rfl
      refine va_calli (va_runV (As := [.int 2]) (rest := []) (C := R_D) ⟨hx, hb, hml, hown, hts⟩ (mc_D_fails l s0 dC dI cI cR cL cZ r th (nI n) nw pb lc _ 2) ⟨(mr_cB 1 (hts (Cond.code y_D_fails b_D_fails 2 (some .int)) mw_318) (hts (Cond.initialized y_D_fails.cls) mw_319) (hts (Cond.methodLink "MeasureRowsModel" 97 y_D_fails) mw_320) rfl rfl (by decide +kernel) ⟨Nat.le_of_ble_eq_true rfl, Nat.le_of_ble_eq_true rfl⟩), (hts (Cond.instanceMethod y_D_fails) mw_321), (hts (Cond.selects "MeasureRowsModel" y_D_fails y_D_fails) mw_322)⟩ (mr_preCV hBH hK hPc (hDc.weaken (fun _ _ _ h => hA0 _ h)) (ci := 3) (q0 := 0) rfl rfl) rfl rfl hl.1 rfl (lv_room (Nat.le_of_ble_eq_true rfl)) d_D_end_37 ⟨Nat.le_of_ble_eq_true rfl, Nat.le_of_ble_eq_true rfl⟩) hS (fun q _ h => hFc q h) hFc (fun r_15 u_16 t H1 locs ht hvm hw hB1 hz1 hk1 hS => ?_)
      obtain ⟨hP1, hK1, hD1⟩ := hB1
      rw [ht] at hP1
      obtain ⟨hP, hD⟩ := va_join (wr := [((r 3), .inl (cI, 81, .inl fco)), ((r 5), .inl (cI, 81, .inl ffi)), ((r 11), .inl (cI, 81, .inl fe)), ((r 12), .inl (cI, 648, .inl fa)), ((r 13), .inl (cI, 648, .inl fk))]) (w1 := [((r 0), .inr (3, mf_D r 2 (nI n) nw pb lc))]) hP hD [0] [1, 2, 3, 4, 5] rfl rfl (by decide) (by decide) hk1 hFc hP1 hD1
      clear hK1 hk1 hPc hDc hFc
      generalize H1 = H at hP hS ht ⊢
      have hP : va_P (dC, dI) mr_cl [((r 3), .inl (cI, 81, .inl fco)), ((r 5), .inl (cI, 81, .inl ffi)), ((r 11), .inl (cI, 81, .inl fe)), ((r 12), .inl (cI, 648, .inl fa)), ((r 13), .inl (cI, 648, .inl fk)), ((r 0), .inr (3, mf_D r 2 (nI n) nw pb lc))] H := hP
      have hD : va_D A [((r 3), .inl (cI, 81, .inl fco)), ((r 5), .inl (cI, 81, .inl ffi)), ((r 11), .inl (cI, 81, .inl fe)), ((r 12), .inl (cI, 648, .inl fa)), ((r 13), .inl (cI, 648, .inl fk)), ((r 0), .inr (3, mf_D r 2 (nI n) nw pb lc))] := hD
      have hBH := hB.at hS hA0
      obtain rfl : r_15 = 0 := hw
      have hP9 := hP.sub (ws' := [((r 0), .inr (3, mf_D r 2 (nI n) nw pb lc)), ((r 3), .inl (cI, 81, .inl fco)), ((r 5), .inl (cI, 81, .inl ffi)), ((r 11), .inl (cI, 81, .inl fe)), ((r 12), .inl (cI, 648, .inl fa)), ((r 13), .inl (cI, 648, .inl fk))]) [5, 0, 1, 2, 3, 4] rfl
      have hD9 := hD.sub (ws' := [((r 0), .inr (3, mf_D r 2 (nI n) nw pb lc)), ((r 3), .inl (cI, 81, .inl fco)), ((r 5), .inl (cI, 81, .inl ffi)), ((r 11), .inl (cI, 81, .inl fe)), ((r 12), .inl (cI, 648, .inl fa)), ((r 13), .inl (cI, 648, .inl fk))]) [5, 0, 1, 2, 3, 4] (by decide) rfl
      exact W.iret (v := 0) hx hb hr (fun t ht hW => ⟨⟨_, (), rfl, (by unfold mv_D_end_y; rw [if_neg c_6, if_pos c_9]), 2, nw, fe, fa, fk, ⟨by rw [ht]; exact hP9, va_K.moved hW.alike hK, hD9⟩, (by unfold mN_D_end_y_th; rw [if_neg c_6, if_pos c_9]), (by unfold mN_D_end_y_nw; rw [if_neg c_6, if_pos c_9]), (by unfold mN_D_end_y_fe; rw [if_neg c_6, if_pos c_9]), (by unfold mN_D_end_y_fa; rw [if_neg c_6, if_pos c_9]), (by unfold mN_D_end_y_fk; rw [if_neg c_6, if_pos c_9])⟩, hS.F ht⟩) hS.2.2 d_D_end_40
  · refine lv_iload_n hx hb d_D_end_21 rfl (lv_at hl 2 rfl) ?_
    refine lv_sipush (v := 20000) hx hb d_D_end_22 (by decide) ?_
    refine lv_icmp_ne (tgt := 35) hx hb d_D_end_25 (by decide) (fun c_17 => ?_) (fun c_17 => ?_)
    · refine lv_aload_n hx hb d_D_end_35 rfl (lv_at hl 0 rfl) ?_
      refine lv_iconst (v := 2) hx hb d_D_end_36 (by decide) ?_
      have hPc := hP.sub (ws' := [((r 0), .inr (3, mf_D r th (nI n) nw pb lc))]) [0] rfl
      have hDc := hD.sub (ws' := [((r 0), .inr (3, mf_D r th (nI n) nw pb lc))]) [0] (by decide) rfl
      have hFc := va_free (wc := [((r 0), .inr (3, mf_D r th (nI n) nw pb lc))]) hD hS hA [0] rfl
      refine va_calli (va_runV (As := [.int 2]) (rest := []) (C := R_D) ⟨hx, hb, hml, hown, hts⟩ (mc_D_fails l s0 dC dI cI cR cL cZ r th (nI n) nw pb lc _ 2) ⟨(mr_cB 1 (hts (Cond.code y_D_fails b_D_fails 2 (some .int)) mw_318) (hts (Cond.initialized y_D_fails.cls) mw_319) (hts (Cond.methodLink "MeasureRowsModel" 97 y_D_fails) mw_320) rfl rfl (by decide +kernel) ⟨Nat.le_of_ble_eq_true rfl, Nat.le_of_ble_eq_true rfl⟩), (hts (Cond.instanceMethod y_D_fails) mw_321), (hts (Cond.selects "MeasureRowsModel" y_D_fails y_D_fails) mw_322)⟩ (mr_preCV hBH hK hPc (hDc.weaken (fun _ _ _ h => hA0 _ h)) (ci := 3) (q0 := 0) rfl rfl) rfl rfl hl.1 rfl (lv_room (Nat.le_of_ble_eq_true rfl)) d_D_end_37 ⟨Nat.le_of_ble_eq_true rfl, Nat.le_of_ble_eq_true rfl⟩) hS (fun q _ h => hFc q h) hFc (fun r_18 u_19 t H1 locs ht hvm hw hB1 hz1 hk1 hS => ?_)
      obtain ⟨hP1, hK1, hD1⟩ := hB1
      rw [ht] at hP1
      obtain ⟨hP, hD⟩ := va_join (wr := [((r 3), .inl (cI, 81, .inl fco)), ((r 5), .inl (cI, 81, .inl ffi)), ((r 11), .inl (cI, 81, .inl fe)), ((r 12), .inl (cI, 648, .inl fa)), ((r 13), .inl (cI, 648, .inl fk))]) (w1 := [((r 0), .inr (3, mf_D r 2 (nI n) nw pb lc))]) hP hD [0] [1, 2, 3, 4, 5] rfl rfl (by decide) (by decide) hk1 hFc hP1 hD1
      clear hK1 hk1 hPc hDc hFc
      generalize H1 = H at hP hS ht ⊢
      have hP : va_P (dC, dI) mr_cl [((r 3), .inl (cI, 81, .inl fco)), ((r 5), .inl (cI, 81, .inl ffi)), ((r 11), .inl (cI, 81, .inl fe)), ((r 12), .inl (cI, 648, .inl fa)), ((r 13), .inl (cI, 648, .inl fk)), ((r 0), .inr (3, mf_D r 2 (nI n) nw pb lc))] H := hP
      have hD : va_D A [((r 3), .inl (cI, 81, .inl fco)), ((r 5), .inl (cI, 81, .inl ffi)), ((r 11), .inl (cI, 81, .inl fe)), ((r 12), .inl (cI, 648, .inl fa)), ((r 13), .inl (cI, 648, .inl fk)), ((r 0), .inr (3, mf_D r 2 (nI n) nw pb lc))] := hD
      have hBH := hB.at hS hA0
      obtain rfl : r_18 = 0 := hw
      have hP9 := hP.sub (ws' := [((r 0), .inr (3, mf_D r 2 (nI n) nw pb lc)), ((r 3), .inl (cI, 81, .inl fco)), ((r 5), .inl (cI, 81, .inl ffi)), ((r 11), .inl (cI, 81, .inl fe)), ((r 12), .inl (cI, 648, .inl fa)), ((r 13), .inl (cI, 648, .inl fk))]) [5, 0, 1, 2, 3, 4] rfl
      have hD9 := hD.sub (ws' := [((r 0), .inr (3, mf_D r 2 (nI n) nw pb lc)), ((r 3), .inl (cI, 81, .inl fco)), ((r 5), .inl (cI, 81, .inl ffi)), ((r 11), .inl (cI, 81, .inl fe)), ((r 12), .inl (cI, 648, .inl fa)), ((r 13), .inl (cI, 648, .inl fk))]) [5, 0, 1, 2, 3, 4] (by decide) rfl
      exact W.iret (v := 0) hx hb hr (fun t ht hW => ⟨⟨_, (), rfl, (by unfold mv_D_end_y; rw [if_pos c_6, if_neg c_17]), 2, nw, fe, fa, fk, ⟨by rw [ht]; exact hP9, va_K.moved hW.alike hK, hD9⟩, (by unfold mN_D_end_y_th; rw [if_pos c_6, if_neg c_17]), (by unfold mN_D_end_y_nw; rw [if_pos c_6, if_neg c_17]), (by unfold mN_D_end_y_fe; rw [if_pos c_6, if_neg c_17]), (by unfold mN_D_end_y_fa; rw [if_pos c_6, if_neg c_17]), (by unfold mN_D_end_y_fk; rw [if_pos c_6, if_neg c_17])⟩, hS.F ht⟩) hS.2.2 d_D_end_40
    · refine lv_iload_n hx hb d_D_end_28 rfl (lv_at hl 3 rfl) ?_
      refine vp_callSi (va_Run.run (va_runS (As := [.int a2]) (rest := []) ⟨hx, hb, hml, hown, hts⟩ (mc_D_isDay l s0 a2) ⟨(mr_cB 1 (hts (Cond.code y_D_isDay b_D_isDay 1 (some .boolean)) mw_314) (hts (Cond.initialized y_D_isDay.cls) mw_315) (hts (Cond.methodLink "MeasureRowsModel" 94 y_D_isDay) mw_316) rfl rfl (by decide +kernel) ⟨Nat.le_of_ble_eq_true rfl, Nat.le_of_ble_eq_true rfl⟩), (hts (Cond.static y_D_isDay) mw_317)⟩ (mr_pre0 hBH) rfl rfl hl.1 rfl (lv_room (Nat.le_of_ble_eq_true rfl)) d_D_end_29 ⟨Nat.le_of_ble_eq_true rfl, Nat.le_of_ble_eq_true rfl⟩)) (fun r_20 h_21 => ?_)
      subst h_21
      refine lv_if_ne (tgt := 41) hx hb d_D_end_32 (by decide) (fun c_22 => ?_) (fun c_22 => ?_)
      · refine lv_aload_n hx hb d_D_end_41 rfl (lv_at hl 0 rfl) ?_
        refine va_get (D := (dC, dI)) (ci := 3) (v := .ref (r 11)) (C := R_D) (T := T_D) (N := 19) hx hb hts ti_D hown hK hP 0 rfl rfl 11 (by decide) (hts (Cond.fieldLink "MeasureRowsModel" 37 "MeasureRowsModel" "ends" "[I") mw_260) (fun _ h9 => h9) rfl d_D_end_42 ?_
        refine lv_iload_n hx hb d_D_end_45 rfl (lv_at hl 1 rfl) ?_
        refine va_iald (D := (dC, dI)) hx hb hK hP 3 0 rfl rfl (i := nI i) (nI_in (by have := hM.1; omega) (by decide)) d_D_end_46 ?_
        refine mr_top (show fe (nI i).toNatClampNeg = fe i from mr_nc (by have := hM.1; omega)) ?_
        refine lv_bipush (v := 8) hx hb d_D_end_47 (by decide) ?_
        refine lv_icmp_ne (tgt := 58) hx hb d_D_end_49 (by decide) (fun c_23 => ?_) (fun c_23 => ?_)
        · refine lv_aload_n hx hb d_D_end_58 rfl (lv_at hl 0 rfl) ?_
          refine lv_iconst (v := 0) hx hb d_D_end_59 (by decide) ?_
          refine va_put (D := (dC, dI)) (ci := 3) (v := .int 0) (ty := .int) (C := R_D) (T := T_D) (N := 19) hx hb hts ti_D t_D to_D tn_D hown hK hP hD hS 0 rfl rfl 0 (by decide) (hts (Cond.fieldLink "MeasureRowsModel" 53 "MeasureRowsModel" "thrown" "I") mw_295) (fun _ h9 => h9) rfl (by decide +kernel) rfl rfl (Nat.le_of_ble_eq_true rfl) d_D_end_60 (fun H locs hP hD hS => ?_)
          have hP : va_P (dC, dI) mr_cl [((r 0), .inr (3, mf_D r 0 (nI n) nw pb lc)), ((r 3), .inl (cI, 81, .inl fco)), ((r 5), .inl (cI, 81, .inl ffi)), ((r 11), .inl (cI, 81, .inl fe)), ((r 12), .inl (cI, 648, .inl fa)), ((r 13), .inl (cI, 648, .inl fk))] H := hP
          have hD : va_D A [((r 0), .inr (3, mf_D r 0 (nI n) nw pb lc)), ((r 3), .inl (cI, 81, .inl fco)), ((r 5), .inl (cI, 81, .inl ffi)), ((r 11), .inl (cI, 81, .inl fe)), ((r 12), .inl (cI, 648, .inl fa)), ((r 13), .inl (cI, 648, .inl fk))] := hD
          have hBH := hB.at hS hA0
          refine lv_iload_n hx hb d_D_end_63 rfl (lv_at hl 2 rfl) ?_
          refine lv_aload_n hx hb d_D_end_64 rfl (lv_at hl 0 rfl) ?_
          refine va_get (D := (dC, dI)) (ci := 3) (v := .ref (r 5)) (C := R_D) (T := T_D) (N := 19) hx hb hts ti_D hown hK hP 0 rfl rfl 5 (by decide) (hts (Cond.fieldLink "MeasureRowsModel" 19 "MeasureRowsModel" "first" "[I") mw_263) (fun _ h9 => h9) rfl d_D_end_65 ?_
          refine lv_iload_n hx hb d_D_end_68 rfl (lv_at hl 1 rfl) ?_
          refine va_iald (D := (dC, dI)) hx hb hK hP 2 0 rfl rfl (i := nI i) (nI_in (by have := hM.1; omega) (by decide)) d_D_end_69 ?_
          refine mr_top (show ffi (nI i).toNatClampNeg = ffi i from mr_nc (by have := hM.1; omega)) ?_
          refine lv_icmp_ge (tgt := 75) hx hb d_D_end_70 (by decide) (fun c_24 => ?_) (fun c_24 => ?_)
          · refine lv_aload_n hx hb d_D_end_75 rfl (lv_at hl 0 rfl) ?_
            refine va_get (D := (dC, dI)) (ci := 3) (v := .ref (r 12)) (C := R_D) (T := T_D) (N := 19) hx hb hts ti_D hown hK hP 0 rfl rfl 12 (by decide) (hts (Cond.fieldLink "MeasureRowsModel" 40 "MeasureRowsModel" "last" "[I") mw_262) (fun _ h9 => h9) rfl d_D_end_76 ?_
            refine lv_bipush (v := 8) hx hb d_D_end_79 (by decide) ?_
            refine lv_iload_n hx hb d_D_end_81 rfl (lv_at hl 1 rfl) ?_
            refine lv_imul hx hb d_D_end_82 ?_
            refine mr_top (mr_mul8 i) ?_
            refine lv_aload_n hx hb d_D_end_83 rfl (lv_at hl 0 rfl) ?_
            refine va_get (D := (dC, dI)) (ci := 3) (v := .ref (r 11)) (C := R_D) (T := T_D) (N := 19) hx hb hts ti_D hown hK hP 0 rfl rfl 11 (by decide) (hts (Cond.fieldLink "MeasureRowsModel" 37 "MeasureRowsModel" "ends" "[I") mw_260) (fun _ h9 => h9) rfl d_D_end_84 ?_
            refine lv_iload_n hx hb d_D_end_87 rfl (lv_at hl 1 rfl) ?_
            refine va_iald (D := (dC, dI)) hx hb hK hP 3 0 rfl rfl (i := nI i) (nI_in (by have := hM.1; omega) (by decide)) d_D_end_88 ?_
            refine mr_top (show fe (nI i).toNatClampNeg = fe i from mr_nc (by have := hM.1; omega)) ?_
            refine lv_iadd hx hb d_D_end_89 ?_
            refine lv_iload_n hx hb d_D_end_90 rfl (lv_at hl 2 rfl) ?_
            refine va_iast (D := (dC, dI)) hx hb hK hP hD hS 4 0 rfl rfl (i := (nI (8 * i)) + (fe i)) (by rw [het9, nI_add]; exact nI_in (by have := hM.1; have := mr_t9 (by rw [← het9]; exact c_23) h89; omega) (by decide)) d_D_end_91 (fun H locs hP hD hS => ?_)
            have hP : va_P (dC, dI) mr_cl [((r 0), .inr (3, mf_D r 0 (nI n) nw pb lc)), ((r 3), .inl (cI, 81, .inl fco)), ((r 5), .inl (cI, 81, .inl ffi)), ((r 11), .inl (cI, 81, .inl fe)), ((r 12), .inl (cI, 648, .inl (upd fa ((nI (8 * i)) + (fe i)).toNatClampNeg a1))), ((r 13), .inl (cI, 648, .inl fk))] H := hP
            have hD : va_D A [((r 0), .inr (3, mf_D r 0 (nI n) nw pb lc)), ((r 3), .inl (cI, 81, .inl fco)), ((r 5), .inl (cI, 81, .inl ffi)), ((r 11), .inl (cI, 81, .inl fe)), ((r 12), .inl (cI, 648, .inl (upd fa ((nI (8 * i)) + (fe i)).toNatClampNeg a1))), ((r 13), .inl (cI, 648, .inl fk))] := hD
            have hBH := hB.at hS hA0
            refine lv_aload_n hx hb d_D_end_92 rfl (lv_at hl 0 rfl) ?_
            refine va_get (D := (dC, dI)) (ci := 3) (v := .ref (r 13)) (C := R_D) (T := T_D) (N := 19) hx hb hts ti_D hown hK hP 0 rfl rfl 13 (by decide) (hts (Cond.fieldLink "MeasureRowsModel" 43 "MeasureRowsModel" "lastKnown" "[I") mw_261) (fun _ h9 => h9) rfl d_D_end_93 ?_
            refine lv_bipush (v := 8) hx hb d_D_end_96 (by decide) ?_
            refine lv_iload_n hx hb d_D_end_98 rfl (lv_at hl 1 rfl) ?_
            refine lv_imul hx hb d_D_end_99 ?_
            refine mr_top (mr_mul8 i) ?_
            refine lv_aload_n hx hb d_D_end_100 rfl (lv_at hl 0 rfl) ?_
            refine va_get (D := (dC, dI)) (ci := 3) (v := .ref (r 11)) (C := R_D) (T := T_D) (N := 19) hx hb hts ti_D hown hK hP 0 rfl rfl 11 (by decide) (hts (Cond.fieldLink "MeasureRowsModel" 37 "MeasureRowsModel" "ends" "[I") mw_260) (fun _ h9 => h9) rfl d_D_end_101 ?_
            refine lv_iload_n hx hb d_D_end_104 rfl (lv_at hl 1 rfl) ?_
            refine va_iald (D := (dC, dI)) hx hb hK hP 3 0 rfl rfl (i := nI i) (nI_in (by have := hM.1; omega) (by decide)) d_D_end_105 ?_
            refine mr_top (show fe (nI i).toNatClampNeg = fe i from mr_nc (by have := hM.1; omega)) ?_
            refine lv_iadd hx hb d_D_end_106 ?_
            refine lv_iload_n hx hb d_D_end_107 rfl (lv_at hl 3 rfl) ?_
            refine va_iast (D := (dC, dI)) hx hb hK hP hD hS 5 0 rfl rfl (i := (nI (8 * i)) + (fe i)) (by rw [het9, nI_add]; exact nI_in (by have := hM.1; have := mr_t9 (by rw [← het9]; exact c_23) h89; omega) (by decide)) d_D_end_108 (fun H locs hP hD hS => ?_)
            have hP : va_P (dC, dI) mr_cl [((r 0), .inr (3, mf_D r 0 (nI n) nw pb lc)), ((r 3), .inl (cI, 81, .inl fco)), ((r 5), .inl (cI, 81, .inl ffi)), ((r 11), .inl (cI, 81, .inl fe)), ((r 12), .inl (cI, 648, .inl (upd fa ((nI (8 * i)) + (fe i)).toNatClampNeg a1))), ((r 13), .inl (cI, 648, .inl (upd fk ((nI (8 * i)) + (fe i)).toNatClampNeg a2)))] H := hP
            have hD : va_D A [((r 0), .inr (3, mf_D r 0 (nI n) nw pb lc)), ((r 3), .inl (cI, 81, .inl fco)), ((r 5), .inl (cI, 81, .inl ffi)), ((r 11), .inl (cI, 81, .inl fe)), ((r 12), .inl (cI, 648, .inl (upd fa ((nI (8 * i)) + (fe i)).toNatClampNeg a1))), ((r 13), .inl (cI, 648, .inl (upd fk ((nI (8 * i)) + (fe i)).toNatClampNeg a2)))] := hD
            have hBH := hB.at hS hA0
            refine lv_aload_n hx hb d_D_end_109 rfl (lv_at hl 0 rfl) ?_
            refine va_get (D := (dC, dI)) (ci := 3) (v := .ref (r 11)) (C := R_D) (T := T_D) (N := 19) hx hb hts ti_D hown hK hP 0 rfl rfl 11 (by decide) (hts (Cond.fieldLink "MeasureRowsModel" 37 "MeasureRowsModel" "ends" "[I") mw_260) (fun _ h9 => h9) rfl d_D_end_110 ?_
            refine lv_iload_n hx hb d_D_end_113 rfl (lv_at hl 1 rfl) ?_
            refine lv_dup2_11 hx hb d_D_end_114 rfl rfl ?_
            refine va_iald (D := (dC, dI)) hx hb hK hP 3 0 rfl rfl (i := nI i) (nI_in (by have := hM.1; omega) (by decide)) d_D_end_115 ?_
            refine mr_top (show fe (nI i).toNatClampNeg = fe i from mr_nc (by have := hM.1; omega)) ?_
            refine lv_iconst (v := 1) hx hb d_D_end_116 (by decide) ?_
            refine lv_iadd hx hb d_D_end_117 ?_
            refine va_iast (D := (dC, dI)) hx hb hK hP hD hS 3 0 rfl rfl (i := nI i) (nI_in (by have := hM.1; omega) (by decide)) d_D_end_118 (fun H locs hP hD hS => ?_)
            have hP : va_P (dC, dI) mr_cl [((r 0), .inr (3, mf_D r 0 (nI n) nw pb lc)), ((r 3), .inl (cI, 81, .inl fco)), ((r 5), .inl (cI, 81, .inl ffi)), ((r 11), .inl (cI, 81, .inl (upd fe (nI i).toNatClampNeg ((fe i) + 1)))), ((r 12), .inl (cI, 648, .inl (upd fa ((nI (8 * i)) + (fe i)).toNatClampNeg a1))), ((r 13), .inl (cI, 648, .inl (upd fk ((nI (8 * i)) + (fe i)).toNatClampNeg a2)))] H := hP
            have hD : va_D A [((r 0), .inr (3, mf_D r 0 (nI n) nw pb lc)), ((r 3), .inl (cI, 81, .inl fco)), ((r 5), .inl (cI, 81, .inl ffi)), ((r 11), .inl (cI, 81, .inl (upd fe (nI i).toNatClampNeg ((fe i) + 1)))), ((r 12), .inl (cI, 648, .inl (upd fa ((nI (8 * i)) + (fe i)).toNatClampNeg a1))), ((r 13), .inl (cI, 648, .inl (upd fk ((nI (8 * i)) + (fe i)).toNatClampNeg a2)))] := hD
            have hBH := hB.at hS hA0
            refine lv_aload_n hx hb d_D_end_119 rfl (lv_at hl 0 rfl) ?_
            refine lv_iload_n hx hb d_D_end_120 rfl (lv_at hl 3 rfl) ?_
            refine lv_aload_n hx hb d_D_end_121 rfl (lv_at hl 0 rfl) ?_
            refine va_get (D := (dC, dI)) (ci := 3) (v := .int nw) (C := R_D) (T := T_D) (N := 19) hx hb hts ti_D hown hK hP 0 rfl rfl 14 (by decide) (hts (Cond.fieldLink "MeasureRowsModel" 84 "MeasureRowsModel" "now" "I") mw_273) (fun _ h9 => h9) rfl d_D_end_122 ?_
            refine lv_icmp_le (tgt := 132) hx hb d_D_end_125 (by decide) (fun c_25 => ?_) (fun c_25 => ?_)
            · refine lv_aload_n hx hb d_D_end_132 rfl (lv_at hl 0 rfl) ?_
              refine va_get (D := (dC, dI)) (ci := 3) (v := .int nw) (C := R_D) (T := T_D) (N := 19) hx hb hts ti_D hown hK hP 0 rfl rfl 14 (by decide) (hts (Cond.fieldLink "MeasureRowsModel" 84 "MeasureRowsModel" "now" "I") mw_273) (fun _ h9 => h9) rfl d_D_end_133 ?_
              refine va_put (D := (dC, dI)) (ci := 3) (v := .int nw) (ty := .int) (C := R_D) (T := T_D) (N := 19) hx hb hts ti_D t_D to_D tn_D hown hK hP hD hS 0 rfl rfl 14 (by decide) (hts (Cond.fieldLink "MeasureRowsModel" 84 "MeasureRowsModel" "now" "I") mw_273) (fun _ h9 => h9) rfl (by decide +kernel) rfl rfl (Nat.le_of_ble_eq_true rfl) d_D_end_136 (fun H locs hP hD hS => ?_)
              have hP : va_P (dC, dI) mr_cl [((r 0), .inr (3, mf_D r 0 (nI n) nw pb lc)), ((r 3), .inl (cI, 81, .inl fco)), ((r 5), .inl (cI, 81, .inl ffi)), ((r 11), .inl (cI, 81, .inl (upd fe (nI i).toNatClampNeg ((fe i) + 1)))), ((r 12), .inl (cI, 648, .inl (upd fa ((nI (8 * i)) + (fe i)).toNatClampNeg a1))), ((r 13), .inl (cI, 648, .inl (upd fk ((nI (8 * i)) + (fe i)).toNatClampNeg a2)))] H := hP
              have hD : va_D A [((r 0), .inr (3, mf_D r 0 (nI n) nw pb lc)), ((r 3), .inl (cI, 81, .inl fco)), ((r 5), .inl (cI, 81, .inl ffi)), ((r 11), .inl (cI, 81, .inl (upd fe (nI i).toNatClampNeg ((fe i) + 1)))), ((r 12), .inl (cI, 648, .inl (upd fa ((nI (8 * i)) + (fe i)).toNatClampNeg a1))), ((r 13), .inl (cI, 648, .inl (upd fk ((nI (8 * i)) + (fe i)).toNatClampNeg a2)))] := hD
              have hBH := hB.at hS hA0
              refine lv_aload_n hx hb d_D_end_139 rfl (lv_at hl 0 rfl) ?_
              refine va_get (D := (dC, dI)) (ci := 3) (v := .ref (r 11)) (C := R_D) (T := T_D) (N := 19) hx hb hts ti_D hown hK hP 0 rfl rfl 11 (by decide) (hts (Cond.fieldLink "MeasureRowsModel" 37 "MeasureRowsModel" "ends" "[I") mw_260) (fun _ h9 => h9) rfl d_D_end_140 ?_
              refine lv_iload_n hx hb d_D_end_143 rfl (lv_at hl 1 rfl) ?_
              refine va_iald (D := (dC, dI)) hx hb hK hP 3 0 rfl rfl (i := nI i) (nI_in (by have := hM.1; omega) (by decide)) d_D_end_144 ?_
              refine mr_top (show (upd fe (nI i).toNatClampNeg ((fe i) + 1)) (nI i).toNatClampNeg = fe i + 1 by simp [upd]) ?_
              have hP9 := hP.sub (ws' := [((r 0), .inr (3, mf_D r 0 (nI n) nw pb lc)), ((r 3), .inl (cI, 81, .inl fco)), ((r 5), .inl (cI, 81, .inl ffi)), ((r 11), .inl (cI, 81, .inl (upd fe (nI i).toNatClampNeg ((fe i) + 1)))), ((r 12), .inl (cI, 648, .inl (upd fa ((nI (8 * i)) + (fe i)).toNatClampNeg a1))), ((r 13), .inl (cI, 648, .inl (upd fk ((nI (8 * i)) + (fe i)).toNatClampNeg a2)))]) [0, 1, 2, 3, 4, 5] rfl
              have hD9 := hD.sub (ws' := [((r 0), .inr (3, mf_D r 0 (nI n) nw pb lc)), ((r 3), .inl (cI, 81, .inl fco)), ((r 5), .inl (cI, 81, .inl ffi)), ((r 11), .inl (cI, 81, .inl (upd fe (nI i).toNatClampNeg ((fe i) + 1)))), ((r 12), .inl (cI, 648, .inl (upd fa ((nI (8 * i)) + (fe i)).toNatClampNeg a1))), ((r 13), .inl (cI, 648, .inl (upd fk ((nI (8 * i)) + (fe i)).toNatClampNeg a2)))]) [0, 1, 2, 3, 4, 5] (by decide) rfl
              exact W.iret (v := (fe i) + 1) hx hb hr (fun t ht hW => ⟨⟨_, (), rfl, (by unfold mv_D_end_y; rw [if_pos c_6, if_pos c_17, if_neg c_22, if_neg c_23, if_pos c_24, if_pos c_25]), 0, nw, (upd fe (nI i).toNatClampNeg ((fe i) + 1)), (upd fa ((nI (8 * i)) + (fe i)).toNatClampNeg a1), (upd fk ((nI (8 * i)) + (fe i)).toNatClampNeg a2), ⟨by rw [ht]; exact hP9, va_K.moved hW.alike hK, hD9⟩, (by unfold mN_D_end_y_th; rw [if_pos c_6, if_pos c_17, if_neg c_22, if_neg c_23, if_pos c_24, if_pos c_25]), (by unfold mN_D_end_y_nw; rw [if_pos c_6, if_pos c_17, if_neg c_22, if_neg c_23, if_pos c_24, if_pos c_25]), (by unfold mN_D_end_y_fe; rw [if_pos c_6, if_pos c_17, if_neg c_22, if_neg c_23, if_pos c_24, if_pos c_25]), (by unfold mN_D_end_y_fa; rw [if_pos c_6, if_pos c_17, if_neg c_22, if_neg c_23, if_pos c_24, if_pos c_25]), (by unfold mN_D_end_y_fk; rw [if_pos c_6, if_pos c_17, if_neg c_22, if_neg c_23, if_pos c_24, if_pos c_25])⟩, hS.F ht⟩) hS.2.2 d_D_end_145
            · refine lv_iload_n hx hb d_D_end_128 rfl (lv_at hl 3 rfl) ?_
              refine lv_goto (tgt := 136) hx hb d_D_end_129 (by decide) ?_
              refine va_put (D := (dC, dI)) (ci := 3) (v := .int a2) (ty := .int) (C := R_D) (T := T_D) (N := 19) hx hb hts ti_D t_D to_D tn_D hown hK hP hD hS 0 rfl rfl 14 (by decide) (hts (Cond.fieldLink "MeasureRowsModel" 84 "MeasureRowsModel" "now" "I") mw_273) (fun _ h9 => h9) rfl (by decide +kernel) rfl rfl (Nat.le_of_ble_eq_true rfl) d_D_end_136 (fun H locs hP hD hS => ?_)
              have hP : va_P (dC, dI) mr_cl [((r 0), .inr (3, mf_D r 0 (nI n) a2 pb lc)), ((r 3), .inl (cI, 81, .inl fco)), ((r 5), .inl (cI, 81, .inl ffi)), ((r 11), .inl (cI, 81, .inl (upd fe (nI i).toNatClampNeg ((fe i) + 1)))), ((r 12), .inl (cI, 648, .inl (upd fa ((nI (8 * i)) + (fe i)).toNatClampNeg a1))), ((r 13), .inl (cI, 648, .inl (upd fk ((nI (8 * i)) + (fe i)).toNatClampNeg a2)))] H := hP
              have hD : va_D A [((r 0), .inr (3, mf_D r 0 (nI n) a2 pb lc)), ((r 3), .inl (cI, 81, .inl fco)), ((r 5), .inl (cI, 81, .inl ffi)), ((r 11), .inl (cI, 81, .inl (upd fe (nI i).toNatClampNeg ((fe i) + 1)))), ((r 12), .inl (cI, 648, .inl (upd fa ((nI (8 * i)) + (fe i)).toNatClampNeg a1))), ((r 13), .inl (cI, 648, .inl (upd fk ((nI (8 * i)) + (fe i)).toNatClampNeg a2)))] := hD
              have hBH := hB.at hS hA0
              refine lv_aload_n hx hb d_D_end_139 rfl (lv_at hl 0 rfl) ?_
              refine va_get (D := (dC, dI)) (ci := 3) (v := .ref (r 11)) (C := R_D) (T := T_D) (N := 19) hx hb hts ti_D hown hK hP 0 rfl rfl 11 (by decide) (hts (Cond.fieldLink "MeasureRowsModel" 37 "MeasureRowsModel" "ends" "[I") mw_260) (fun _ h9 => h9) rfl d_D_end_140 ?_
              refine lv_iload_n hx hb d_D_end_143 rfl (lv_at hl 1 rfl) ?_
              refine va_iald (D := (dC, dI)) hx hb hK hP 3 0 rfl rfl (i := nI i) (nI_in (by have := hM.1; omega) (by decide)) d_D_end_144 ?_
              refine mr_top (show (upd fe (nI i).toNatClampNeg ((fe i) + 1)) (nI i).toNatClampNeg = fe i + 1 by simp [upd]) ?_
              have hP9 := hP.sub (ws' := [((r 0), .inr (3, mf_D r 0 (nI n) a2 pb lc)), ((r 3), .inl (cI, 81, .inl fco)), ((r 5), .inl (cI, 81, .inl ffi)), ((r 11), .inl (cI, 81, .inl (upd fe (nI i).toNatClampNeg ((fe i) + 1)))), ((r 12), .inl (cI, 648, .inl (upd fa ((nI (8 * i)) + (fe i)).toNatClampNeg a1))), ((r 13), .inl (cI, 648, .inl (upd fk ((nI (8 * i)) + (fe i)).toNatClampNeg a2)))]) [0, 1, 2, 3, 4, 5] rfl
              have hD9 := hD.sub (ws' := [((r 0), .inr (3, mf_D r 0 (nI n) a2 pb lc)), ((r 3), .inl (cI, 81, .inl fco)), ((r 5), .inl (cI, 81, .inl ffi)), ((r 11), .inl (cI, 81, .inl (upd fe (nI i).toNatClampNeg ((fe i) + 1)))), ((r 12), .inl (cI, 648, .inl (upd fa ((nI (8 * i)) + (fe i)).toNatClampNeg a1))), ((r 13), .inl (cI, 648, .inl (upd fk ((nI (8 * i)) + (fe i)).toNatClampNeg a2)))]) [0, 1, 2, 3, 4, 5] (by decide) rfl
              exact W.iret (v := (fe i) + 1) hx hb hr (fun t ht hW => ⟨⟨_, (), rfl, (by unfold mv_D_end_y; rw [if_pos c_6, if_pos c_17, if_neg c_22, if_neg c_23, if_pos c_24, if_neg c_25]), 0, a2, (upd fe (nI i).toNatClampNeg ((fe i) + 1)), (upd fa ((nI (8 * i)) + (fe i)).toNatClampNeg a1), (upd fk ((nI (8 * i)) + (fe i)).toNatClampNeg a2), ⟨by rw [ht]; exact hP9, va_K.moved hW.alike hK, hD9⟩, (by unfold mN_D_end_y_th; rw [if_pos c_6, if_pos c_17, if_neg c_22, if_neg c_23, if_pos c_24, if_neg c_25]), (by unfold mN_D_end_y_nw; rw [if_pos c_6, if_pos c_17, if_neg c_22, if_neg c_23, if_pos c_24, if_neg c_25]), (by unfold mN_D_end_y_fe; rw [if_pos c_6, if_pos c_17, if_neg c_22, if_neg c_23, if_pos c_24, if_neg c_25]), (by unfold mN_D_end_y_fa; rw [if_pos c_6, if_pos c_17, if_neg c_22, if_neg c_23, if_pos c_24, if_neg c_25]), (by unfold mN_D_end_y_fk; rw [if_pos c_6, if_pos c_17, if_neg c_22, if_neg c_23, if_pos c_24, if_neg c_25])⟩, hS.F ht⟩) hS.2.2 d_D_end_145
          · refine lv_iconst (v := 0) hx hb d_D_end_73 (by decide) ?_
            have hP9 := hP.sub (ws' := [((r 0), .inr (3, mf_D r 0 (nI n) nw pb lc)), ((r 3), .inl (cI, 81, .inl fco)), ((r 5), .inl (cI, 81, .inl ffi)), ((r 11), .inl (cI, 81, .inl fe)), ((r 12), .inl (cI, 648, .inl fa)), ((r 13), .inl (cI, 648, .inl fk))]) [0, 1, 2, 3, 4, 5] rfl
            have hD9 := hD.sub (ws' := [((r 0), .inr (3, mf_D r 0 (nI n) nw pb lc)), ((r 3), .inl (cI, 81, .inl fco)), ((r 5), .inl (cI, 81, .inl ffi)), ((r 11), .inl (cI, 81, .inl fe)), ((r 12), .inl (cI, 648, .inl fa)), ((r 13), .inl (cI, 648, .inl fk))]) [0, 1, 2, 3, 4, 5] (by decide) rfl
            exact W.iret (v := 0) hx hb hr (fun t ht hW => ⟨⟨_, (), rfl, (by unfold mv_D_end_y; rw [if_pos c_6, if_pos c_17, if_neg c_22, if_neg c_23, if_neg c_24]), 0, nw, fe, fa, fk, ⟨by rw [ht]; exact hP9, va_K.moved hW.alike hK, hD9⟩, (by unfold mN_D_end_y_th; rw [if_pos c_6, if_pos c_17, if_neg c_22, if_neg c_23, if_neg c_24]), (by unfold mN_D_end_y_nw; rw [if_pos c_6, if_pos c_17, if_neg c_22, if_neg c_23, if_neg c_24]), (by unfold mN_D_end_y_fe; rw [if_pos c_6, if_pos c_17, if_neg c_22, if_neg c_23, if_neg c_24]), (by unfold mN_D_end_y_fa; rw [if_pos c_6, if_pos c_17, if_neg c_22, if_neg c_23, if_neg c_24]), (by unfold mN_D_end_y_fk; rw [if_pos c_6, if_pos c_17, if_neg c_22, if_neg c_23, if_neg c_24])⟩, hS.F ht⟩) hS.2.2 d_D_end_74
        · refine lv_aload_n hx hb d_D_end_52 rfl (lv_at hl 0 rfl) ?_
          refine lv_iconst (v := 3) hx hb d_D_end_53 (by decide) ?_
          have hPc := hP.sub (ws' := [((r 0), .inr (3, mf_D r th (nI n) nw pb lc))]) [0] rfl
          have hDc := hD.sub (ws' := [((r 0), .inr (3, mf_D r th (nI n) nw pb lc))]) [0] (by decide) rfl
          have hFc := va_free (wc := [((r 0), .inr (3, mf_D r th (nI n) nw pb lc))]) hD hS hA [0] rfl
          refine va_calli (va_runV (As := [.int 3]) (rest := []) (C := R_D) ⟨hx, hb, hml, hown, hts⟩ (mc_D_fails l s0 dC dI cI cR cL cZ r th (nI n) nw pb lc _ 3) ⟨(mr_cB 1 (hts (Cond.code y_D_fails b_D_fails 2 (some .int)) mw_318) (hts (Cond.initialized y_D_fails.cls) mw_319) (hts (Cond.methodLink "MeasureRowsModel" 97 y_D_fails) mw_320) rfl rfl (by decide +kernel) ⟨Nat.le_of_ble_eq_true rfl, Nat.le_of_ble_eq_true rfl⟩), (hts (Cond.instanceMethod y_D_fails) mw_321), (hts (Cond.selects "MeasureRowsModel" y_D_fails y_D_fails) mw_322)⟩ (mr_preCV hBH hK hPc (hDc.weaken (fun _ _ _ h => hA0 _ h)) (ci := 3) (q0 := 0) rfl rfl) rfl rfl hl.1 rfl (lv_room (Nat.le_of_ble_eq_true rfl)) d_D_end_54 ⟨Nat.le_of_ble_eq_true rfl, Nat.le_of_ble_eq_true rfl⟩) hS (fun q _ h => hFc q h) hFc (fun r_26 u_27 t H1 locs ht hvm hw hB1 hz1 hk1 hS => ?_)
          obtain ⟨hP1, hK1, hD1⟩ := hB1
          rw [ht] at hP1
          obtain ⟨hP, hD⟩ := va_join (wr := [((r 3), .inl (cI, 81, .inl fco)), ((r 5), .inl (cI, 81, .inl ffi)), ((r 11), .inl (cI, 81, .inl fe)), ((r 12), .inl (cI, 648, .inl fa)), ((r 13), .inl (cI, 648, .inl fk))]) (w1 := [((r 0), .inr (3, mf_D r 3 (nI n) nw pb lc))]) hP hD [0] [1, 2, 3, 4, 5] rfl rfl (by decide) (by decide) hk1 hFc hP1 hD1
          clear hK1 hk1 hPc hDc hFc
          generalize H1 = H at hP hS ht ⊢
          have hP : va_P (dC, dI) mr_cl [((r 3), .inl (cI, 81, .inl fco)), ((r 5), .inl (cI, 81, .inl ffi)), ((r 11), .inl (cI, 81, .inl fe)), ((r 12), .inl (cI, 648, .inl fa)), ((r 13), .inl (cI, 648, .inl fk)), ((r 0), .inr (3, mf_D r 3 (nI n) nw pb lc))] H := hP
          have hD : va_D A [((r 3), .inl (cI, 81, .inl fco)), ((r 5), .inl (cI, 81, .inl ffi)), ((r 11), .inl (cI, 81, .inl fe)), ((r 12), .inl (cI, 648, .inl fa)), ((r 13), .inl (cI, 648, .inl fk)), ((r 0), .inr (3, mf_D r 3 (nI n) nw pb lc))] := hD
          have hBH := hB.at hS hA0
          obtain rfl : r_26 = 0 := hw
          have hP9 := hP.sub (ws' := [((r 0), .inr (3, mf_D r 3 (nI n) nw pb lc)), ((r 3), .inl (cI, 81, .inl fco)), ((r 5), .inl (cI, 81, .inl ffi)), ((r 11), .inl (cI, 81, .inl fe)), ((r 12), .inl (cI, 648, .inl fa)), ((r 13), .inl (cI, 648, .inl fk))]) [5, 0, 1, 2, 3, 4] rfl
          have hD9 := hD.sub (ws' := [((r 0), .inr (3, mf_D r 3 (nI n) nw pb lc)), ((r 3), .inl (cI, 81, .inl fco)), ((r 5), .inl (cI, 81, .inl ffi)), ((r 11), .inl (cI, 81, .inl fe)), ((r 12), .inl (cI, 648, .inl fa)), ((r 13), .inl (cI, 648, .inl fk))]) [5, 0, 1, 2, 3, 4] (by decide) rfl
          exact W.iret (v := 0) hx hb hr (fun t ht hW => ⟨⟨_, (), rfl, (by unfold mv_D_end_y; rw [if_pos c_6, if_pos c_17, if_neg c_22, if_pos c_23]), 3, nw, fe, fa, fk, ⟨by rw [ht]; exact hP9, va_K.moved hW.alike hK, hD9⟩, (by unfold mN_D_end_y_th; rw [if_pos c_6, if_pos c_17, if_neg c_22, if_pos c_23]), (by unfold mN_D_end_y_nw; rw [if_pos c_6, if_pos c_17, if_neg c_22, if_pos c_23]), (by unfold mN_D_end_y_fe; rw [if_pos c_6, if_pos c_17, if_neg c_22, if_pos c_23]), (by unfold mN_D_end_y_fa; rw [if_pos c_6, if_pos c_17, if_neg c_22, if_pos c_23]), (by unfold mN_D_end_y_fk; rw [if_pos c_6, if_pos c_17, if_neg c_22, if_pos c_23])⟩, hS.F ht⟩) hS.2.2 d_D_end_57
      · refine lv_aload_n hx hb d_D_end_35 rfl (lv_at hl 0 rfl) ?_
        refine lv_iconst (v := 2) hx hb d_D_end_36 (by decide) ?_
        have hPc := hP.sub (ws' := [((r 0), .inr (3, mf_D r th (nI n) nw pb lc))]) [0] rfl
        have hDc := hD.sub (ws' := [((r 0), .inr (3, mf_D r th (nI n) nw pb lc))]) [0] (by decide) rfl
        have hFc := va_free (wc := [((r 0), .inr (3, mf_D r th (nI n) nw pb lc))]) hD hS hA [0] rfl
        refine va_calli (va_runV (As := [.int 2]) (rest := []) (C := R_D) ⟨hx, hb, hml, hown, hts⟩ (mc_D_fails l s0 dC dI cI cR cL cZ r th (nI n) nw pb lc _ 2) ⟨(mr_cB 1 (hts (Cond.code y_D_fails b_D_fails 2 (some .int)) mw_318) (hts (Cond.initialized y_D_fails.cls) mw_319) (hts (Cond.methodLink "MeasureRowsModel" 97 y_D_fails) mw_320) rfl rfl (by decide +kernel) ⟨Nat.le_of_ble_eq_true rfl, Nat.le_of_ble_eq_true rfl⟩), (hts (Cond.instanceMethod y_D_fails) mw_321), (hts (Cond.selects "MeasureRowsModel" y_D_fails y_D_fails) mw_322)⟩ (mr_preCV hBH hK hPc (hDc.weaken (fun _ _ _ h => hA0 _ h)) (ci := 3) (q0 := 0) rfl rfl) rfl rfl hl.1 rfl (lv_room (Nat.le_of_ble_eq_true rfl)) d_D_end_37 ⟨Nat.le_of_ble_eq_true rfl, Nat.le_of_ble_eq_true rfl⟩) hS (fun q _ h => hFc q h) hFc (fun r_28 u_29 t H1 locs ht hvm hw hB1 hz1 hk1 hS => ?_)
        obtain ⟨hP1, hK1, hD1⟩ := hB1
        rw [ht] at hP1
        obtain ⟨hP, hD⟩ := va_join (wr := [((r 3), .inl (cI, 81, .inl fco)), ((r 5), .inl (cI, 81, .inl ffi)), ((r 11), .inl (cI, 81, .inl fe)), ((r 12), .inl (cI, 648, .inl fa)), ((r 13), .inl (cI, 648, .inl fk))]) (w1 := [((r 0), .inr (3, mf_D r 2 (nI n) nw pb lc))]) hP hD [0] [1, 2, 3, 4, 5] rfl rfl (by decide) (by decide) hk1 hFc hP1 hD1
        clear hK1 hk1 hPc hDc hFc
        generalize H1 = H at hP hS ht ⊢
        have hP : va_P (dC, dI) mr_cl [((r 3), .inl (cI, 81, .inl fco)), ((r 5), .inl (cI, 81, .inl ffi)), ((r 11), .inl (cI, 81, .inl fe)), ((r 12), .inl (cI, 648, .inl fa)), ((r 13), .inl (cI, 648, .inl fk)), ((r 0), .inr (3, mf_D r 2 (nI n) nw pb lc))] H := hP
        have hD : va_D A [((r 3), .inl (cI, 81, .inl fco)), ((r 5), .inl (cI, 81, .inl ffi)), ((r 11), .inl (cI, 81, .inl fe)), ((r 12), .inl (cI, 648, .inl fa)), ((r 13), .inl (cI, 648, .inl fk)), ((r 0), .inr (3, mf_D r 2 (nI n) nw pb lc))] := hD
        have hBH := hB.at hS hA0
        obtain rfl : r_28 = 0 := hw
        have hP9 := hP.sub (ws' := [((r 0), .inr (3, mf_D r 2 (nI n) nw pb lc)), ((r 3), .inl (cI, 81, .inl fco)), ((r 5), .inl (cI, 81, .inl ffi)), ((r 11), .inl (cI, 81, .inl fe)), ((r 12), .inl (cI, 648, .inl fa)), ((r 13), .inl (cI, 648, .inl fk))]) [5, 0, 1, 2, 3, 4] rfl
        have hD9 := hD.sub (ws' := [((r 0), .inr (3, mf_D r 2 (nI n) nw pb lc)), ((r 3), .inl (cI, 81, .inl fco)), ((r 5), .inl (cI, 81, .inl ffi)), ((r 11), .inl (cI, 81, .inl fe)), ((r 12), .inl (cI, 648, .inl fa)), ((r 13), .inl (cI, 648, .inl fk))]) [5, 0, 1, 2, 3, 4] (by decide) rfl
        exact W.iret (v := 0) hx hb hr (fun t ht hW => ⟨⟨_, (), rfl, (by unfold mv_D_end_y; rw [if_pos c_6, if_pos c_17, if_pos c_22]), 2, nw, fe, fa, fk, ⟨by rw [ht]; exact hP9, va_K.moved hW.alike hK, hD9⟩, (by unfold mN_D_end_y_th; rw [if_pos c_6, if_pos c_17, if_pos c_22]), (by unfold mN_D_end_y_nw; rw [if_pos c_6, if_pos c_17, if_pos c_22]), (by unfold mN_D_end_y_fe; rw [if_pos c_6, if_pos c_17, if_pos c_22]), (by unfold mN_D_end_y_fa; rw [if_pos c_6, if_pos c_17, if_pos c_22]), (by unfold mN_D_end_y_fk; rw [if_pos c_6, if_pos c_17, if_pos c_22])⟩, hS.F ht⟩) hS.2.2 d_D_end_40
def mv_D_end_n  (a0 : Int32) (a1 : Int32) (a2 : Int32) : Int32 := 0
def mN_D_end_n_th  (a0 : Int32) (a1 : Int32) (a2 : Int32) : Int32 := 1
set_option maxHeartbeats 4000000 in
set_option maxRecDepth 100000 in
theorem mc_D_end_nX (l : Launch) (s0 : State) (dC : Nat → ClassId) (dI : Nat → Nat → Nat) (cI cR cL cZ : ClassId) (r : Nat → Nat) (th nw pb lc : Int32) (n : Nat) (fco ffi fe fa fk : Nat → Int32)  (sz : Nat) (a0 : Int32) (a1 : Int32) (a2 : Int32) (hno : mv_D_isRow n a0 = 0) (hM : mr_MI n fe fco) : Met l y_D_end [Cond.code y_D_end b_D_end 4 (some .int)] ({ frames := 1, cells := 0, slots := 0, locals := 21 }) (mr_PC s0 (dC, dI) [(cI, .int), (cR, .object "MeasureRows$Row"), (cL, .long), (cZ, .boolean)] [.ref (r 0), .int a0, .int a1, .int a2] [((r 0), .inr (3, mf_D r th (nI n) nw pb lc)), ((r 3), .inl (cI, 81, .inl fco)), ((r 5), .inl (cI, 81, .inl ffi)), ((r 11), .inl (cI, 81, .inl fe)), ((r 12), .inl (cI, 648, .inl fa)), ((r 13), .inl (cI, 648, .inl fk))] sz) (va_Qi (fun rr _ => rr = mv_D_end_n a0 a1 a2) (fun (u : Unit) t => ∃ (th9 : Int32), mr_W (dC, dI) [(cI, .int), (cR, .object "MeasureRows$Row"), (cL, .long), (cZ, .boolean)] (va_A [((r 0), .inr (3, mf_D r th (nI n) nw pb lc)), ((r 3), .inl (cI, 81, .inl fco)), ((r 5), .inl (cI, 81, .inl ffi)), ((r 11), .inl (cI, 81, .inl fe)), ((r 12), .inl (cI, 648, .inl fa)), ((r 13), .inl (cI, 648, .inl fk))] sz) [((r 0), .inr (3, mf_D r th9 (nI n) nw pb lc)), ((r 3), .inl (cI, 81, .inl fco)), ((r 5), .inl (cI, 81, .inl ffi)), ((r 11), .inl (cI, 81, .inl fe)), ((r 12), .inl (cI, 648, .inl fa)), ((r 13), .inl (cI, 648, .inl fk))] t ∧ th9 = (mN_D_end_n_th a0 a1 a2)) (va_A [((r 0), .inr (3, mf_D r th (nI n) nw pb lc)), ((r 3), .inl (cI, 81, .inl fco)), ((r 5), .inl (cI, 81, .inl ffi)), ((r 11), .inl (cI, 81, .inl fe)), ((r 12), .inl (cI, 648, .inl fa)), ((r 13), .inl (cI, 648, .inl fk))] sz)) 0 0 (va_A [((r 0), .inr (3, mf_D r th (nI n) nw pb lc)), ((r 3), .inl (cI, 81, .inl fco)), ((r 5), .inl (cI, 81, .inl ffi)), ((r 11), .inl (cI, 81, .inl fe)), ((r 12), .inl (cI, 648, .inl fa)), ((r 13), .inl (cI, 648, .inl fk))] sz) := by
  refine Met.ofW (cc := b_D_end) (maxL := 4) (ret := (some .int)) (by decide) rfl ?_
  intro p e s m args below meth c s₁ B hml hv
  obtain ⟨rfl, hsz, hB, hK, hP, hD0⟩ := hv
  subst hsz
  have hA0 := mr_A hB hD0
  have hD := hD0.self (sz := s.heap.size)
  generalize hAe : va_A [((r 0), .inr (3, mf_D r th (nI n) nw pb lc)), ((r 3), .inl (cI, 81, .inl fco)), ((r 5), .inl (cI, 81, .inl ffi)), ((r 11), .inl (cI, 81, .inl fe)), ((r 12), .inl (cI, 648, .inl fa)), ((r 13), .inl (cI, 648, .inl fk))] s.heap.size = A at hD hA0 ⊢
  have hA : ∀ q : Nat, s.heap.size ≤ q → A q := fun q h => by rw [← hAe]; exact Or.inr h
  have hS : va_S A s.heap s.heap [] := va_S.rf
  have hP : va_P (dC, dI) mr_cl [((r 0), .inr (3, mf_D r th (nI n) nw pb lc)), ((r 3), .inl (cI, 81, .inl fco)), ((r 5), .inl (cI, 81, .inl ffi)), ((r 11), .inl (cI, 81, .inl fe)), ((r 12), .inl (cI, 648, .inl fa)), ((r 13), .inl (cI, 648, .inl fk))] s.heap := hP
  have hBH := hB.at hS hA0
  have hx := B.exec
  have hb := B.bytes
  have hr := B.returns
  have hlocks := B.notSynchronized
  have hts : ∀ w ∈ lw_tbl, w.before [.ref (r 0), .int a0, .int a1, .int a2].toArray s = true := hB.hts _
  have hown : s.vm.findClass "MeasureRowsModel" = some m.cls := findClass_of_methodNamed B.named
  have hl := lv_entry ([.ref (r 0), .int a0, .int a1, .int a2]) (n := 4) (Nat.le_of_ble_eq_true rfl)
  rw [lg_entry_eq]
  generalize (lg_sl ([.ref (r 0), .int a0, .int a1, .int a2]) ++ List.replicate (4 - (lg_sl ([.ref (r 0), .int a0, .int a1, .int a2])).length) Slot.unset).toArray = ls at hl ⊢
  have hl : lv_has ls 4 [(0, .ref (r 0)), (1, .int a0), (2, .int a1), (3, .int a2)] := hl
  refine lv_aload_n hx hb d_D_end_0 rfl (lv_at hl 0 rfl) ?_
  refine lv_iload_n hx hb d_D_end_1 rfl (lv_at hl 1 rfl) ?_
  refine vp_callSi (va_Run.run (va_runV (As := [.int a0]) (rest := []) (C := R_D) ⟨hx, hb, hml, hown, hts⟩ (mc_D_isRow l s0 dC dI cI cR cL cZ r th nw pb lc n a0) ⟨(mr_cB 1 (hts (Cond.code y_D_isRow b_D_isRow 2 (some .boolean)) mw_296) (hts (Cond.initialized y_D_isRow.cls) mw_297) (hts (Cond.methodLink "MeasureRowsModel" 104 y_D_isRow) mw_298) rfl rfl (by decide +kernel) ⟨Nat.le_of_ble_eq_true rfl, Nat.le_of_ble_eq_true rfl⟩), (hts (Cond.instanceMethod y_D_isRow) mw_299), (hts (Cond.selects "MeasureRowsModel" y_D_isRow y_D_isRow) mw_300)⟩ (mr_preV hBH hK (hP.sub (ws' := [((r 0), .inr (3, mf_D r th (nI n) nw pb lc))]) [0] rfl) (ci := 3) (q0 := 0) rfl rfl) rfl rfl hl.1 rfl (lv_room (Nat.le_of_ble_eq_true rfl)) d_D_end_2 ⟨Nat.le_of_ble_eq_true rfl, Nat.le_of_ble_eq_true rfl⟩)) (fun r_1 h_2 => ?_)
  subst h_2
  refine mr_top hno ?_
  refine lv_if_ne (tgt := 14) hx hb d_D_end_5 (by decide) (fun c_3 => absurd c_3 (by decide)) (fun _ => ?_)
  refine lv_aload_n hx hb d_D_end_8 rfl (lv_at hl 0 rfl) ?_
  refine lv_iconst (v := 1) hx hb d_D_end_9 (by decide) ?_
  have hPc := hP.sub (ws' := [((r 0), .inr (3, mf_D r th (nI n) nw pb lc))]) [0] rfl
  have hDc := hD.sub (ws' := [((r 0), .inr (3, mf_D r th (nI n) nw pb lc))]) [0] (by decide) rfl
  have hFc := va_free (wc := [((r 0), .inr (3, mf_D r th (nI n) nw pb lc))]) hD hS hA [0] rfl
  refine va_calli (va_runV (As := [.int 1]) (rest := []) (C := R_D) ⟨hx, hb, hml, hown, hts⟩ (mc_D_fails l s0 dC dI cI cR cL cZ r th (nI n) nw pb lc _ 1) ⟨(mr_cB 1 (hts (Cond.code y_D_fails b_D_fails 2 (some .int)) mw_318) (hts (Cond.initialized y_D_fails.cls) mw_319) (hts (Cond.methodLink "MeasureRowsModel" 97 y_D_fails) mw_320) rfl rfl (by decide +kernel) ⟨Nat.le_of_ble_eq_true rfl, Nat.le_of_ble_eq_true rfl⟩), (hts (Cond.instanceMethod y_D_fails) mw_321), (hts (Cond.selects "MeasureRowsModel" y_D_fails y_D_fails) mw_322)⟩ (mr_preCV hBH hK hPc (hDc.weaken (fun _ _ _ h => hA0 _ h)) (ci := 3) (q0 := 0) rfl rfl) rfl rfl hl.1 rfl (lv_room (Nat.le_of_ble_eq_true rfl)) d_D_end_10 ⟨Nat.le_of_ble_eq_true rfl, Nat.le_of_ble_eq_true rfl⟩) hS (fun q _ h => hFc q h) hFc (fun r_4 u_5 t H1 locs ht hvm hw hB1 hz1 hk1 hS => ?_)
  obtain ⟨hP1, hK1, hD1⟩ := hB1
  rw [ht] at hP1
  obtain ⟨hP, hD⟩ := va_join (wr := [((r 3), .inl (cI, 81, .inl fco)), ((r 5), .inl (cI, 81, .inl ffi)), ((r 11), .inl (cI, 81, .inl fe)), ((r 12), .inl (cI, 648, .inl fa)), ((r 13), .inl (cI, 648, .inl fk))]) (w1 := [((r 0), .inr (3, mf_D r 1 (nI n) nw pb lc))]) hP hD [0] [1, 2, 3, 4, 5] rfl rfl (by decide) (by decide) hk1 hFc hP1 hD1
  clear hK1 hk1 hPc hDc hFc
  generalize H1 = H at hP hS ht ⊢
  have hP : va_P (dC, dI) mr_cl [((r 3), .inl (cI, 81, .inl fco)), ((r 5), .inl (cI, 81, .inl ffi)), ((r 11), .inl (cI, 81, .inl fe)), ((r 12), .inl (cI, 648, .inl fa)), ((r 13), .inl (cI, 648, .inl fk)), ((r 0), .inr (3, mf_D r 1 (nI n) nw pb lc))] H := hP
  have hD : va_D A [((r 3), .inl (cI, 81, .inl fco)), ((r 5), .inl (cI, 81, .inl ffi)), ((r 11), .inl (cI, 81, .inl fe)), ((r 12), .inl (cI, 648, .inl fa)), ((r 13), .inl (cI, 648, .inl fk)), ((r 0), .inr (3, mf_D r 1 (nI n) nw pb lc))] := hD
  have hBH := hB.at hS hA0
  obtain rfl : r_4 = 0 := hw
  have hP9 := hP.sub (ws' := [((r 0), .inr (3, mf_D r 1 (nI n) nw pb lc)), ((r 3), .inl (cI, 81, .inl fco)), ((r 5), .inl (cI, 81, .inl ffi)), ((r 11), .inl (cI, 81, .inl fe)), ((r 12), .inl (cI, 648, .inl fa)), ((r 13), .inl (cI, 648, .inl fk))]) [5, 0, 1, 2, 3, 4] rfl
  have hD9 := hD.sub (ws' := [((r 0), .inr (3, mf_D r 1 (nI n) nw pb lc)), ((r 3), .inl (cI, 81, .inl fco)), ((r 5), .inl (cI, 81, .inl ffi)), ((r 11), .inl (cI, 81, .inl fe)), ((r 12), .inl (cI, 648, .inl fa)), ((r 13), .inl (cI, 648, .inl fk))]) [5, 0, 1, 2, 3, 4] (by decide) rfl
  exact W.iret (v := 0) hx hb hr (fun t ht hW => ⟨⟨_, (), rfl, (rfl), 1, ⟨by rw [ht]; exact hP9, va_K.moved hW.alike hK, hD9⟩, (rfl)⟩, hS.F ht⟩) hS.2.2 d_D_end_13
def mv_D_look_y (fco : Nat → Int32) (fla : Nat → Int32) (ffi : Nat → Int32) (fki : Nat → Int32) (fra : Nat → Int32) (fkn : Nat → Int32) (fls : Nat → Int32) (fpa : Nat → Int32) (fe : Nat → Int32) (fa : Nat → Int32) (fk : Nat → Int32) (nw : Int32) (i : Nat) (a1 : Int32) : Int32 := if (mv_D_in a1 0 9) = 0 then 0 else if a1 = 0 then (fco i) else if a1 = 1 then (fla i) else if a1 = 2 then (ffi i) else if a1 = 3 then (mv_D_lastOf fe fa fk i nw) else if a1 = 4 then (fki i) else if a1 = 5 then (fra i) else if a1 = 6 then (fkn i) else if a1 = 7 then (fe i) else if a1 = 8 then (mv_D_bits (fls i)) else (mv_D_bits (fpa i))
def mN_D_look_y_th (fco : Nat → Int32) (fla : Nat → Int32) (ffi : Nat → Int32) (fki : Nat → Int32) (fra : Nat → Int32) (fkn : Nat → Int32) (fls : Nat → Int32) (fpa : Nat → Int32) (fe : Nat → Int32) (fa : Nat → Int32) (fk : Nat → Int32) (nw : Int32) (i : Nat) (a1 : Int32) : Int32 := if (mv_D_in a1 0 9) = 0 then 1 else if a1 = 0 then 0 else if a1 = 1 then 0 else if a1 = 2 then 0 else if a1 = 3 then 0 else if a1 = 4 then 0 else if a1 = 5 then 0 else if a1 = 6 then 0 else if a1 = 7 then 0 else if a1 = 8 then 0 else 0
set_option maxHeartbeats 4000000 in
set_option maxRecDepth 100000 in
theorem mc_D_look_yX (l : Launch) (s0 : State) (dC : Nat → ClassId) (dI : Nat → Nat → Nat) (cI cR cL cZ : ClassId) (r : Nat → Nat) (th nw pb lc : Int32) (n : Nat) (fco fla ffi fki fra fkn fls fpa fe fa fk : Nat → Int32) (i : Nat) (sz : Nat) (a1 : Int32) (hi1 : 1 ≤ i) (hin : i ≤ n) (hM : mr_MI n fe fco) : Met l y_D_look [Cond.code y_D_look b_D_look 3 (some .int)] ({ frames := 1, cells := 0, slots := 0, locals := 25 }) (mr_PC s0 (dC, dI) [(cI, .int), (cR, .object "MeasureRows$Row"), (cL, .long), (cZ, .boolean)] [.ref (r 0), .int (nI i), .int a1] [((r 0), .inr (3, mf_D r th (nI n) nw pb lc)), ((r 3), .inl (cI, 81, .inl fco)), ((r 4), .inl (cI, 81, .inl fla)), ((r 5), .inl (cI, 81, .inl ffi)), ((r 6), .inl (cI, 81, .inl fki)), ((r 7), .inl (cI, 81, .inl fra)), ((r 8), .inl (cI, 81, .inl fkn)), ((r 9), .inl (cI, 81, .inl fls)), ((r 10), .inl (cI, 81, .inl fpa)), ((r 11), .inl (cI, 81, .inl fe)), ((r 12), .inl (cI, 648, .inl fa)), ((r 13), .inl (cI, 648, .inl fk))] sz) (va_Qi (fun rr _ => rr = mv_D_look_y fco fla ffi fki fra fkn fls fpa fe fa fk nw i a1) (fun (u : Unit) t => ∃ (th9 : Int32), mr_W (dC, dI) [(cI, .int), (cR, .object "MeasureRows$Row"), (cL, .long), (cZ, .boolean)] (va_A [((r 0), .inr (3, mf_D r th (nI n) nw pb lc)), ((r 3), .inl (cI, 81, .inl fco)), ((r 4), .inl (cI, 81, .inl fla)), ((r 5), .inl (cI, 81, .inl ffi)), ((r 6), .inl (cI, 81, .inl fki)), ((r 7), .inl (cI, 81, .inl fra)), ((r 8), .inl (cI, 81, .inl fkn)), ((r 9), .inl (cI, 81, .inl fls)), ((r 10), .inl (cI, 81, .inl fpa)), ((r 11), .inl (cI, 81, .inl fe)), ((r 12), .inl (cI, 648, .inl fa)), ((r 13), .inl (cI, 648, .inl fk))] sz) [((r 0), .inr (3, mf_D r th9 (nI n) nw pb lc)), ((r 3), .inl (cI, 81, .inl fco)), ((r 4), .inl (cI, 81, .inl fla)), ((r 5), .inl (cI, 81, .inl ffi)), ((r 6), .inl (cI, 81, .inl fki)), ((r 7), .inl (cI, 81, .inl fra)), ((r 8), .inl (cI, 81, .inl fkn)), ((r 9), .inl (cI, 81, .inl fls)), ((r 10), .inl (cI, 81, .inl fpa)), ((r 11), .inl (cI, 81, .inl fe)), ((r 12), .inl (cI, 648, .inl fa)), ((r 13), .inl (cI, 648, .inl fk))] t ∧ th9 = (mN_D_look_y_th fco fla ffi fki fra fkn fls fpa fe fa fk nw i a1)) (va_A [((r 0), .inr (3, mf_D r th (nI n) nw pb lc)), ((r 3), .inl (cI, 81, .inl fco)), ((r 4), .inl (cI, 81, .inl fla)), ((r 5), .inl (cI, 81, .inl ffi)), ((r 6), .inl (cI, 81, .inl fki)), ((r 7), .inl (cI, 81, .inl fra)), ((r 8), .inl (cI, 81, .inl fkn)), ((r 9), .inl (cI, 81, .inl fls)), ((r 10), .inl (cI, 81, .inl fpa)), ((r 11), .inl (cI, 81, .inl fe)), ((r 12), .inl (cI, 648, .inl fa)), ((r 13), .inl (cI, 648, .inl fk))] sz)) 0 0 (va_A [((r 0), .inr (3, mf_D r th (nI n) nw pb lc)), ((r 3), .inl (cI, 81, .inl fco)), ((r 4), .inl (cI, 81, .inl fla)), ((r 5), .inl (cI, 81, .inl ffi)), ((r 6), .inl (cI, 81, .inl fki)), ((r 7), .inl (cI, 81, .inl fra)), ((r 8), .inl (cI, 81, .inl fkn)), ((r 9), .inl (cI, 81, .inl fls)), ((r 10), .inl (cI, 81, .inl fpa)), ((r 11), .inl (cI, 81, .inl fe)), ((r 12), .inl (cI, 648, .inl fa)), ((r 13), .inl (cI, 648, .inl fk))] sz) := by
  refine Met.ofW (cc := b_D_look) (maxL := 3) (ret := (some .int)) (by decide) rfl ?_
  intro p e s m args below meth c s₁ B hml hv
  obtain ⟨rfl, hsz, hB, hK, hP, hD0⟩ := hv
  subst hsz
  have hA0 := mr_A hB hD0
  have hD := hD0.self (sz := s.heap.size)
  generalize hAe : va_A [((r 0), .inr (3, mf_D r th (nI n) nw pb lc)), ((r 3), .inl (cI, 81, .inl fco)), ((r 4), .inl (cI, 81, .inl fla)), ((r 5), .inl (cI, 81, .inl ffi)), ((r 6), .inl (cI, 81, .inl fki)), ((r 7), .inl (cI, 81, .inl fra)), ((r 8), .inl (cI, 81, .inl fkn)), ((r 9), .inl (cI, 81, .inl fls)), ((r 10), .inl (cI, 81, .inl fpa)), ((r 11), .inl (cI, 81, .inl fe)), ((r 12), .inl (cI, 648, .inl fa)), ((r 13), .inl (cI, 648, .inl fk))] s.heap.size = A at hD hA0 ⊢
  have hA : ∀ q : Nat, s.heap.size ≤ q → A q := fun q h => by rw [← hAe]; exact Or.inr h
  have hS : va_S A s.heap s.heap [] := va_S.rf
  have hP : va_P (dC, dI) mr_cl [((r 0), .inr (3, mf_D r th (nI n) nw pb lc)), ((r 3), .inl (cI, 81, .inl fco)), ((r 4), .inl (cI, 81, .inl fla)), ((r 5), .inl (cI, 81, .inl ffi)), ((r 6), .inl (cI, 81, .inl fki)), ((r 7), .inl (cI, 81, .inl fra)), ((r 8), .inl (cI, 81, .inl fkn)), ((r 9), .inl (cI, 81, .inl fls)), ((r 10), .inl (cI, 81, .inl fpa)), ((r 11), .inl (cI, 81, .inl fe)), ((r 12), .inl (cI, 648, .inl fa)), ((r 13), .inl (cI, 648, .inl fk))] s.heap := hP
  have hBH := hB.at hS hA0
  have hx := B.exec
  have hb := B.bytes
  have hr := B.returns
  have hlocks := B.notSynchronized
  have hts : ∀ w ∈ lw_tbl, w.before [.ref (r 0), .int (nI i), .int a1].toArray s = true := hB.hts _
  have hown : s.vm.findClass "MeasureRowsModel" = some m.cls := findClass_of_methodNamed B.named
  have hl := lv_entry ([.ref (r 0), .int (nI i), .int a1]) (n := 3) (Nat.le_of_ble_eq_true rfl)
  rw [lg_entry_eq]
  generalize (lg_sl ([.ref (r 0), .int (nI i), .int a1]) ++ List.replicate (3 - (lg_sl ([.ref (r 0), .int (nI i), .int a1])).length) Slot.unset).toArray = ls at hl ⊢
  have hl : lv_has ls 3 [(0, .ref (r 0)), (1, .int (nI i)), (2, .int a1)] := hl
  refine lv_aload_n hx hb d_D_look_0 rfl (lv_at hl 0 rfl) ?_
  refine lv_iload_n hx hb d_D_look_1 rfl (lv_at hl 1 rfl) ?_
  refine vp_callSi (va_Run.run (va_runV (As := [.int (nI i)]) (rest := []) (C := R_D) ⟨hx, hb, hml, hown, hts⟩ (mc_D_isRow l s0 dC dI cI cR cL cZ r th nw pb lc n (nI i)) ⟨(mr_cB 1 (hts (Cond.code y_D_isRow b_D_isRow 2 (some .boolean)) mw_296) (hts (Cond.initialized y_D_isRow.cls) mw_297) (hts (Cond.methodLink "MeasureRowsModel" 104 y_D_isRow) mw_298) rfl rfl (by decide +kernel) ⟨Nat.le_of_ble_eq_true rfl, Nat.le_of_ble_eq_true rfl⟩), (hts (Cond.instanceMethod y_D_isRow) mw_299), (hts (Cond.selects "MeasureRowsModel" y_D_isRow y_D_isRow) mw_300)⟩ (mr_preV hBH hK (hP.sub (ws' := [((r 0), .inr (3, mf_D r th (nI n) nw pb lc))]) [0] rfl) (ci := 3) (q0 := 0) rfl rfl) rfl rfl hl.1 rfl (lv_room (Nat.le_of_ble_eq_true rfl)) d_D_look_2 ⟨Nat.le_of_ble_eq_true rfl, Nat.le_of_ble_eq_true rfl⟩)) (fun r_1 h_2 => ?_)
  subst h_2
  refine mr_top (mv_isRow_y hi1 hin hM.1) ?_
  refine lv_if_eq (tgt := 18) hx hb d_D_look_5 (by decide) (fun c_3 => absurd c_3 (by decide)) (fun _ => ?_)
  refine lv_iload_n hx hb d_D_look_8 rfl (lv_at hl 2 rfl) ?_
  refine lv_iconst (v := 0) hx hb d_D_look_9 (by decide) ?_
  refine lv_bipush (v := 9) hx hb d_D_look_10 (by decide) ?_
  refine vp_callSi (va_Run.run (va_runS (As := [.int a1, .int 0, .int 9]) (rest := []) ⟨hx, hb, hml, hown, hts⟩ (mc_D_in l s0 a1 0 9) ⟨(mr_cB 3 (hts (Cond.code y_D_in b_D_in 3 (some .boolean)) mw_15) (hts (Cond.initialized y_D_in.cls) mw_16) (hts (Cond.methodLink "MeasureRowsModel" 57 y_D_in) mw_17) rfl rfl (by decide +kernel) ⟨Nat.le_of_ble_eq_true rfl, Nat.le_of_ble_eq_true rfl⟩), (hts (Cond.static y_D_in) mw_18)⟩ (mr_pre0 hBH) rfl rfl hl.1 rfl (lv_room (Nat.le_of_ble_eq_true rfl)) d_D_look_12 ⟨Nat.le_of_ble_eq_true rfl, Nat.le_of_ble_eq_true rfl⟩)) (fun r_4 h_5 => ?_)
  subst h_5
  refine lv_if_ne (tgt := 24) hx hb d_D_look_15 (by decide) (fun c_6 => ?_) (fun c_6 => ?_)
  · refine lv_aload_n hx hb d_D_look_24 rfl (lv_at hl 0 rfl) ?_
    refine lv_iconst (v := 0) hx hb d_D_look_25 (by decide) ?_
    refine va_put (D := (dC, dI)) (ci := 3) (v := .int 0) (ty := .int) (C := R_D) (T := T_D) (N := 19) hx hb hts ti_D t_D to_D tn_D hown hK hP hD hS 0 rfl rfl 0 (by decide) (hts (Cond.fieldLink "MeasureRowsModel" 53 "MeasureRowsModel" "thrown" "I") mw_295) (fun _ h9 => h9) rfl (by decide +kernel) rfl rfl (Nat.le_of_ble_eq_true rfl) d_D_look_26 (fun H locs hP hD hS => ?_)
    have hP : va_P (dC, dI) mr_cl [((r 0), .inr (3, mf_D r 0 (nI n) nw pb lc)), ((r 3), .inl (cI, 81, .inl fco)), ((r 4), .inl (cI, 81, .inl fla)), ((r 5), .inl (cI, 81, .inl ffi)), ((r 6), .inl (cI, 81, .inl fki)), ((r 7), .inl (cI, 81, .inl fra)), ((r 8), .inl (cI, 81, .inl fkn)), ((r 9), .inl (cI, 81, .inl fls)), ((r 10), .inl (cI, 81, .inl fpa)), ((r 11), .inl (cI, 81, .inl fe)), ((r 12), .inl (cI, 648, .inl fa)), ((r 13), .inl (cI, 648, .inl fk))] H := hP
    have hD : va_D A [((r 0), .inr (3, mf_D r 0 (nI n) nw pb lc)), ((r 3), .inl (cI, 81, .inl fco)), ((r 4), .inl (cI, 81, .inl fla)), ((r 5), .inl (cI, 81, .inl ffi)), ((r 6), .inl (cI, 81, .inl fki)), ((r 7), .inl (cI, 81, .inl fra)), ((r 8), .inl (cI, 81, .inl fkn)), ((r 9), .inl (cI, 81, .inl fls)), ((r 10), .inl (cI, 81, .inl fpa)), ((r 11), .inl (cI, 81, .inl fe)), ((r 12), .inl (cI, 648, .inl fa)), ((r 13), .inl (cI, 648, .inl fk))] := hD
    have hBH := hB.at hS hA0
    refine lv_iload_n hx hb d_D_look_29 rfl (lv_at hl 2 rfl) ?_
    by_cases c_7 : a1 = 0
    · refine lv_tableIn (tgt := 80) hx hb d_D_look_30 (by rw [c_7]; decide) (by rw [c_7]; decide) (by rw [c_7]; rfl) (by decide) ?_
      refine lv_aload_n hx hb d_D_look_80 rfl (lv_at hl 0 rfl) ?_
      refine va_get (D := (dC, dI)) (ci := 3) (v := .ref (r 3)) (C := R_D) (T := T_D) (N := 19) hx hb hts ti_D hown hK hP 0 rfl rfl 3 (by decide) (hts (Cond.fieldLink "MeasureRowsModel" 13 "MeasureRowsModel" "code" "[I") mw_269) (fun _ h9 => h9) rfl d_D_look_81 ?_
      refine lv_iload_n hx hb d_D_look_84 rfl (lv_at hl 1 rfl) ?_
      refine va_iald (D := (dC, dI)) hx hb hK hP 1 0 rfl rfl (i := nI i) (nI_in (by have := hM.1; omega) (by decide)) d_D_look_85 ?_
      refine mr_top (show fco (nI i).toNatClampNeg = fco i from mr_nc (by have := hM.1; omega)) ?_
      have hP9 := hP.sub (ws' := [((r 0), .inr (3, mf_D r 0 (nI n) nw pb lc)), ((r 3), .inl (cI, 81, .inl fco)), ((r 4), .inl (cI, 81, .inl fla)), ((r 5), .inl (cI, 81, .inl ffi)), ((r 6), .inl (cI, 81, .inl fki)), ((r 7), .inl (cI, 81, .inl fra)), ((r 8), .inl (cI, 81, .inl fkn)), ((r 9), .inl (cI, 81, .inl fls)), ((r 10), .inl (cI, 81, .inl fpa)), ((r 11), .inl (cI, 81, .inl fe)), ((r 12), .inl (cI, 648, .inl fa)), ((r 13), .inl (cI, 648, .inl fk))]) [0, 1, 2, 3, 4, 5, 6, 7, 8, 9, 10, 11] rfl
      have hD9 := hD.sub (ws' := [((r 0), .inr (3, mf_D r 0 (nI n) nw pb lc)), ((r 3), .inl (cI, 81, .inl fco)), ((r 4), .inl (cI, 81, .inl fla)), ((r 5), .inl (cI, 81, .inl ffi)), ((r 6), .inl (cI, 81, .inl fki)), ((r 7), .inl (cI, 81, .inl fra)), ((r 8), .inl (cI, 81, .inl fkn)), ((r 9), .inl (cI, 81, .inl fls)), ((r 10), .inl (cI, 81, .inl fpa)), ((r 11), .inl (cI, 81, .inl fe)), ((r 12), .inl (cI, 648, .inl fa)), ((r 13), .inl (cI, 648, .inl fk))]) [0, 1, 2, 3, 4, 5, 6, 7, 8, 9, 10, 11] (by decide) rfl
      exact W.iret (v := fco i) hx hb hr (fun t ht hW => ⟨⟨_, (), rfl, (by unfold mv_D_look_y; rw [if_neg c_6, if_pos c_7]), 0, ⟨by rw [ht]; exact hP9, va_K.moved hW.alike hK, hD9⟩, (by unfold mN_D_look_y_th; rw [if_neg c_6, if_pos c_7])⟩, hS.F ht⟩) hS.2.2 d_D_look_86
    · skip
      by_cases c_8 : a1 = 1
      · refine lv_tableIn (tgt := 87) hx hb d_D_look_30 (by rw [c_8]; decide) (by rw [c_8]; decide) (by rw [c_8]; rfl) (by decide) ?_
        refine lv_aload_n hx hb d_D_look_87 rfl (lv_at hl 0 rfl) ?_
        refine va_get (D := (dC, dI)) (ci := 3) (v := .ref (r 4)) (C := R_D) (T := T_D) (N := 19) hx hb hts ti_D hown hK hP 0 rfl rfl 4 (by decide) (hts (Cond.fieldLink "MeasureRowsModel" 16 "MeasureRowsModel" "land" "[I") mw_270) (fun _ h9 => h9) rfl d_D_look_88 ?_
        refine lv_iload_n hx hb d_D_look_91 rfl (lv_at hl 1 rfl) ?_
        refine va_iald (D := (dC, dI)) hx hb hK hP 2 0 rfl rfl (i := nI i) (nI_in (by have := hM.1; omega) (by decide)) d_D_look_92 ?_
        refine mr_top (show fla (nI i).toNatClampNeg = fla i from mr_nc (by have := hM.1; omega)) ?_
        have hP9 := hP.sub (ws' := [((r 0), .inr (3, mf_D r 0 (nI n) nw pb lc)), ((r 3), .inl (cI, 81, .inl fco)), ((r 4), .inl (cI, 81, .inl fla)), ((r 5), .inl (cI, 81, .inl ffi)), ((r 6), .inl (cI, 81, .inl fki)), ((r 7), .inl (cI, 81, .inl fra)), ((r 8), .inl (cI, 81, .inl fkn)), ((r 9), .inl (cI, 81, .inl fls)), ((r 10), .inl (cI, 81, .inl fpa)), ((r 11), .inl (cI, 81, .inl fe)), ((r 12), .inl (cI, 648, .inl fa)), ((r 13), .inl (cI, 648, .inl fk))]) [0, 1, 2, 3, 4, 5, 6, 7, 8, 9, 10, 11] rfl
        have hD9 := hD.sub (ws' := [((r 0), .inr (3, mf_D r 0 (nI n) nw pb lc)), ((r 3), .inl (cI, 81, .inl fco)), ((r 4), .inl (cI, 81, .inl fla)), ((r 5), .inl (cI, 81, .inl ffi)), ((r 6), .inl (cI, 81, .inl fki)), ((r 7), .inl (cI, 81, .inl fra)), ((r 8), .inl (cI, 81, .inl fkn)), ((r 9), .inl (cI, 81, .inl fls)), ((r 10), .inl (cI, 81, .inl fpa)), ((r 11), .inl (cI, 81, .inl fe)), ((r 12), .inl (cI, 648, .inl fa)), ((r 13), .inl (cI, 648, .inl fk))]) [0, 1, 2, 3, 4, 5, 6, 7, 8, 9, 10, 11] (by decide) rfl
        exact W.iret (v := fla i) hx hb hr (fun t ht hW => ⟨⟨_, (), rfl, (by unfold mv_D_look_y; rw [if_neg c_6, if_neg c_7, if_pos c_8]), 0, ⟨by rw [ht]; exact hP9, va_K.moved hW.alike hK, hD9⟩, (by unfold mN_D_look_y_th; rw [if_neg c_6, if_neg c_7, if_pos c_8])⟩, hS.F ht⟩) hS.2.2 d_D_look_93
      · skip
        by_cases c_9 : a1 = 2
        · refine lv_tableIn (tgt := 94) hx hb d_D_look_30 (by rw [c_9]; decide) (by rw [c_9]; decide) (by rw [c_9]; rfl) (by decide) ?_
          refine lv_aload_n hx hb d_D_look_94 rfl (lv_at hl 0 rfl) ?_
          refine va_get (D := (dC, dI)) (ci := 3) (v := .ref (r 5)) (C := R_D) (T := T_D) (N := 19) hx hb hts ti_D hown hK hP 0 rfl rfl 5 (by decide) (hts (Cond.fieldLink "MeasureRowsModel" 19 "MeasureRowsModel" "first" "[I") mw_263) (fun _ h9 => h9) rfl d_D_look_95 ?_
          refine lv_iload_n hx hb d_D_look_98 rfl (lv_at hl 1 rfl) ?_
          refine va_iald (D := (dC, dI)) hx hb hK hP 3 0 rfl rfl (i := nI i) (nI_in (by have := hM.1; omega) (by decide)) d_D_look_99 ?_
          refine mr_top (show ffi (nI i).toNatClampNeg = ffi i from mr_nc (by have := hM.1; omega)) ?_
          have hP9 := hP.sub (ws' := [((r 0), .inr (3, mf_D r 0 (nI n) nw pb lc)), ((r 3), .inl (cI, 81, .inl fco)), ((r 4), .inl (cI, 81, .inl fla)), ((r 5), .inl (cI, 81, .inl ffi)), ((r 6), .inl (cI, 81, .inl fki)), ((r 7), .inl (cI, 81, .inl fra)), ((r 8), .inl (cI, 81, .inl fkn)), ((r 9), .inl (cI, 81, .inl fls)), ((r 10), .inl (cI, 81, .inl fpa)), ((r 11), .inl (cI, 81, .inl fe)), ((r 12), .inl (cI, 648, .inl fa)), ((r 13), .inl (cI, 648, .inl fk))]) [0, 1, 2, 3, 4, 5, 6, 7, 8, 9, 10, 11] rfl
          have hD9 := hD.sub (ws' := [((r 0), .inr (3, mf_D r 0 (nI n) nw pb lc)), ((r 3), .inl (cI, 81, .inl fco)), ((r 4), .inl (cI, 81, .inl fla)), ((r 5), .inl (cI, 81, .inl ffi)), ((r 6), .inl (cI, 81, .inl fki)), ((r 7), .inl (cI, 81, .inl fra)), ((r 8), .inl (cI, 81, .inl fkn)), ((r 9), .inl (cI, 81, .inl fls)), ((r 10), .inl (cI, 81, .inl fpa)), ((r 11), .inl (cI, 81, .inl fe)), ((r 12), .inl (cI, 648, .inl fa)), ((r 13), .inl (cI, 648, .inl fk))]) [0, 1, 2, 3, 4, 5, 6, 7, 8, 9, 10, 11] (by decide) rfl
          exact W.iret (v := ffi i) hx hb hr (fun t ht hW => ⟨⟨_, (), rfl, (by unfold mv_D_look_y; rw [if_neg c_6, if_neg c_7, if_neg c_8, if_pos c_9]), 0, ⟨by rw [ht]; exact hP9, va_K.moved hW.alike hK, hD9⟩, (by unfold mN_D_look_y_th; rw [if_neg c_6, if_neg c_7, if_neg c_8, if_pos c_9])⟩, hS.F ht⟩) hS.2.2 d_D_look_100
        · skip
          by_cases c_10 : a1 = 3
          · refine lv_tableIn (tgt := 101) hx hb d_D_look_30 (by rw [c_10]; decide) (by rw [c_10]; decide) (by rw [c_10]; rfl) (by decide) ?_
            refine lv_aload_n hx hb d_D_look_101 rfl (lv_at hl 0 rfl) ?_
            refine lv_iload_n hx hb d_D_look_102 rfl (lv_at hl 1 rfl) ?_
            refine lv_aload_n hx hb d_D_look_103 rfl (lv_at hl 0 rfl) ?_
            refine va_get (D := (dC, dI)) (ci := 3) (v := .int nw) (C := R_D) (T := T_D) (N := 19) hx hb hts ti_D hown hK hP 0 rfl rfl 14 (by decide) (hts (Cond.fieldLink "MeasureRowsModel" 84 "MeasureRowsModel" "now" "I") mw_273) (fun _ h9 => h9) rfl d_D_look_104 ?_
            obtain ⟨t_11, het_11, h1t_11, h8t_11⟩ := (hM.2 i (by omega) (by omega)).1
            refine vp_callSi (va_Run.run (va_runV (As := [.int (nI i), .int nw]) (rest := []) (C := R_D) ⟨hx, hb, hml, hown, hts⟩ (mc_D_lastOfX l s0 dC dI cI cR cL cZ r 0 (nI n) nw pb lc fe fa fk i t_11 nw (by have := hM.1; omega) het_11 h8t_11) ⟨(mr_cB 2 (hts (Cond.code y_D_lastOf b_D_lastOf 6 (some .int)) mw_264) (hts (Cond.initialized y_D_lastOf.cls) mw_265) (hts (Cond.methodLink "MeasureRowsModel" 87 y_D_lastOf) mw_266) rfl rfl (by decide +kernel) ⟨Nat.le_of_ble_eq_true rfl, Nat.le_of_ble_eq_true rfl⟩), (hts (Cond.instanceMethod y_D_lastOf) mw_267), (hts (Cond.selects "MeasureRowsModel" y_D_lastOf y_D_lastOf) mw_268)⟩ (mr_preV hBH hK (hP.sub (ws' := [((r 0), .inr (3, mf_D r 0 (nI n) nw pb lc)), ((r 11), .inl (cI, 81, .inl fe)), ((r 12), .inl (cI, 648, .inl fa)), ((r 13), .inl (cI, 648, .inl fk))]) [0, 9, 10, 11] rfl) (ci := 3) (q0 := 0) rfl rfl) rfl rfl hl.1 rfl (lv_room (Nat.le_of_ble_eq_true rfl)) d_D_look_107 ⟨Nat.le_of_ble_eq_true rfl, Nat.le_of_ble_eq_true rfl⟩)) (fun r_12 h_13 => ?_)
            subst h_13
            have hP9 := hP.sub (ws' := [((r 0), .inr (3, mf_D r 0 (nI n) nw pb lc)), ((r 3), .inl (cI, 81, .inl fco)), ((r 4), .inl (cI, 81, .inl fla)), ((r 5), .inl (cI, 81, .inl ffi)), ((r 6), .inl (cI, 81, .inl fki)), ((r 7), .inl (cI, 81, .inl fra)), ((r 8), .inl (cI, 81, .inl fkn)), ((r 9), .inl (cI, 81, .inl fls)), ((r 10), .inl (cI, 81, .inl fpa)), ((r 11), .inl (cI, 81, .inl fe)), ((r 12), .inl (cI, 648, .inl fa)), ((r 13), .inl (cI, 648, .inl fk))]) [0, 1, 2, 3, 4, 5, 6, 7, 8, 9, 10, 11] rfl
            have hD9 := hD.sub (ws' := [((r 0), .inr (3, mf_D r 0 (nI n) nw pb lc)), ((r 3), .inl (cI, 81, .inl fco)), ((r 4), .inl (cI, 81, .inl fla)), ((r 5), .inl (cI, 81, .inl ffi)), ((r 6), .inl (cI, 81, .inl fki)), ((r 7), .inl (cI, 81, .inl fra)), ((r 8), .inl (cI, 81, .inl fkn)), ((r 9), .inl (cI, 81, .inl fls)), ((r 10), .inl (cI, 81, .inl fpa)), ((r 11), .inl (cI, 81, .inl fe)), ((r 12), .inl (cI, 648, .inl fa)), ((r 13), .inl (cI, 648, .inl fk))]) [0, 1, 2, 3, 4, 5, 6, 7, 8, 9, 10, 11] (by decide) rfl
            exact W.iret (v := mv_D_lastOf fe fa fk i nw) hx hb hr (fun t ht hW => ⟨⟨_, (), rfl, (by unfold mv_D_look_y; rw [if_neg c_6, if_neg c_7, if_neg c_8, if_neg c_9, if_pos c_10]), 0, ⟨by rw [ht]; exact hP9, va_K.moved hW.alike hK, hD9⟩, (by unfold mN_D_look_y_th; rw [if_neg c_6, if_neg c_7, if_neg c_8, if_neg c_9, if_pos c_10])⟩, hS.F ht⟩) hS.2.2 d_D_look_110
          · skip
            by_cases c_14 : a1 = 4
            · refine lv_tableIn (tgt := 111) hx hb d_D_look_30 (by rw [c_14]; decide) (by rw [c_14]; decide) (by rw [c_14]; rfl) (by decide) ?_
              refine lv_aload_n hx hb d_D_look_111 rfl (lv_at hl 0 rfl) ?_
              refine va_get (D := (dC, dI)) (ci := 3) (v := .ref (r 6)) (C := R_D) (T := T_D) (N := 19) hx hb hts ti_D hown hK hP 0 rfl rfl 6 (by decide) (hts (Cond.fieldLink "MeasureRowsModel" 22 "MeasureRowsModel" "kind" "[I") mw_271) (fun _ h9 => h9) rfl d_D_look_112 ?_
              refine lv_iload_n hx hb d_D_look_115 rfl (lv_at hl 1 rfl) ?_
              refine va_iald (D := (dC, dI)) hx hb hK hP 4 0 rfl rfl (i := nI i) (nI_in (by have := hM.1; omega) (by decide)) d_D_look_116 ?_
              refine mr_top (show fki (nI i).toNatClampNeg = fki i from mr_nc (by have := hM.1; omega)) ?_
              have hP9 := hP.sub (ws' := [((r 0), .inr (3, mf_D r 0 (nI n) nw pb lc)), ((r 3), .inl (cI, 81, .inl fco)), ((r 4), .inl (cI, 81, .inl fla)), ((r 5), .inl (cI, 81, .inl ffi)), ((r 6), .inl (cI, 81, .inl fki)), ((r 7), .inl (cI, 81, .inl fra)), ((r 8), .inl (cI, 81, .inl fkn)), ((r 9), .inl (cI, 81, .inl fls)), ((r 10), .inl (cI, 81, .inl fpa)), ((r 11), .inl (cI, 81, .inl fe)), ((r 12), .inl (cI, 648, .inl fa)), ((r 13), .inl (cI, 648, .inl fk))]) [0, 1, 2, 3, 4, 5, 6, 7, 8, 9, 10, 11] rfl
              have hD9 := hD.sub (ws' := [((r 0), .inr (3, mf_D r 0 (nI n) nw pb lc)), ((r 3), .inl (cI, 81, .inl fco)), ((r 4), .inl (cI, 81, .inl fla)), ((r 5), .inl (cI, 81, .inl ffi)), ((r 6), .inl (cI, 81, .inl fki)), ((r 7), .inl (cI, 81, .inl fra)), ((r 8), .inl (cI, 81, .inl fkn)), ((r 9), .inl (cI, 81, .inl fls)), ((r 10), .inl (cI, 81, .inl fpa)), ((r 11), .inl (cI, 81, .inl fe)), ((r 12), .inl (cI, 648, .inl fa)), ((r 13), .inl (cI, 648, .inl fk))]) [0, 1, 2, 3, 4, 5, 6, 7, 8, 9, 10, 11] (by decide) rfl
              exact W.iret (v := fki i) hx hb hr (fun t ht hW => ⟨⟨_, (), rfl, (by unfold mv_D_look_y; rw [if_neg c_6, if_neg c_7, if_neg c_8, if_neg c_9, if_neg c_10, if_pos c_14]), 0, ⟨by rw [ht]; exact hP9, va_K.moved hW.alike hK, hD9⟩, (by unfold mN_D_look_y_th; rw [if_neg c_6, if_neg c_7, if_neg c_8, if_neg c_9, if_neg c_10, if_pos c_14])⟩, hS.F ht⟩) hS.2.2 d_D_look_117
            · skip
              by_cases c_15 : a1 = 5
              · refine lv_tableIn (tgt := 118) hx hb d_D_look_30 (by rw [c_15]; decide) (by rw [c_15]; decide) (by rw [c_15]; rfl) (by decide) ?_
                refine lv_aload_n hx hb d_D_look_118 rfl (lv_at hl 0 rfl) ?_
                refine va_get (D := (dC, dI)) (ci := 3) (v := .ref (r 7)) (C := R_D) (T := T_D) (N := 19) hx hb hts ti_D hown hK hP 0 rfl rfl 7 (by decide) (hts (Cond.fieldLink "MeasureRowsModel" 25 "MeasureRowsModel" "rank" "[I") mw_272) (fun _ h9 => h9) rfl d_D_look_119 ?_
                refine lv_iload_n hx hb d_D_look_122 rfl (lv_at hl 1 rfl) ?_
                refine va_iald (D := (dC, dI)) hx hb hK hP 5 0 rfl rfl (i := nI i) (nI_in (by have := hM.1; omega) (by decide)) d_D_look_123 ?_
                refine mr_top (show fra (nI i).toNatClampNeg = fra i from mr_nc (by have := hM.1; omega)) ?_
                have hP9 := hP.sub (ws' := [((r 0), .inr (3, mf_D r 0 (nI n) nw pb lc)), ((r 3), .inl (cI, 81, .inl fco)), ((r 4), .inl (cI, 81, .inl fla)), ((r 5), .inl (cI, 81, .inl ffi)), ((r 6), .inl (cI, 81, .inl fki)), ((r 7), .inl (cI, 81, .inl fra)), ((r 8), .inl (cI, 81, .inl fkn)), ((r 9), .inl (cI, 81, .inl fls)), ((r 10), .inl (cI, 81, .inl fpa)), ((r 11), .inl (cI, 81, .inl fe)), ((r 12), .inl (cI, 648, .inl fa)), ((r 13), .inl (cI, 648, .inl fk))]) [0, 1, 2, 3, 4, 5, 6, 7, 8, 9, 10, 11] rfl
                have hD9 := hD.sub (ws' := [((r 0), .inr (3, mf_D r 0 (nI n) nw pb lc)), ((r 3), .inl (cI, 81, .inl fco)), ((r 4), .inl (cI, 81, .inl fla)), ((r 5), .inl (cI, 81, .inl ffi)), ((r 6), .inl (cI, 81, .inl fki)), ((r 7), .inl (cI, 81, .inl fra)), ((r 8), .inl (cI, 81, .inl fkn)), ((r 9), .inl (cI, 81, .inl fls)), ((r 10), .inl (cI, 81, .inl fpa)), ((r 11), .inl (cI, 81, .inl fe)), ((r 12), .inl (cI, 648, .inl fa)), ((r 13), .inl (cI, 648, .inl fk))]) [0, 1, 2, 3, 4, 5, 6, 7, 8, 9, 10, 11] (by decide) rfl
                exact W.iret (v := fra i) hx hb hr (fun t ht hW => ⟨⟨_, (), rfl, (by unfold mv_D_look_y; rw [if_neg c_6, if_neg c_7, if_neg c_8, if_neg c_9, if_neg c_10, if_neg c_14, if_pos c_15]), 0, ⟨by rw [ht]; exact hP9, va_K.moved hW.alike hK, hD9⟩, (by unfold mN_D_look_y_th; rw [if_neg c_6, if_neg c_7, if_neg c_8, if_neg c_9, if_neg c_10, if_neg c_14, if_pos c_15])⟩, hS.F ht⟩) hS.2.2 d_D_look_124
              · skip
                by_cases c_16 : a1 = 6
                · refine lv_tableIn (tgt := 125) hx hb d_D_look_30 (by rw [c_16]; decide) (by rw [c_16]; decide) (by rw [c_16]; rfl) (by decide) ?_
                  refine lv_aload_n hx hb d_D_look_125 rfl (lv_at hl 0 rfl) ?_
                  refine va_get (D := (dC, dI)) (ci := 3) (v := .ref (r 8)) (C := R_D) (T := T_D) (N := 19) hx hb hts ti_D hown hK hP 0 rfl rfl 8 (by decide) (hts (Cond.fieldLink "MeasureRowsModel" 28 "MeasureRowsModel" "known" "[I") mw_274) (fun _ h9 => h9) rfl d_D_look_126 ?_
                  refine lv_iload_n hx hb d_D_look_129 rfl (lv_at hl 1 rfl) ?_
                  refine va_iald (D := (dC, dI)) hx hb hK hP 6 0 rfl rfl (i := nI i) (nI_in (by have := hM.1; omega) (by decide)) d_D_look_130 ?_
                  refine mr_top (show fkn (nI i).toNatClampNeg = fkn i from mr_nc (by have := hM.1; omega)) ?_
                  have hP9 := hP.sub (ws' := [((r 0), .inr (3, mf_D r 0 (nI n) nw pb lc)), ((r 3), .inl (cI, 81, .inl fco)), ((r 4), .inl (cI, 81, .inl fla)), ((r 5), .inl (cI, 81, .inl ffi)), ((r 6), .inl (cI, 81, .inl fki)), ((r 7), .inl (cI, 81, .inl fra)), ((r 8), .inl (cI, 81, .inl fkn)), ((r 9), .inl (cI, 81, .inl fls)), ((r 10), .inl (cI, 81, .inl fpa)), ((r 11), .inl (cI, 81, .inl fe)), ((r 12), .inl (cI, 648, .inl fa)), ((r 13), .inl (cI, 648, .inl fk))]) [0, 1, 2, 3, 4, 5, 6, 7, 8, 9, 10, 11] rfl
                  have hD9 := hD.sub (ws' := [((r 0), .inr (3, mf_D r 0 (nI n) nw pb lc)), ((r 3), .inl (cI, 81, .inl fco)), ((r 4), .inl (cI, 81, .inl fla)), ((r 5), .inl (cI, 81, .inl ffi)), ((r 6), .inl (cI, 81, .inl fki)), ((r 7), .inl (cI, 81, .inl fra)), ((r 8), .inl (cI, 81, .inl fkn)), ((r 9), .inl (cI, 81, .inl fls)), ((r 10), .inl (cI, 81, .inl fpa)), ((r 11), .inl (cI, 81, .inl fe)), ((r 12), .inl (cI, 648, .inl fa)), ((r 13), .inl (cI, 648, .inl fk))]) [0, 1, 2, 3, 4, 5, 6, 7, 8, 9, 10, 11] (by decide) rfl
                  exact W.iret (v := fkn i) hx hb hr (fun t ht hW => ⟨⟨_, (), rfl, (by unfold mv_D_look_y; rw [if_neg c_6, if_neg c_7, if_neg c_8, if_neg c_9, if_neg c_10, if_neg c_14, if_neg c_15, if_pos c_16]), 0, ⟨by rw [ht]; exact hP9, va_K.moved hW.alike hK, hD9⟩, (by unfold mN_D_look_y_th; rw [if_neg c_6, if_neg c_7, if_neg c_8, if_neg c_9, if_neg c_10, if_neg c_14, if_neg c_15, if_pos c_16])⟩, hS.F ht⟩) hS.2.2 d_D_look_131
                · skip
                  by_cases c_17 : a1 = 7
                  · refine lv_tableIn (tgt := 132) hx hb d_D_look_30 (by rw [c_17]; decide) (by rw [c_17]; decide) (by rw [c_17]; rfl) (by decide) ?_
                    refine lv_aload_n hx hb d_D_look_132 rfl (lv_at hl 0 rfl) ?_
                    refine va_get (D := (dC, dI)) (ci := 3) (v := .ref (r 11)) (C := R_D) (T := T_D) (N := 19) hx hb hts ti_D hown hK hP 0 rfl rfl 11 (by decide) (hts (Cond.fieldLink "MeasureRowsModel" 37 "MeasureRowsModel" "ends" "[I") mw_260) (fun _ h9 => h9) rfl d_D_look_133 ?_
                    refine lv_iload_n hx hb d_D_look_136 rfl (lv_at hl 1 rfl) ?_
                    refine va_iald (D := (dC, dI)) hx hb hK hP 9 0 rfl rfl (i := nI i) (nI_in (by have := hM.1; omega) (by decide)) d_D_look_137 ?_
                    refine mr_top (show fe (nI i).toNatClampNeg = fe i from mr_nc (by have := hM.1; omega)) ?_
                    have hP9 := hP.sub (ws' := [((r 0), .inr (3, mf_D r 0 (nI n) nw pb lc)), ((r 3), .inl (cI, 81, .inl fco)), ((r 4), .inl (cI, 81, .inl fla)), ((r 5), .inl (cI, 81, .inl ffi)), ((r 6), .inl (cI, 81, .inl fki)), ((r 7), .inl (cI, 81, .inl fra)), ((r 8), .inl (cI, 81, .inl fkn)), ((r 9), .inl (cI, 81, .inl fls)), ((r 10), .inl (cI, 81, .inl fpa)), ((r 11), .inl (cI, 81, .inl fe)), ((r 12), .inl (cI, 648, .inl fa)), ((r 13), .inl (cI, 648, .inl fk))]) [0, 1, 2, 3, 4, 5, 6, 7, 8, 9, 10, 11] rfl
                    have hD9 := hD.sub (ws' := [((r 0), .inr (3, mf_D r 0 (nI n) nw pb lc)), ((r 3), .inl (cI, 81, .inl fco)), ((r 4), .inl (cI, 81, .inl fla)), ((r 5), .inl (cI, 81, .inl ffi)), ((r 6), .inl (cI, 81, .inl fki)), ((r 7), .inl (cI, 81, .inl fra)), ((r 8), .inl (cI, 81, .inl fkn)), ((r 9), .inl (cI, 81, .inl fls)), ((r 10), .inl (cI, 81, .inl fpa)), ((r 11), .inl (cI, 81, .inl fe)), ((r 12), .inl (cI, 648, .inl fa)), ((r 13), .inl (cI, 648, .inl fk))]) [0, 1, 2, 3, 4, 5, 6, 7, 8, 9, 10, 11] (by decide) rfl
                    exact W.iret (v := fe i) hx hb hr (fun t ht hW => ⟨⟨_, (), rfl, (by unfold mv_D_look_y; rw [if_neg c_6, if_neg c_7, if_neg c_8, if_neg c_9, if_neg c_10, if_neg c_14, if_neg c_15, if_neg c_16, if_pos c_17]), 0, ⟨by rw [ht]; exact hP9, va_K.moved hW.alike hK, hD9⟩, (by unfold mN_D_look_y_th; rw [if_neg c_6, if_neg c_7, if_neg c_8, if_neg c_9, if_neg c_10, if_neg c_14, if_neg c_15, if_neg c_16, if_pos c_17])⟩, hS.F ht⟩) hS.2.2 d_D_look_138
                  · skip
                    by_cases c_18 : a1 = 8
                    · refine lv_tableIn (tgt := 139) hx hb d_D_look_30 (by rw [c_18]; decide) (by rw [c_18]; decide) (by rw [c_18]; rfl) (by decide) ?_
                      refine lv_aload_n hx hb d_D_look_139 rfl (lv_at hl 0 rfl) ?_
                      refine va_get (D := (dC, dI)) (ci := 3) (v := .ref (r 9)) (C := R_D) (T := T_D) (N := 19) hx hb hts ti_D hown hK hP 0 rfl rfl 9 (by decide) (hts (Cond.fieldLink "MeasureRowsModel" 31 "MeasureRowsModel" "lands" "[I") mw_284) (fun _ h9 => h9) rfl d_D_look_140 ?_
                      refine lv_iload_n hx hb d_D_look_143 rfl (lv_at hl 1 rfl) ?_
                      refine va_iald (D := (dC, dI)) hx hb hK hP 7 0 rfl rfl (i := nI i) (nI_in (by have := hM.1; omega) (by decide)) d_D_look_144 ?_
                      refine mr_top (show fls (nI i).toNatClampNeg = fls i from mr_nc (by have := hM.1; omega)) ?_
                      refine vp_callSi (va_Run.run (va_runS (As := [.int (fls i)]) (rest := []) ⟨hx, hb, hml, hown, hts⟩ (mc_D_bits l s0 (fls i)) ⟨(mr_cB 1 (hts (Cond.code y_D_bits b_D_bits 3 (some .int)) mw_305) (hts (Cond.initialized y_D_bits.cls) mw_306) (hts (Cond.methodLink "MeasureRowsModel" 107 y_D_bits) mw_307) rfl rfl (by decide +kernel) ⟨Nat.le_of_ble_eq_true rfl, Nat.le_of_ble_eq_true rfl⟩), (hts (Cond.static y_D_bits) mw_308)⟩ (mr_pre0 hBH) rfl rfl hl.1 rfl (lv_room (Nat.le_of_ble_eq_true rfl)) d_D_look_145 ⟨Nat.le_of_ble_eq_true rfl, Nat.le_of_ble_eq_true rfl⟩)) (fun r_19 h_20 => ?_)
                      subst h_20
                      have hP9 := hP.sub (ws' := [((r 0), .inr (3, mf_D r 0 (nI n) nw pb lc)), ((r 3), .inl (cI, 81, .inl fco)), ((r 4), .inl (cI, 81, .inl fla)), ((r 5), .inl (cI, 81, .inl ffi)), ((r 6), .inl (cI, 81, .inl fki)), ((r 7), .inl (cI, 81, .inl fra)), ((r 8), .inl (cI, 81, .inl fkn)), ((r 9), .inl (cI, 81, .inl fls)), ((r 10), .inl (cI, 81, .inl fpa)), ((r 11), .inl (cI, 81, .inl fe)), ((r 12), .inl (cI, 648, .inl fa)), ((r 13), .inl (cI, 648, .inl fk))]) [0, 1, 2, 3, 4, 5, 6, 7, 8, 9, 10, 11] rfl
                      have hD9 := hD.sub (ws' := [((r 0), .inr (3, mf_D r 0 (nI n) nw pb lc)), ((r 3), .inl (cI, 81, .inl fco)), ((r 4), .inl (cI, 81, .inl fla)), ((r 5), .inl (cI, 81, .inl ffi)), ((r 6), .inl (cI, 81, .inl fki)), ((r 7), .inl (cI, 81, .inl fra)), ((r 8), .inl (cI, 81, .inl fkn)), ((r 9), .inl (cI, 81, .inl fls)), ((r 10), .inl (cI, 81, .inl fpa)), ((r 11), .inl (cI, 81, .inl fe)), ((r 12), .inl (cI, 648, .inl fa)), ((r 13), .inl (cI, 648, .inl fk))]) [0, 1, 2, 3, 4, 5, 6, 7, 8, 9, 10, 11] (by decide) rfl
                      exact W.iret (v := mv_D_bits (fls i)) hx hb hr (fun t ht hW => ⟨⟨_, (), rfl, (by unfold mv_D_look_y; rw [if_neg c_6, if_neg c_7, if_neg c_8, if_neg c_9, if_neg c_10, if_neg c_14, if_neg c_15, if_neg c_16, if_neg c_17, if_pos c_18]), 0, ⟨by rw [ht]; exact hP9, va_K.moved hW.alike hK, hD9⟩, (by unfold mN_D_look_y_th; rw [if_neg c_6, if_neg c_7, if_neg c_8, if_neg c_9, if_neg c_10, if_neg c_14, if_neg c_15, if_neg c_16, if_neg c_17, if_pos c_18])⟩, hS.F ht⟩) hS.2.2 d_D_look_148
                    · skip
                      refine lv_tableOut (tgt := 149) hx hb d_D_look_30 (by have z0 := mr_ne (z := 0) (by decide) c_7; have z1 := mr_ne (z := 1) (by decide) c_8; have z2 := mr_ne (z := 2) (by decide) c_9; have z3 := mr_ne (z := 3) (by decide) c_10; have z4 := mr_ne (z := 4) (by decide) c_14; have z5 := mr_ne (z := 5) (by decide) c_15; have z6 := mr_ne (z := 6) (by decide) c_16; have z7 := mr_ne (z := 7) (by decide) c_17; have z8 := mr_ne (z := 8) (by decide) c_18; omega) (by decide) ?_
                      refine lv_aload_n hx hb d_D_look_149 rfl (lv_at hl 0 rfl) ?_
                      refine va_get (D := (dC, dI)) (ci := 3) (v := .ref (r 10)) (C := R_D) (T := T_D) (N := 19) hx hb hts ti_D hown hK hP 0 rfl rfl 10 (by decide) (hts (Cond.fieldLink "MeasureRowsModel" 34 "MeasureRowsModel" "papers" "[I") mw_309) (fun _ h9 => h9) rfl d_D_look_150 ?_
                      refine lv_iload_n hx hb d_D_look_153 rfl (lv_at hl 1 rfl) ?_
                      refine va_iald (D := (dC, dI)) hx hb hK hP 8 0 rfl rfl (i := nI i) (nI_in (by have := hM.1; omega) (by decide)) d_D_look_154 ?_
                      refine mr_top (show fpa (nI i).toNatClampNeg = fpa i from mr_nc (by have := hM.1; omega)) ?_
                      refine vp_callSi (va_Run.run (va_runS (As := [.int (fpa i)]) (rest := []) ⟨hx, hb, hml, hown, hts⟩ (mc_D_bits l s0 (fpa i)) ⟨(mr_cB 1 (hts (Cond.code y_D_bits b_D_bits 3 (some .int)) mw_305) (hts (Cond.initialized y_D_bits.cls) mw_306) (hts (Cond.methodLink "MeasureRowsModel" 107 y_D_bits) mw_307) rfl rfl (by decide +kernel) ⟨Nat.le_of_ble_eq_true rfl, Nat.le_of_ble_eq_true rfl⟩), (hts (Cond.static y_D_bits) mw_308)⟩ (mr_pre0 hBH) rfl rfl hl.1 rfl (lv_room (Nat.le_of_ble_eq_true rfl)) d_D_look_155 ⟨Nat.le_of_ble_eq_true rfl, Nat.le_of_ble_eq_true rfl⟩)) (fun r_21 h_22 => ?_)
                      subst h_22
                      have hP9 := hP.sub (ws' := [((r 0), .inr (3, mf_D r 0 (nI n) nw pb lc)), ((r 3), .inl (cI, 81, .inl fco)), ((r 4), .inl (cI, 81, .inl fla)), ((r 5), .inl (cI, 81, .inl ffi)), ((r 6), .inl (cI, 81, .inl fki)), ((r 7), .inl (cI, 81, .inl fra)), ((r 8), .inl (cI, 81, .inl fkn)), ((r 9), .inl (cI, 81, .inl fls)), ((r 10), .inl (cI, 81, .inl fpa)), ((r 11), .inl (cI, 81, .inl fe)), ((r 12), .inl (cI, 648, .inl fa)), ((r 13), .inl (cI, 648, .inl fk))]) [0, 1, 2, 3, 4, 5, 6, 7, 8, 9, 10, 11] rfl
                      have hD9 := hD.sub (ws' := [((r 0), .inr (3, mf_D r 0 (nI n) nw pb lc)), ((r 3), .inl (cI, 81, .inl fco)), ((r 4), .inl (cI, 81, .inl fla)), ((r 5), .inl (cI, 81, .inl ffi)), ((r 6), .inl (cI, 81, .inl fki)), ((r 7), .inl (cI, 81, .inl fra)), ((r 8), .inl (cI, 81, .inl fkn)), ((r 9), .inl (cI, 81, .inl fls)), ((r 10), .inl (cI, 81, .inl fpa)), ((r 11), .inl (cI, 81, .inl fe)), ((r 12), .inl (cI, 648, .inl fa)), ((r 13), .inl (cI, 648, .inl fk))]) [0, 1, 2, 3, 4, 5, 6, 7, 8, 9, 10, 11] (by decide) rfl
                      exact W.iret (v := mv_D_bits (fpa i)) hx hb hr (fun t ht hW => ⟨⟨_, (), rfl, (by unfold mv_D_look_y; rw [if_neg c_6, if_neg c_7, if_neg c_8, if_neg c_9, if_neg c_10, if_neg c_14, if_neg c_15, if_neg c_16, if_neg c_17, if_neg c_18]), 0, ⟨by rw [ht]; exact hP9, va_K.moved hW.alike hK, hD9⟩, (by unfold mN_D_look_y_th; rw [if_neg c_6, if_neg c_7, if_neg c_8, if_neg c_9, if_neg c_10, if_neg c_14, if_neg c_15, if_neg c_16, if_neg c_17, if_neg c_18])⟩, hS.F ht⟩) hS.2.2 d_D_look_158
  · refine lv_aload_n hx hb d_D_look_18 rfl (lv_at hl 0 rfl) ?_
    refine lv_iconst (v := 1) hx hb d_D_look_19 (by decide) ?_
    have hPc := hP.sub (ws' := [((r 0), .inr (3, mf_D r th (nI n) nw pb lc))]) [0] rfl
    have hDc := hD.sub (ws' := [((r 0), .inr (3, mf_D r th (nI n) nw pb lc))]) [0] (by decide) rfl
    have hFc := va_free (wc := [((r 0), .inr (3, mf_D r th (nI n) nw pb lc))]) hD hS hA [0] rfl
    refine va_calli (va_runV (As := [.int 1]) (rest := []) (C := R_D) ⟨hx, hb, hml, hown, hts⟩ (mc_D_fails l s0 dC dI cI cR cL cZ r th (nI n) nw pb lc _ 1) ⟨(mr_cB 1 (hts (Cond.code y_D_fails b_D_fails 2 (some .int)) mw_318) (hts (Cond.initialized y_D_fails.cls) mw_319) (hts (Cond.methodLink "MeasureRowsModel" 97 y_D_fails) mw_320) rfl rfl (by decide +kernel) ⟨Nat.le_of_ble_eq_true rfl, Nat.le_of_ble_eq_true rfl⟩), (hts (Cond.instanceMethod y_D_fails) mw_321), (hts (Cond.selects "MeasureRowsModel" y_D_fails y_D_fails) mw_322)⟩ (mr_preCV hBH hK hPc (hDc.weaken (fun _ _ _ h => hA0 _ h)) (ci := 3) (q0 := 0) rfl rfl) rfl rfl hl.1 rfl (lv_room (Nat.le_of_ble_eq_true rfl)) d_D_look_20 ⟨Nat.le_of_ble_eq_true rfl, Nat.le_of_ble_eq_true rfl⟩) hS (fun q _ h => hFc q h) hFc (fun r_23 u_24 t H1 locs ht hvm hw hB1 hz1 hk1 hS => ?_)
    obtain ⟨hP1, hK1, hD1⟩ := hB1
    rw [ht] at hP1
    obtain ⟨hP, hD⟩ := va_join (wr := [((r 3), .inl (cI, 81, .inl fco)), ((r 4), .inl (cI, 81, .inl fla)), ((r 5), .inl (cI, 81, .inl ffi)), ((r 6), .inl (cI, 81, .inl fki)), ((r 7), .inl (cI, 81, .inl fra)), ((r 8), .inl (cI, 81, .inl fkn)), ((r 9), .inl (cI, 81, .inl fls)), ((r 10), .inl (cI, 81, .inl fpa)), ((r 11), .inl (cI, 81, .inl fe)), ((r 12), .inl (cI, 648, .inl fa)), ((r 13), .inl (cI, 648, .inl fk))]) (w1 := [((r 0), .inr (3, mf_D r 1 (nI n) nw pb lc))]) hP hD [0] [1, 2, 3, 4, 5, 6, 7, 8, 9, 10, 11] rfl rfl (by decide) (by decide) hk1 hFc hP1 hD1
    clear hK1 hk1 hPc hDc hFc
    generalize H1 = H at hP hS ht ⊢
    have hP : va_P (dC, dI) mr_cl [((r 3), .inl (cI, 81, .inl fco)), ((r 4), .inl (cI, 81, .inl fla)), ((r 5), .inl (cI, 81, .inl ffi)), ((r 6), .inl (cI, 81, .inl fki)), ((r 7), .inl (cI, 81, .inl fra)), ((r 8), .inl (cI, 81, .inl fkn)), ((r 9), .inl (cI, 81, .inl fls)), ((r 10), .inl (cI, 81, .inl fpa)), ((r 11), .inl (cI, 81, .inl fe)), ((r 12), .inl (cI, 648, .inl fa)), ((r 13), .inl (cI, 648, .inl fk)), ((r 0), .inr (3, mf_D r 1 (nI n) nw pb lc))] H := hP
    have hD : va_D A [((r 3), .inl (cI, 81, .inl fco)), ((r 4), .inl (cI, 81, .inl fla)), ((r 5), .inl (cI, 81, .inl ffi)), ((r 6), .inl (cI, 81, .inl fki)), ((r 7), .inl (cI, 81, .inl fra)), ((r 8), .inl (cI, 81, .inl fkn)), ((r 9), .inl (cI, 81, .inl fls)), ((r 10), .inl (cI, 81, .inl fpa)), ((r 11), .inl (cI, 81, .inl fe)), ((r 12), .inl (cI, 648, .inl fa)), ((r 13), .inl (cI, 648, .inl fk)), ((r 0), .inr (3, mf_D r 1 (nI n) nw pb lc))] := hD
    have hBH := hB.at hS hA0
    obtain rfl : r_23 = 0 := hw
    have hP9 := hP.sub (ws' := [((r 0), .inr (3, mf_D r 1 (nI n) nw pb lc)), ((r 3), .inl (cI, 81, .inl fco)), ((r 4), .inl (cI, 81, .inl fla)), ((r 5), .inl (cI, 81, .inl ffi)), ((r 6), .inl (cI, 81, .inl fki)), ((r 7), .inl (cI, 81, .inl fra)), ((r 8), .inl (cI, 81, .inl fkn)), ((r 9), .inl (cI, 81, .inl fls)), ((r 10), .inl (cI, 81, .inl fpa)), ((r 11), .inl (cI, 81, .inl fe)), ((r 12), .inl (cI, 648, .inl fa)), ((r 13), .inl (cI, 648, .inl fk))]) [11, 0, 1, 2, 3, 4, 5, 6, 7, 8, 9, 10] rfl
    have hD9 := hD.sub (ws' := [((r 0), .inr (3, mf_D r 1 (nI n) nw pb lc)), ((r 3), .inl (cI, 81, .inl fco)), ((r 4), .inl (cI, 81, .inl fla)), ((r 5), .inl (cI, 81, .inl ffi)), ((r 6), .inl (cI, 81, .inl fki)), ((r 7), .inl (cI, 81, .inl fra)), ((r 8), .inl (cI, 81, .inl fkn)), ((r 9), .inl (cI, 81, .inl fls)), ((r 10), .inl (cI, 81, .inl fpa)), ((r 11), .inl (cI, 81, .inl fe)), ((r 12), .inl (cI, 648, .inl fa)), ((r 13), .inl (cI, 648, .inl fk))]) [11, 0, 1, 2, 3, 4, 5, 6, 7, 8, 9, 10] (by decide) rfl
    exact W.iret (v := 0) hx hb hr (fun t ht hW => ⟨⟨_, (), rfl, (by unfold mv_D_look_y; rw [if_pos c_6]), 1, ⟨by rw [ht]; exact hP9, va_K.moved hW.alike hK, hD9⟩, (by unfold mN_D_look_y_th; rw [if_pos c_6])⟩, hS.F ht⟩) hS.2.2 d_D_look_23
def mv_D_look_n  (a0 : Int32) (a1 : Int32) : Int32 := 0
def mN_D_look_n_th  (a0 : Int32) (a1 : Int32) : Int32 := 1
set_option maxHeartbeats 4000000 in
set_option maxRecDepth 100000 in
theorem mc_D_look_nX (l : Launch) (s0 : State) (dC : Nat → ClassId) (dI : Nat → Nat → Nat) (cI cR cL cZ : ClassId) (r : Nat → Nat) (th nw pb lc : Int32) (n : Nat) (fco fla ffi fki fra fkn fls fpa fe fa fk : Nat → Int32)  (sz : Nat) (a0 : Int32) (a1 : Int32) (hno : mv_D_isRow n a0 = 0) (hM : mr_MI n fe fco) : Met l y_D_look [Cond.code y_D_look b_D_look 3 (some .int)] ({ frames := 1, cells := 0, slots := 0, locals := 21 }) (mr_PC s0 (dC, dI) [(cI, .int), (cR, .object "MeasureRows$Row"), (cL, .long), (cZ, .boolean)] [.ref (r 0), .int a0, .int a1] [((r 0), .inr (3, mf_D r th (nI n) nw pb lc)), ((r 3), .inl (cI, 81, .inl fco)), ((r 4), .inl (cI, 81, .inl fla)), ((r 5), .inl (cI, 81, .inl ffi)), ((r 6), .inl (cI, 81, .inl fki)), ((r 7), .inl (cI, 81, .inl fra)), ((r 8), .inl (cI, 81, .inl fkn)), ((r 9), .inl (cI, 81, .inl fls)), ((r 10), .inl (cI, 81, .inl fpa)), ((r 11), .inl (cI, 81, .inl fe)), ((r 12), .inl (cI, 648, .inl fa)), ((r 13), .inl (cI, 648, .inl fk))] sz) (va_Qi (fun rr _ => rr = mv_D_look_n a0 a1) (fun (u : Unit) t => ∃ (th9 : Int32), mr_W (dC, dI) [(cI, .int), (cR, .object "MeasureRows$Row"), (cL, .long), (cZ, .boolean)] (va_A [((r 0), .inr (3, mf_D r th (nI n) nw pb lc)), ((r 3), .inl (cI, 81, .inl fco)), ((r 4), .inl (cI, 81, .inl fla)), ((r 5), .inl (cI, 81, .inl ffi)), ((r 6), .inl (cI, 81, .inl fki)), ((r 7), .inl (cI, 81, .inl fra)), ((r 8), .inl (cI, 81, .inl fkn)), ((r 9), .inl (cI, 81, .inl fls)), ((r 10), .inl (cI, 81, .inl fpa)), ((r 11), .inl (cI, 81, .inl fe)), ((r 12), .inl (cI, 648, .inl fa)), ((r 13), .inl (cI, 648, .inl fk))] sz) [((r 0), .inr (3, mf_D r th9 (nI n) nw pb lc)), ((r 3), .inl (cI, 81, .inl fco)), ((r 4), .inl (cI, 81, .inl fla)), ((r 5), .inl (cI, 81, .inl ffi)), ((r 6), .inl (cI, 81, .inl fki)), ((r 7), .inl (cI, 81, .inl fra)), ((r 8), .inl (cI, 81, .inl fkn)), ((r 9), .inl (cI, 81, .inl fls)), ((r 10), .inl (cI, 81, .inl fpa)), ((r 11), .inl (cI, 81, .inl fe)), ((r 12), .inl (cI, 648, .inl fa)), ((r 13), .inl (cI, 648, .inl fk))] t ∧ th9 = (mN_D_look_n_th a0 a1)) (va_A [((r 0), .inr (3, mf_D r th (nI n) nw pb lc)), ((r 3), .inl (cI, 81, .inl fco)), ((r 4), .inl (cI, 81, .inl fla)), ((r 5), .inl (cI, 81, .inl ffi)), ((r 6), .inl (cI, 81, .inl fki)), ((r 7), .inl (cI, 81, .inl fra)), ((r 8), .inl (cI, 81, .inl fkn)), ((r 9), .inl (cI, 81, .inl fls)), ((r 10), .inl (cI, 81, .inl fpa)), ((r 11), .inl (cI, 81, .inl fe)), ((r 12), .inl (cI, 648, .inl fa)), ((r 13), .inl (cI, 648, .inl fk))] sz)) 0 0 (va_A [((r 0), .inr (3, mf_D r th (nI n) nw pb lc)), ((r 3), .inl (cI, 81, .inl fco)), ((r 4), .inl (cI, 81, .inl fla)), ((r 5), .inl (cI, 81, .inl ffi)), ((r 6), .inl (cI, 81, .inl fki)), ((r 7), .inl (cI, 81, .inl fra)), ((r 8), .inl (cI, 81, .inl fkn)), ((r 9), .inl (cI, 81, .inl fls)), ((r 10), .inl (cI, 81, .inl fpa)), ((r 11), .inl (cI, 81, .inl fe)), ((r 12), .inl (cI, 648, .inl fa)), ((r 13), .inl (cI, 648, .inl fk))] sz) := by
  refine Met.ofW (cc := b_D_look) (maxL := 3) (ret := (some .int)) (by decide) rfl ?_
  intro p e s m args below meth c s₁ B hml hv
  obtain ⟨rfl, hsz, hB, hK, hP, hD0⟩ := hv
  subst hsz
  have hA0 := mr_A hB hD0
  have hD := hD0.self (sz := s.heap.size)
  generalize hAe : va_A [((r 0), .inr (3, mf_D r th (nI n) nw pb lc)), ((r 3), .inl (cI, 81, .inl fco)), ((r 4), .inl (cI, 81, .inl fla)), ((r 5), .inl (cI, 81, .inl ffi)), ((r 6), .inl (cI, 81, .inl fki)), ((r 7), .inl (cI, 81, .inl fra)), ((r 8), .inl (cI, 81, .inl fkn)), ((r 9), .inl (cI, 81, .inl fls)), ((r 10), .inl (cI, 81, .inl fpa)), ((r 11), .inl (cI, 81, .inl fe)), ((r 12), .inl (cI, 648, .inl fa)), ((r 13), .inl (cI, 648, .inl fk))] s.heap.size = A at hD hA0 ⊢
  have hA : ∀ q : Nat, s.heap.size ≤ q → A q := fun q h => by rw [← hAe]; exact Or.inr h
  have hS : va_S A s.heap s.heap [] := va_S.rf
  have hP : va_P (dC, dI) mr_cl [((r 0), .inr (3, mf_D r th (nI n) nw pb lc)), ((r 3), .inl (cI, 81, .inl fco)), ((r 4), .inl (cI, 81, .inl fla)), ((r 5), .inl (cI, 81, .inl ffi)), ((r 6), .inl (cI, 81, .inl fki)), ((r 7), .inl (cI, 81, .inl fra)), ((r 8), .inl (cI, 81, .inl fkn)), ((r 9), .inl (cI, 81, .inl fls)), ((r 10), .inl (cI, 81, .inl fpa)), ((r 11), .inl (cI, 81, .inl fe)), ((r 12), .inl (cI, 648, .inl fa)), ((r 13), .inl (cI, 648, .inl fk))] s.heap := hP
  have hBH := hB.at hS hA0
  have hx := B.exec
  have hb := B.bytes
  have hr := B.returns
  have hlocks := B.notSynchronized
  have hts : ∀ w ∈ lw_tbl, w.before [.ref (r 0), .int a0, .int a1].toArray s = true := hB.hts _
  have hown : s.vm.findClass "MeasureRowsModel" = some m.cls := findClass_of_methodNamed B.named
  have hl := lv_entry ([.ref (r 0), .int a0, .int a1]) (n := 3) (Nat.le_of_ble_eq_true rfl)
  rw [lg_entry_eq]
  generalize (lg_sl ([.ref (r 0), .int a0, .int a1]) ++ List.replicate (3 - (lg_sl ([.ref (r 0), .int a0, .int a1])).length) Slot.unset).toArray = ls at hl ⊢
  have hl : lv_has ls 3 [(0, .ref (r 0)), (1, .int a0), (2, .int a1)] := hl
  refine lv_aload_n hx hb d_D_look_0 rfl (lv_at hl 0 rfl) ?_
  refine lv_iload_n hx hb d_D_look_1 rfl (lv_at hl 1 rfl) ?_
  refine vp_callSi (va_Run.run (va_runV (As := [.int a0]) (rest := []) (C := R_D) ⟨hx, hb, hml, hown, hts⟩ (mc_D_isRow l s0 dC dI cI cR cL cZ r th nw pb lc n a0) ⟨(mr_cB 1 (hts (Cond.code y_D_isRow b_D_isRow 2 (some .boolean)) mw_296) (hts (Cond.initialized y_D_isRow.cls) mw_297) (hts (Cond.methodLink "MeasureRowsModel" 104 y_D_isRow) mw_298) rfl rfl (by decide +kernel) ⟨Nat.le_of_ble_eq_true rfl, Nat.le_of_ble_eq_true rfl⟩), (hts (Cond.instanceMethod y_D_isRow) mw_299), (hts (Cond.selects "MeasureRowsModel" y_D_isRow y_D_isRow) mw_300)⟩ (mr_preV hBH hK (hP.sub (ws' := [((r 0), .inr (3, mf_D r th (nI n) nw pb lc))]) [0] rfl) (ci := 3) (q0 := 0) rfl rfl) rfl rfl hl.1 rfl (lv_room (Nat.le_of_ble_eq_true rfl)) d_D_look_2 ⟨Nat.le_of_ble_eq_true rfl, Nat.le_of_ble_eq_true rfl⟩)) (fun r_1 h_2 => ?_)
  subst h_2
  refine mr_top hno ?_
  refine lv_if_eq (tgt := 18) hx hb d_D_look_5 (by decide) (fun _ => ?_) (fun c_3 => absurd c_3 (by decide))
  refine lv_aload_n hx hb d_D_look_18 rfl (lv_at hl 0 rfl) ?_
  refine lv_iconst (v := 1) hx hb d_D_look_19 (by decide) ?_
  have hPc := hP.sub (ws' := [((r 0), .inr (3, mf_D r th (nI n) nw pb lc))]) [0] rfl
  have hDc := hD.sub (ws' := [((r 0), .inr (3, mf_D r th (nI n) nw pb lc))]) [0] (by decide) rfl
  have hFc := va_free (wc := [((r 0), .inr (3, mf_D r th (nI n) nw pb lc))]) hD hS hA [0] rfl
  refine va_calli (va_runV (As := [.int 1]) (rest := []) (C := R_D) ⟨hx, hb, hml, hown, hts⟩ (mc_D_fails l s0 dC dI cI cR cL cZ r th (nI n) nw pb lc _ 1) ⟨(mr_cB 1 (hts (Cond.code y_D_fails b_D_fails 2 (some .int)) mw_318) (hts (Cond.initialized y_D_fails.cls) mw_319) (hts (Cond.methodLink "MeasureRowsModel" 97 y_D_fails) mw_320) rfl rfl (by decide +kernel) ⟨Nat.le_of_ble_eq_true rfl, Nat.le_of_ble_eq_true rfl⟩), (hts (Cond.instanceMethod y_D_fails) mw_321), (hts (Cond.selects "MeasureRowsModel" y_D_fails y_D_fails) mw_322)⟩ (mr_preCV hBH hK hPc (hDc.weaken (fun _ _ _ h => hA0 _ h)) (ci := 3) (q0 := 0) rfl rfl) rfl rfl hl.1 rfl (lv_room (Nat.le_of_ble_eq_true rfl)) d_D_look_20 ⟨Nat.le_of_ble_eq_true rfl, Nat.le_of_ble_eq_true rfl⟩) hS (fun q _ h => hFc q h) hFc (fun r_4 u_5 t H1 locs ht hvm hw hB1 hz1 hk1 hS => ?_)
  obtain ⟨hP1, hK1, hD1⟩ := hB1
  rw [ht] at hP1
  obtain ⟨hP, hD⟩ := va_join (wr := [((r 3), .inl (cI, 81, .inl fco)), ((r 4), .inl (cI, 81, .inl fla)), ((r 5), .inl (cI, 81, .inl ffi)), ((r 6), .inl (cI, 81, .inl fki)), ((r 7), .inl (cI, 81, .inl fra)), ((r 8), .inl (cI, 81, .inl fkn)), ((r 9), .inl (cI, 81, .inl fls)), ((r 10), .inl (cI, 81, .inl fpa)), ((r 11), .inl (cI, 81, .inl fe)), ((r 12), .inl (cI, 648, .inl fa)), ((r 13), .inl (cI, 648, .inl fk))]) (w1 := [((r 0), .inr (3, mf_D r 1 (nI n) nw pb lc))]) hP hD [0] [1, 2, 3, 4, 5, 6, 7, 8, 9, 10, 11] rfl rfl (by decide) (by decide) hk1 hFc hP1 hD1
  clear hK1 hk1 hPc hDc hFc
  generalize H1 = H at hP hS ht ⊢
  have hP : va_P (dC, dI) mr_cl [((r 3), .inl (cI, 81, .inl fco)), ((r 4), .inl (cI, 81, .inl fla)), ((r 5), .inl (cI, 81, .inl ffi)), ((r 6), .inl (cI, 81, .inl fki)), ((r 7), .inl (cI, 81, .inl fra)), ((r 8), .inl (cI, 81, .inl fkn)), ((r 9), .inl (cI, 81, .inl fls)), ((r 10), .inl (cI, 81, .inl fpa)), ((r 11), .inl (cI, 81, .inl fe)), ((r 12), .inl (cI, 648, .inl fa)), ((r 13), .inl (cI, 648, .inl fk)), ((r 0), .inr (3, mf_D r 1 (nI n) nw pb lc))] H := hP
  have hD : va_D A [((r 3), .inl (cI, 81, .inl fco)), ((r 4), .inl (cI, 81, .inl fla)), ((r 5), .inl (cI, 81, .inl ffi)), ((r 6), .inl (cI, 81, .inl fki)), ((r 7), .inl (cI, 81, .inl fra)), ((r 8), .inl (cI, 81, .inl fkn)), ((r 9), .inl (cI, 81, .inl fls)), ((r 10), .inl (cI, 81, .inl fpa)), ((r 11), .inl (cI, 81, .inl fe)), ((r 12), .inl (cI, 648, .inl fa)), ((r 13), .inl (cI, 648, .inl fk)), ((r 0), .inr (3, mf_D r 1 (nI n) nw pb lc))] := hD
  have hBH := hB.at hS hA0
  obtain rfl : r_4 = 0 := hw
  have hP9 := hP.sub (ws' := [((r 0), .inr (3, mf_D r 1 (nI n) nw pb lc)), ((r 3), .inl (cI, 81, .inl fco)), ((r 4), .inl (cI, 81, .inl fla)), ((r 5), .inl (cI, 81, .inl ffi)), ((r 6), .inl (cI, 81, .inl fki)), ((r 7), .inl (cI, 81, .inl fra)), ((r 8), .inl (cI, 81, .inl fkn)), ((r 9), .inl (cI, 81, .inl fls)), ((r 10), .inl (cI, 81, .inl fpa)), ((r 11), .inl (cI, 81, .inl fe)), ((r 12), .inl (cI, 648, .inl fa)), ((r 13), .inl (cI, 648, .inl fk))]) [11, 0, 1, 2, 3, 4, 5, 6, 7, 8, 9, 10] rfl
  have hD9 := hD.sub (ws' := [((r 0), .inr (3, mf_D r 1 (nI n) nw pb lc)), ((r 3), .inl (cI, 81, .inl fco)), ((r 4), .inl (cI, 81, .inl fla)), ((r 5), .inl (cI, 81, .inl ffi)), ((r 6), .inl (cI, 81, .inl fki)), ((r 7), .inl (cI, 81, .inl fra)), ((r 8), .inl (cI, 81, .inl fkn)), ((r 9), .inl (cI, 81, .inl fls)), ((r 10), .inl (cI, 81, .inl fpa)), ((r 11), .inl (cI, 81, .inl fe)), ((r 12), .inl (cI, 648, .inl fa)), ((r 13), .inl (cI, 648, .inl fk))]) [11, 0, 1, 2, 3, 4, 5, 6, 7, 8, 9, 10] (by decide) rfl
  exact W.iret (v := 0) hx hb hr (fun t ht hW => ⟨⟨_, (), rfl, (rfl), 1, ⟨by rw [ht]; exact hP9, va_K.moved hW.alike hK, hD9⟩, (rfl)⟩, hS.F ht⟩) hS.2.2 d_D_look_23
