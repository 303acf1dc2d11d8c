
def mv_D_exclude_y (fls : Nat → Int32) (i : Nat) (a1 : Int32) : Int32 := if (mv_D_isLand a1) = 0 then 0 else if (((fls i) >>> (a1 &&& 31)) &&& 1) = 1 then 0 else if (mv_D_bits (fls i)) = 4 then 0 else 1
def mN_D_exclude_y_th (fls : Nat → Int32) (i : Nat) (a1 : Int32) : Int32 := if (mv_D_isLand a1) = 0 then 0 else if (((fls i) >>> (a1 &&& 31)) &&& 1) = 1 then 0 else if (mv_D_bits (fls i)) = 4 then 0 else 0
def mN_D_exclude_y_fls (fls : Nat → Int32) (i : Nat) (a1 : Int32) : Nat → Int32 := if (mv_D_isLand a1) = 0 then fls else if (((fls i) >>> (a1 &&& 31)) &&& 1) = 1 then fls else if (mv_D_bits (fls i)) = 4 then fls else (upd fls (nI i).toNatClampNeg ((fls i) ||| (1 <<< (a1 &&& 31))))
set_option maxHeartbeats 4000000 in
set_option maxRecDepth 100000 in
theorem mc_D_exclude_yX (l : Launch) (s0 : State) (dC : Nat → ClassId) (dI : Nat → Nat → Nat) (cI cR cL cZ : ClassId) (r : Nat → Nat) (th nw pb lc : Int32) (n : Nat) (fco fls fe : Nat → Int32) (i : Nat) (sz : Nat) (a1 : Int32) (hi1 : 1 ≤ i) (hin : i ≤ n) (hM : mr_MI n fe fco) : Met l y_D_exclude [Cond.code y_D_exclude b_D_exclude 3 (some .boolean)] ({ frames := 2, cells := 0, slots := 0, locals := 42 }) (mr_PC s0 (dC, dI) [(cI, .int), (cR, .object "MeasureRows$Row"), (cL, .long), (cZ, .boolean)] [.ref (r 0), .int (nI i), .int a1] [((r 0), .inr (3, mf_D r th (nI n) nw pb lc)), ((r 3), .inl (cI, 81, .inl fco)), ((r 9), .inl (cI, 81, .inl fls)), ((r 11), .inl (cI, 81, .inl fe))] sz) (va_Qi (fun rr _ => rr = mv_D_exclude_y fls i a1) (fun (u : Unit) t => ∃ (th9 : Int32) (fls9 : Nat → Int32), mr_W (dC, dI) [(cI, .int), (cR, .object "MeasureRows$Row"), (cL, .long), (cZ, .boolean)] (va_A [((r 0), .inr (3, mf_D r th (nI n) nw pb lc)), ((r 3), .inl (cI, 81, .inl fco)), ((r 9), .inl (cI, 81, .inl fls)), ((r 11), .inl (cI, 81, .inl fe))] sz) [((r 0), .inr (3, mf_D r th9 (nI n) nw pb lc)), ((r 3), .inl (cI, 81, .inl fco)), ((r 9), .inl (cI, 81, .inl fls9)), ((r 11), .inl (cI, 81, .inl fe))] t ∧ th9 = (mN_D_exclude_y_th fls i a1) ∧ fls9 = (mN_D_exclude_y_fls fls i a1)) (va_A [((r 0), .inr (3, mf_D r th (nI n) nw pb lc)), ((r 3), .inl (cI, 81, .inl fco)), ((r 9), .inl (cI, 81, .inl fls)), ((r 11), .inl (cI, 81, .inl fe))] sz)) 0 0 (va_A [((r 0), .inr (3, mf_D r th (nI n) nw pb lc)), ((r 3), .inl (cI, 81, .inl fco)), ((r 9), .inl (cI, 81, .inl fls)), ((r 11), .inl (cI, 81, .inl fe))] sz) := by
  refine Met.ofW (cc := b_D_exclude) (maxL := 3) (ret := (some .boolean)) (by decide) rfl ?_
  intro p e s m args below meth c s₁ B hml hv
  obtain ⟨rfl, hsz, hB, hK, hP, hD0⟩ := hv
  subst hsz
  have hA0 := mr_A hB hD0
  have hD := hD0.self (sz := s.heap.size)
  generalize hAe : va_A [((r 0), .inr (3, mf_D r th (nI n) nw pb lc)), ((r 3), .inl (cI, 81, .inl fco)), ((r 9), .inl (cI, 81, .inl fls)), ((r 11), .inl (cI, 81, .inl fe))] s.heap.size = A at hD hA0 ⊢
  have hA : ∀ q : Nat, s.heap.size ≤ q → A q := fun q h => by rw [← hAe]; exact Or.inr h
  have hS : va_S A s.heap s.heap [] := va_S.rf
  have hP : va_P (dC, dI) mr_cl [((r 0), .inr (3, mf_D r th (nI n) nw pb lc)), ((r 3), .inl (cI, 81, .inl fco)), ((r 9), .inl (cI, 81, .inl fls)), ((r 11), .inl (cI, 81, .inl fe))] s.heap := hP
  have hBH := hB.at hS hA0
  have hx := B.exec
  have hb := B.bytes
  have hr := B.returns
  have hlocks := B.notSynchronized
  have hts : ∀ w ∈ lw_tbl, w.before [.ref (r 0), .int (nI i), .int a1].toArray s = true := hB.hts _
  have hown : s.vm.findClass "MeasureRowsModel" = some m.cls := findClass_of_methodNamed B.named
  have hl := lv_entry ([.ref (r 0), .int (nI i), .int a1]) (n := 3) (Nat.le_of_ble_eq_true rfl)
  rw [lg_entry_eq]
  generalize (lg_sl ([.ref (r 0), .int (nI i), .int a1]) ++ List.replicate (3 - (lg_sl ([.ref (r 0), .int (nI i), .int a1])).length) Slot.unset).toArray = ls at hl ⊢
  have hl : lv_has ls 3 [(0, .ref (r 0)), (1, .int (nI i)), (2, .int a1)] := hl
  refine lv_aload_n hx hb d_D_exclude_0 rfl (lv_at hl 0 rfl) ?_
  refine lv_iconst (v := 0) hx hb d_D_exclude_1 (by decide) ?_
  refine va_put (D := (dC, dI)) (ci := 3) (v := .int 0) (ty := .int) (C := R_D) (T := T_D) (N := 19) hx hb hts ti_D t_D to_D tn_D hown hK hP hD hS 0 rfl rfl 0 (by decide) (hts (Cond.fieldLink "MeasureRowsModel" 53 "MeasureRowsModel" "thrown" "I") mw_295) (fun _ h9 => h9) rfl (by decide +kernel) rfl rfl (Nat.le_of_ble_eq_true rfl) d_D_exclude_2 (fun H locs hP hD hS => ?_)
  have hP : va_P (dC, dI) mr_cl [((r 0), .inr (3, mf_D r 0 (nI n) nw pb lc)), ((r 3), .inl (cI, 81, .inl fco)), ((r 9), .inl (cI, 81, .inl fls)), ((r 11), .inl (cI, 81, .inl fe))] H := hP
  have hD : va_D A [((r 0), .inr (3, mf_D r 0 (nI n) nw pb lc)), ((r 3), .inl (cI, 81, .inl fco)), ((r 9), .inl (cI, 81, .inl fls)), ((r 11), .inl (cI, 81, .inl fe))] := hD
  have hBH := hB.at hS hA0
  refine lv_aload_n hx hb d_D_exclude_5 rfl (lv_at hl 0 rfl) ?_
  refine lv_iload_n hx hb d_D_exclude_6 rfl (lv_at hl 1 rfl) ?_
  refine vp_callSi (va_Run.run (va_runV (As := [.int (nI i)]) (rest := []) (C := R_D) ⟨hx, hb, hml, hown, hts⟩ (mc_D_isRow l s0 dC dI cI cR cL cZ r 0 nw pb lc n (nI i)) ⟨(mr_cB 1 (hts (Cond.code y_D_isRow b_D_isRow 2 (some .boolean)) mw_296) (hts (Cond.initialized y_D_isRow.cls) mw_297) (hts (Cond.methodLink "MeasureRowsModel" 104 y_D_isRow) mw_298) rfl rfl (by decide +kernel) ⟨Nat.le_of_ble_eq_true rfl, Nat.le_of_ble_eq_true rfl⟩), (hts (Cond.instanceMethod y_D_isRow) mw_299), (hts (Cond.selects "MeasureRowsModel" y_D_isRow y_D_isRow) mw_300)⟩ (mr_preV hBH hK (hP.sub (ws' := [((r 0), .inr (3, mf_D r 0 (nI n) nw pb lc))]) [0] rfl) (ci := 3) (q0 := 0) rfl rfl) rfl rfl hl.1 rfl (lv_room (Nat.le_of_ble_eq_true rfl)) d_D_exclude_7 ⟨Nat.le_of_ble_eq_true rfl, Nat.le_of_ble_eq_true rfl⟩)) (fun r_1 h_2 => ?_)
  subst h_2
  refine mr_top (mv_isRow_y hi1 hin hM.1) ?_
  refine lv_if_eq (tgt := 47) hx hb d_D_exclude_10 (by decide) (fun c_3 => absurd c_3 (by decide)) (fun _ => ?_)
  refine lv_iload_n hx hb d_D_exclude_13 rfl (lv_at hl 2 rfl) ?_
  refine vp_callSi (va_Run.run (va_runS (As := [.int a1]) (rest := []) ⟨hx, hb, hml, hown, hts⟩ (mc_D_isLand l s0 a1) ⟨(mr_cB 1 (hts (Cond.code y_D_isLand b_D_isLand 1 (some .boolean)) mw_301) (hts (Cond.initialized y_D_isLand.cls) mw_302) (hts (Cond.methodLink "MeasureRowsModel" 71 y_D_isLand) mw_303) rfl rfl (by decide +kernel) ⟨Nat.le_of_ble_eq_true rfl, Nat.le_of_ble_eq_true rfl⟩), (hts (Cond.static y_D_isLand) mw_304)⟩ (mr_pre0 hBH) rfl rfl hl.1 rfl (lv_room (Nat.le_of_ble_eq_true rfl)) d_D_exclude_14 ⟨Nat.le_of_ble_eq_true rfl, Nat.le_of_ble_eq_true rfl⟩)) (fun r_4 h_5 => ?_)
  subst h_5
  refine lv_if_eq (tgt := 47) hx hb d_D_exclude_17 (by decide) (fun c_6 => ?_) (fun c_6 => ?_)
  · refine lv_iconst (v := 0) hx hb d_D_exclude_47 (by decide) ?_
    have hP9 := hP.sub (ws' := [((r 0), .inr (3, mf_D r 0 (nI n) nw pb lc)), ((r 3), .inl (cI, 81, .inl fco)), ((r 9), .inl (cI, 81, .inl fls)), ((r 11), .inl (cI, 81, .inl fe))]) [0, 1, 2, 3] rfl
    have hD9 := hD.sub (ws' := [((r 0), .inr (3, mf_D r 0 (nI n) nw pb lc)), ((r 3), .inl (cI, 81, .inl fco)), ((r 9), .inl (cI, 81, .inl fls)), ((r 11), .inl (cI, 81, .inl fe))]) [0, 1, 2, 3] (by decide) rfl
    exact W.zret (v := 0) hx hb hr (mr_narz mr_b0) (fun t ht hW => ⟨⟨_, (), rfl, (by unfold mv_D_exclude_y; rw [if_pos c_6]), 0, fls, ⟨by rw [ht]; exact hP9, va_K.moved hW.alike hK, hD9⟩, (by unfold mN_D_exclude_y_th; rw [if_pos c_6]), (by unfold mN_D_exclude_y_fls; rw [if_pos c_6])⟩, hS.F ht⟩) hS.2.2 d_D_exclude_48
  · refine lv_aload_n hx hb d_D_exclude_20 rfl (lv_at hl 0 rfl) ?_
    refine va_get (D := (dC, dI)) (ci := 3) (v := .ref (r 9)) (C := R_D) (T := T_D) (N := 19) hx hb hts ti_D hown hK hP 0 rfl rfl 9 (by decide) (hts (Cond.fieldLink "MeasureRowsModel" 31 "MeasureRowsModel" "lands" "[I") mw_284) (fun _ h9 => h9) rfl d_D_exclude_21 ?_
    refine lv_iload_n hx hb d_D_exclude_24 rfl (lv_at hl 1 rfl) ?_
    refine va_iald (D := (dC, dI)) hx hb hK hP 2 0 rfl rfl (i := nI i) (nI_in (by have := hM.1; omega) (by decide)) d_D_exclude_25 ?_
    refine mr_top (show fls (nI i).toNatClampNeg = fls i from mr_nc (by have := hM.1; omega)) ?_
    refine lv_iload_n hx hb d_D_exclude_26 rfl (lv_at hl 2 rfl) ?_
    refine lv_ishr hx hb d_D_exclude_27 ?_
    refine lv_iconst (v := 1) hx hb d_D_exclude_28 (by decide) ?_
    refine lv_iand hx hb d_D_exclude_29 ?_
    refine lv_iconst (v := 1) hx hb d_D_exclude_30 (by decide) ?_
    refine lv_icmp_eq (tgt := 47) hx hb d_D_exclude_31 (by decide) (fun c_7 => ?_) (fun c_7 => ?_)
    · refine lv_iconst (v := 0) hx hb d_D_exclude_47 (by decide) ?_
      have hP9 := hP.sub (ws' := [((r 0), .inr (3, mf_D r 0 (nI n) nw pb lc)), ((r 3), .inl (cI, 81, .inl fco)), ((r 9), .inl (cI, 81, .inl fls)), ((r 11), .inl (cI, 81, .inl fe))]) [0, 1, 2, 3] rfl
      have hD9 := hD.sub (ws' := [((r 0), .inr (3, mf_D r 0 (nI n) nw pb lc)), ((r 3), .inl (cI, 81, .inl fco)), ((r 9), .inl (cI, 81, .inl fls)), ((r 11), .inl (cI, 81, .inl fe))]) [0, 1, 2, 3] (by decide) rfl
      exact W.zret (v := 0) hx hb hr (mr_narz mr_b0) (fun t ht hW => ⟨⟨_, (), rfl, (by unfold mv_D_exclude_y; rw [if_neg c_6, if_pos c_7]), 0, fls, ⟨by rw [ht]; exact hP9, va_K.moved hW.alike hK, hD9⟩, (by unfold mN_D_exclude_y_th; rw [if_neg c_6, if_pos c_7]), (by unfold mN_D_exclude_y_fls; rw [if_neg c_6, if_pos c_7])⟩, hS.F ht⟩) hS.2.2 d_D_exclude_48
    · refine lv_aload_n hx hb d_D_exclude_34 rfl (lv_at hl 0 rfl) ?_
      refine va_get (D := (dC, dI)) (ci := 3) (v := .ref (r 9)) (C := R_D) (T := T_D) (N := 19) hx hb hts ti_D hown hK hP 0 rfl rfl 9 (by decide) (hts (Cond.fieldLink "MeasureRowsModel" 31 "MeasureRowsModel" "lands" "[I") mw_284) (fun _ h9 => h9) rfl d_D_exclude_35 ?_
      refine lv_iload_n hx hb d_D_exclude_38 rfl (lv_at hl 1 rfl) ?_
      refine va_iald (D := (dC, dI)) hx hb hK hP 2 0 rfl rfl (i := nI i) (nI_in (by have := hM.1; omega) (by decide)) d_D_exclude_39 ?_
      refine mr_top (show fls (nI i).toNatClampNeg = fls i from mr_nc (by have := hM.1; omega)) ?_
      refine vp_callSi (va_Run.run (va_runS (As := [.int (fls i)]) (rest := []) ⟨hx, hb, hml, hown, hts⟩ (mc_D_bits l s0 (fls i)) ⟨(mr_cB 1 (hts (Cond.code y_D_bits b_D_bits 3 (some .int)) mw_305) (hts (Cond.initialized y_D_bits.cls) mw_306) (hts (Cond.methodLink "MeasureRowsModel" 107 y_D_bits) mw_307) rfl rfl (by decide +kernel) ⟨Nat.le_of_ble_eq_true rfl, Nat.le_of_ble_eq_true rfl⟩), (hts (Cond.static y_D_bits) mw_308)⟩ (mr_pre0 hBH) rfl rfl hl.1 rfl (lv_room (Nat.le_of_ble_eq_true rfl)) d_D_exclude_40 ⟨Nat.le_of_ble_eq_true rfl, Nat.le_of_ble_eq_true rfl⟩)) (fun r_8 h_9 => ?_)
      subst h_9
      refine lv_iconst (v := 4) hx hb d_D_exclude_43 (by decide) ?_
      refine lv_icmp_ne (tgt := 49) hx hb d_D_exclude_44 (by decide) (fun c_10 => ?_) (fun c_10 => ?_)
      · refine lv_aload_n hx hb d_D_exclude_49 rfl (lv_at hl 0 rfl) ?_
        refine va_get (D := (dC, dI)) (ci := 3) (v := .ref (r 9)) (C := R_D) (T := T_D) (N := 19) hx hb hts ti_D hown hK hP 0 rfl rfl 9 (by decide) (hts (Cond.fieldLink "MeasureRowsModel" 31 "MeasureRowsModel" "lands" "[I") mw_284) (fun _ h9 => h9) rfl d_D_exclude_50 ?_
        refine lv_iload_n hx hb d_D_exclude_53 rfl (lv_at hl 1 rfl) ?_
        refine lv_dup2_11 hx hb d_D_exclude_54 rfl rfl ?_
        refine va_iald (D := (dC, dI)) hx hb hK hP 2 0 rfl rfl (i := nI i) (nI_in (by have := hM.1; omega) (by decide)) d_D_exclude_55 ?_
        refine mr_top (show fls (nI i).toNatClampNeg = fls i from mr_nc (by have := hM.1; omega)) ?_
        refine lv_iconst (v := 1) hx hb d_D_exclude_56 (by decide) ?_
        refine lv_iload_n hx hb d_D_exclude_57 rfl (lv_at hl 2 rfl) ?_
        refine lv_ishl hx hb d_D_exclude_58 ?_
        refine lv_ior hx hb d_D_exclude_59 ?_
        refine va_iast (D := (dC, dI)) hx hb hK hP hD hS 2 0 rfl rfl (i := nI i) (nI_in (by have := hM.1; omega) (by decide)) d_D_exclude_60 (fun H locs hP hD hS => ?_)
        have hP : va_P (dC, dI) mr_cl [((r 0), .inr (3, mf_D r 0 (nI n) nw pb lc)), ((r 3), .inl (cI, 81, .inl fco)), ((r 9), .inl (cI, 81, .inl (upd fls (nI i).toNatClampNeg ((fls i) ||| (1 <<< (a1 &&& 31)))))), ((r 11), .inl (cI, 81, .inl fe))] H := hP
        have hD : va_D A [((r 0), .inr (3, mf_D r 0 (nI n) nw pb lc)), ((r 3), .inl (cI, 81, .inl fco)), ((r 9), .inl (cI, 81, .inl (upd fls (nI i).toNatClampNeg ((fls i) ||| (1 <<< (a1 &&& 31)))))), ((r 11), .inl (cI, 81, .inl fe))] := hD
        have hBH := hB.at hS hA0
        refine lv_iconst (v := 1) hx hb d_D_exclude_61 (by decide) ?_
        have hP9 := hP.sub (ws' := [((r 0), .inr (3, mf_D r 0 (nI n) nw pb lc)), ((r 3), .inl (cI, 81, .inl fco)), ((r 9), .inl (cI, 81, .inl (upd fls (nI i).toNatClampNeg ((fls i) ||| (1 <<< (a1 &&& 31)))))), ((r 11), .inl (cI, 81, .inl fe))]) [0, 1, 2, 3] rfl
        have hD9 := hD.sub (ws' := [((r 0), .inr (3, mf_D r 0 (nI n) nw pb lc)), ((r 3), .inl (cI, 81, .inl fco)), ((r 9), .inl (cI, 81, .inl (upd fls (nI i).toNatClampNeg ((fls i) ||| (1 <<< (a1 &&& 31)))))), ((r 11), .inl (cI, 81, .inl fe))]) [0, 1, 2, 3] (by decide) rfl
        exact W.zret (v := 1) hx hb hr (mr_narz mr_b1) (fun t ht hW => ⟨⟨_, (), rfl, (by unfold mv_D_exclude_y; rw [if_neg c_6, if_neg c_7, if_neg c_10]), 0, (upd fls (nI i).toNatClampNeg ((fls i) ||| (1 <<< (a1 &&& 31)))), ⟨by rw [ht]; exact hP9, va_K.moved hW.alike hK, hD9⟩, (by unfold mN_D_exclude_y_th; rw [if_neg c_6, if_neg c_7, if_neg c_10]), (by unfold mN_D_exclude_y_fls; rw [if_neg c_6, if_neg c_7, if_neg c_10])⟩, hS.F ht⟩) hS.2.2 d_D_exclude_62
      · refine lv_iconst (v := 0) hx hb d_D_exclude_47 (by decide) ?_
        have hP9 := hP.sub (ws' := [((r 0), .inr (3, mf_D r 0 (nI n) nw pb lc)), ((r 3), .inl (cI, 81, .inl fco)), ((r 9), .inl (cI, 81, .inl fls)), ((r 11), .inl (cI, 81, .inl fe))]) [0, 1, 2, 3] rfl
        have hD9 := hD.sub (ws' := [((r 0), .inr (3, mf_D r 0 (nI n) nw pb lc)), ((r 3), .inl (cI, 81, .inl fco)), ((r 9), .inl (cI, 81, .inl fls)), ((r 11), .inl (cI, 81, .inl fe))]) [0, 1, 2, 3] (by decide) rfl
        exact W.zret (v := 0) hx hb hr (mr_narz mr_b0) (fun t ht hW => ⟨⟨_, (), rfl, (by unfold mv_D_exclude_y; rw [if_neg c_6, if_neg c_7, if_pos c_10]), 0, fls, ⟨by rw [ht]; exact hP9, va_K.moved hW.alike hK, hD9⟩, (by unfold mN_D_exclude_y_th; rw [if_neg c_6, if_neg c_7, if_pos c_10]), (by unfold mN_D_exclude_y_fls; rw [if_neg c_6, if_neg c_7, if_pos c_10])⟩, hS.F ht⟩) hS.2.2 d_D_exclude_48
def mv_D_exclude_n  (a0 : Int32) (a1 : Int32) : Int32 := 0
def mN_D_exclude_n_th  (a0 : Int32) (a1 : Int32) : Int32 := 0
set_option maxHeartbeats 4000000 in
set_option maxRecDepth 100000 in
theorem mc_D_exclude_nX (l : Launch) (s0 : State) (dC : Nat → ClassId) (dI : Nat → Nat → Nat) (cI cR cL cZ : ClassId) (r : Nat → Nat) (th nw pb lc : Int32) (n : Nat) (fco fls fe : Nat → Int32)  (sz : Nat) (a0 : Int32) (a1 : Int32) (hno : mv_D_isRow n a0 = 0) (hM : mr_MI n fe fco) : Met l y_D_exclude [Cond.code y_D_exclude b_D_exclude 3 (some .boolean)] ({ frames := 1, cells := 0, slots := 0, locals := 21 }) (mr_PC s0 (dC, dI) [(cI, .int), (cR, .object "MeasureRows$Row"), (cL, .long), (cZ, .boolean)] [.ref (r 0), .int a0, .int a1] [((r 0), .inr (3, mf_D r th (nI n) nw pb lc)), ((r 3), .inl (cI, 81, .inl fco)), ((r 9), .inl (cI, 81, .inl fls)), ((r 11), .inl (cI, 81, .inl fe))] sz) (va_Qi (fun rr _ => rr = mv_D_exclude_n a0 a1) (fun (u : Unit) t => ∃ (th9 : Int32), mr_W (dC, dI) [(cI, .int), (cR, .object "MeasureRows$Row"), (cL, .long), (cZ, .boolean)] (va_A [((r 0), .inr (3, mf_D r th (nI n) nw pb lc)), ((r 3), .inl (cI, 81, .inl fco)), ((r 9), .inl (cI, 81, .inl fls)), ((r 11), .inl (cI, 81, .inl fe))] sz) [((r 0), .inr (3, mf_D r th9 (nI n) nw pb lc)), ((r 3), .inl (cI, 81, .inl fco)), ((r 9), .inl (cI, 81, .inl fls)), ((r 11), .inl (cI, 81, .inl fe))] t ∧ th9 = (mN_D_exclude_n_th a0 a1)) (va_A [((r 0), .inr (3, mf_D r th (nI n) nw pb lc)), ((r 3), .inl (cI, 81, .inl fco)), ((r 9), .inl (cI, 81, .inl fls)), ((r 11), .inl (cI, 81, .inl fe))] sz)) 0 0 (va_A [((r 0), .inr (3, mf_D r th (nI n) nw pb lc)), ((r 3), .inl (cI, 81, .inl fco)), ((r 9), .inl (cI, 81, .inl fls)), ((r 11), .inl (cI, 81, .inl fe))] sz) := by
  refine Met.ofW (cc := b_D_exclude) (maxL := 3) (ret := (some .boolean)) (by decide) rfl ?_
  intro p e s m args below meth c s₁ B hml hv
  obtain ⟨rfl, hsz, hB, hK, hP, hD0⟩ := hv
  subst hsz
  have hA0 := mr_A hB hD0
  have hD := hD0.self (sz := s.heap.size)
  generalize hAe : va_A [((r 0), .inr (3, mf_D r th (nI n) nw pb lc)), ((r 3), .inl (cI, 81, .inl fco)), ((r 9), .inl (cI, 81, .inl fls)), ((r 11), .inl (cI, 81, .inl fe))] s.heap.size = A at hD hA0 ⊢
  have hA : ∀ q : Nat, s.heap.size ≤ q → A q := fun q h => by rw [← hAe]; exact Or.inr h
  have hS : va_S A s.heap s.heap [] := va_S.rf
  have hP : va_P (dC, dI) mr_cl [((r 0), .inr (3, mf_D r th (nI n) nw pb lc)), ((r 3), .inl (cI, 81, .inl fco)), ((r 9), .inl (cI, 81, .inl fls)), ((r 11), .inl (cI, 81, .inl fe))] s.heap := hP
  have hBH := hB.at hS hA0
  have hx := B.exec
  have hb := B.bytes
  have hr := B.returns
  have hlocks := B.notSynchronized
  have hts : ∀ w ∈ lw_tbl, w.before [.ref (r 0), .int a0, .int a1].toArray s = true := hB.hts _
  have hown : s.vm.findClass "MeasureRowsModel" = some m.cls := findClass_of_methodNamed B.named
  have hl := lv_entry ([.ref (r 0), .int a0, .int a1]) (n := 3) (Nat.le_of_ble_eq_true rfl)
  rw [lg_entry_eq]
  generalize (lg_sl ([.ref (r 0), .int a0, .int a1]) ++ List.replicate (3 - (lg_sl ([.ref (r 0), .int a0, .int a1])).length) Slot.unset).toArray = ls at hl ⊢
  have hl : lv_has ls 3 [(0, .ref (r 0)), (1, .int a0), (2, .int a1)] := hl
  refine lv_aload_n hx hb d_D_exclude_0 rfl (lv_at hl 0 rfl) ?_
  refine lv_iconst (v := 0) hx hb d_D_exclude_1 (by decide) ?_
  refine va_put (D := (dC, dI)) (ci := 3) (v := .int 0) (ty := .int) (C := R_D) (T := T_D) (N := 19) hx hb hts ti_D t_D to_D tn_D hown hK hP hD hS 0 rfl rfl 0 (by decide) (hts (Cond.fieldLink "MeasureRowsModel" 53 "MeasureRowsModel" "thrown" "I") mw_295) (fun _ h9 => h9) rfl (by decide +kernel) rfl rfl (Nat.le_of_ble_eq_true rfl) d_D_exclude_2 (fun H locs hP hD hS => ?_)
  have hP : va_P (dC, dI) mr_cl [((r 0), .inr (3, mf_D r 0 (nI n) nw pb lc)), ((r 3), .inl (cI, 81, .inl fco)), ((r 9), .inl (cI, 81, .inl fls)), ((r 11), .inl (cI, 81, .inl fe))] H := hP
  have hD : va_D A [((r 0), .inr (3, mf_D r 0 (nI n) nw pb lc)), ((r 3), .inl (cI, 81, .inl fco)), ((r 9), .inl (cI, 81, .inl fls)), ((r 11), .inl (cI, 81, .inl fe))] := hD
  have hBH := hB.at hS hA0
  refine lv_aload_n hx hb d_D_exclude_5 rfl (lv_at hl 0 rfl) ?_
  refine lv_iload_n hx hb d_D_exclude_6 rfl (lv_at hl 1 rfl) ?_
  refine vp_callSi (va_Run.run (va_runV (As := [.int a0]) (rest := []) (C := R_D) ⟨hx, hb, hml, hown, hts⟩ (mc_D_isRow l s0 dC dI cI cR cL cZ r 0 nw pb lc n a0) ⟨(mr_cB 1 (hts (Cond.code y_D_isRow b_D_isRow 2 (some .boolean)) mw_296) (hts (Cond.initialized y_D_isRow.cls) mw_297) (hts (Cond.methodLink "MeasureRowsModel" 104 y_D_isRow) mw_298) rfl rfl (by decide +kernel) ⟨Nat.le_of_ble_eq_true rfl, Nat.le_of_ble_eq_true rfl⟩), (hts (Cond.instanceMethod y_D_isRow) mw_299), (hts (Cond.selects "MeasureRowsModel" y_D_isRow y_D_isRow) mw_300)⟩ (mr_preV hBH hK (hP.sub (ws' := [((r 0), .inr (3, mf_D r 0 (nI n) nw pb lc))]) [0] rfl) (ci := 3) (q0 := 0) rfl rfl) rfl rfl hl.1 rfl (lv_room (Nat.le_of_ble_eq_true rfl)) d_D_exclude_7 ⟨Nat.le_of_ble_eq_true rfl, Nat.le_of_ble_eq_true rfl⟩)) (fun r_1 h_2 => ?_)
  subst h_2
  refine mr_top hno ?_
  refine lv_if_eq (tgt := 47) hx hb d_D_exclude_10 (by decide) (fun _ => ?_) (fun c_3 => absurd c_3 (by decide))
  refine lv_iconst (v := 0) hx hb d_D_exclude_47 (by decide) ?_
  have hP9 := hP.sub (ws' := [((r 0), .inr (3, mf_D r 0 (nI n) nw pb lc)), ((r 3), .inl (cI, 81, .inl fco)), ((r 9), .inl (cI, 81, .inl fls)), ((r 11), .inl (cI, 81, .inl fe))]) [0, 1, 2, 3] rfl
  have hD9 := hD.sub (ws' := [((r 0), .inr (3, mf_D r 0 (nI n) nw pb lc)), ((r 3), .inl (cI, 81, .inl fco)), ((r 9), .inl (cI, 81, .inl fls)), ((r 11), .inl (cI, 81, .inl fe))]) [0, 1, 2, 3] (by decide) rfl
  exact W.zret (v := 0) hx hb hr (mr_narz mr_b0) (fun t ht hW => ⟨⟨_, (), rfl, (rfl), 0, ⟨by rw [ht]; exact hP9, va_K.moved hW.alike hK, hD9⟩, (rfl)⟩, hS.F ht⟩) hS.2.2 d_D_exclude_48
def mv_D_condition_y (fpa : Nat → Int32) (i : Nat) (a1 : Int32) : Int32 := if (mv_D_in a1 0 15) = 0 then 0 else if (((fpa i) >>> (a1 &&& 31)) &&& 1) = 1 then 0 else if (mv_D_bits (fpa i)) = 4 then 0 else 1
def mN_D_condition_y_th (fpa : Nat → Int32) (i : Nat) (a1 : Int32) : Int32 := if (mv_D_in a1 0 15) = 0 then 0 else if (((fpa i) >>> (a1 &&& 31)) &&& 1) = 1 then 0 else if (mv_D_bits (fpa i)) = 4 then 0 else 0
def mN_D_condition_y_fpa (fpa : Nat → Int32) (i : Nat) (a1 : Int32) : Nat → Int32 := if (mv_D_in a1 0 15) = 0 then fpa else if (((fpa i) >>> (a1 &&& 31)) &&& 1) = 1 then fpa else if (mv_D_bits (fpa i)) = 4 then fpa else (upd fpa (nI i).toNatClampNeg ((fpa i) ||| (1 <<< (a1 &&& 31))))
set_option maxHeartbeats 4000000 in
set_option maxRecDepth 100000 in
theorem mc_D_condition_yX (l : Launch) (s0 : State) (dC : Nat → ClassId) (dI : Nat → Nat → Nat) (cI cR cL cZ : ClassId) (r : Nat → Nat) (th nw pb lc : Int32) (n : Nat) (fco fpa fe : Nat → Int32) (i : Nat) (sz : Nat) (a1 : Int32) (hi1 : 1 ≤ i) (hin : i ≤ n) (hM : mr_MI n fe fco) : Met l y_D_condition [Cond.code y_D_condition b_D_condition 3 (some .boolean)] ({ frames := 1, cells := 0, slots := 0, locals := 22 }) (mr_PC s0 (dC, dI) [(cI, .int), (cR, .object "MeasureRows$Row"), (cL, .long), (cZ, .boolean)] [.ref (r 0), .int (nI i), .int a1] [((r 0), .inr (3, mf_D r th (nI n) nw pb lc)), ((r 3), .inl (cI, 81, .inl fco)), ((r 10), .inl (cI, 81, .inl fpa)), ((r 11), .inl (cI, 81, .inl fe))] sz) (va_Qi (fun rr _ => rr = mv_D_condition_y fpa i a1) (fun (u : Unit) t => ∃ (th9 : Int32) (fpa9 : Nat → Int32), mr_W (dC, dI) [(cI, .int), (cR, .object "MeasureRows$Row"), (cL, .long), (cZ, .boolean)] (va_A [((r 0), .inr (3, mf_D r th (nI n) nw pb lc)), ((r 3), .inl (cI, 81, .inl fco)), ((r 10), .inl (cI, 81, .inl fpa)), ((r 11), .inl (cI, 81, .inl fe))] sz) [((r 0), .inr (3, mf_D r th9 (nI n) nw pb lc)), ((r 3), .inl (cI, 81, .inl fco)), ((r 10), .inl (cI, 81, .inl fpa9)), ((r 11), .inl (cI, 81, .inl fe))] t ∧ th9 = (mN_D_condition_y_th fpa i a1) ∧ fpa9 = (mN_D_condition_y_fpa fpa i a1)) (va_A [((r 0), .inr (3, mf_D r th (nI n) nw pb lc)), ((r 3), .inl (cI, 81, .inl fco)), ((r 10), .inl (cI, 81, .inl fpa)), ((r 11), .inl (cI, 81, .inl fe))] sz)) 0 0 (va_A [((r 0), .inr (3, mf_D r th (nI n) nw pb lc)), ((r 3), .inl (cI, 81, .inl fco)), ((r 10), .inl (cI, 81, .inl fpa)), ((r 11), .inl (cI, 81, .inl fe))] sz) := by
  refine Met.ofW (cc := b_D_condition) (maxL := 3) (ret := (some .boolean)) (by decide) rfl ?_
  intro p e s m args below meth c s₁ B hml hv
  obtain ⟨rfl, hsz, hB, hK, hP, hD0⟩ := hv
  subst hsz
  have hA0 := mr_A hB hD0
  have hD := hD0.self (sz := s.heap.size)
  generalize hAe : va_A [((r 0), .inr (3, mf_D r th (nI n) nw pb lc)), ((r 3), .inl (cI, 81, .inl fco)), ((r 10), .inl (cI, 81, .inl fpa)), ((r 11), .inl (cI, 81, .inl fe))] s.heap.size = A at hD hA0 ⊢
  have hA : ∀ q : Nat, s.heap.size ≤ q → A q := fun q h => by rw [← hAe]; exact Or.inr h
  have hS : va_S A s.heap s.heap [] := va_S.rf
  have hP : va_P (dC, dI) mr_cl [((r 0), .inr (3, mf_D r th (nI n) nw pb lc)), ((r 3), .inl (cI, 81, .inl fco)), ((r 10), .inl (cI, 81, .inl fpa)), ((r 11), .inl (cI, 81, .inl fe))] s.heap := hP
  have hBH := hB.at hS hA0
  have hx := B.exec
  have hb := B.bytes
  have hr := B.returns
  have hlocks := B.notSynchronized
  have hts : ∀ w ∈ lw_tbl, w.before [.ref (r 0), .int (nI i), .int a1].toArray s = true := hB.hts _
  have hown : s.vm.findClass "MeasureRowsModel" = some m.cls := findClass_of_methodNamed B.named
  have hl := lv_entry ([.ref (r 0), .int (nI i), .int a1]) (n := 3) (Nat.le_of_ble_eq_true rfl)
  rw [lg_entry_eq]
  generalize (lg_sl ([.ref (r 0), .int (nI i), .int a1]) ++ List.replicate (3 - (lg_sl ([.ref (r 0), .int (nI i), .int a1])).length) Slot.unset).toArray = ls at hl ⊢
  have hl : lv_has ls 3 [(0, .ref (r 0)), (1, .int (nI i)), (2, .int a1)] := hl
  refine lv_aload_n hx hb d_D_condition_0 rfl (lv_at hl 0 rfl) ?_
  refine lv_iconst (v := 0) hx hb d_D_condition_1 (by decide) ?_
  refine va_put (D := (dC, dI)) (ci := 3) (v := .int 0) (ty := .int) (C := R_D) (T := T_D) (N := 19) hx hb hts ti_D t_D to_D tn_D hown hK hP hD hS 0 rfl rfl 0 (by decide) (hts (Cond.fieldLink "MeasureRowsModel" 53 "MeasureRowsModel" "thrown" "I") mw_295) (fun _ h9 => h9) rfl (by decide +kernel) rfl rfl (Nat.le_of_ble_eq_true rfl) d_D_condition_2 (fun H locs hP hD hS => ?_)
  have hP : va_P (dC, dI) mr_cl [((r 0), .inr (3, mf_D r 0 (nI n) nw pb lc)), ((r 3), .inl (cI, 81, .inl fco)), ((r 10), .inl (cI, 81, .inl fpa)), ((r 11), .inl (cI, 81, .inl fe))] H := hP
  have hD : va_D A [((r 0), .inr (3, mf_D r 0 (nI n) nw pb lc)), ((r 3), .inl (cI, 81, .inl fco)), ((r 10), .inl (cI, 81, .inl fpa)), ((r 11), .inl (cI, 81, .inl fe))] := hD
  have hBH := hB.at hS hA0
  refine lv_aload_n hx hb d_D_condition_5 rfl (lv_at hl 0 rfl) ?_
  refine lv_iload_n hx hb d_D_condition_6 rfl (lv_at hl 1 rfl) ?_
  refine vp_callSi (va_Run.run (va_runV (As := [.int (nI i)]) (rest := []) (C := R_D) ⟨hx, hb, hml, hown, hts⟩ (mc_D_isRow l s0 dC dI cI cR cL cZ r 0 nw pb lc n (nI i)) ⟨(mr_cB 1 (hts (Cond.code y_D_isRow b_D_isRow 2 (some .boolean)) mw_296) (hts (Cond.initialized y_D_isRow.cls) mw_297) (hts (Cond.methodLink "MeasureRowsModel" 104 y_D_isRow) mw_298) rfl rfl (by decide +kernel) ⟨Nat.le_of_ble_eq_true rfl, Nat.le_of_ble_eq_true rfl⟩), (hts (Cond.instanceMethod y_D_isRow) mw_299), (hts (Cond.selects "MeasureRowsModel" y_D_isRow y_D_isRow) mw_300)⟩ (mr_preV hBH hK (hP.sub (ws' := [((r 0), .inr (3, mf_D r 0 (nI n) nw pb lc))]) [0] rfl) (ci := 3) (q0 := 0) rfl rfl) rfl rfl hl.1 rfl (lv_room (Nat.le_of_ble_eq_true rfl)) d_D_condition_7 ⟨Nat.le_of_ble_eq_true rfl, Nat.le_of_ble_eq_true rfl⟩)) (fun r_1 h_2 => ?_)
  subst h_2
  refine mr_top (mv_isRow_y hi1 hin hM.1) ?_
  refine lv_if_eq (tgt := 50) hx hb d_D_condition_10 (by decide) (fun c_3 => absurd c_3 (by decide)) (fun _ => ?_)
  refine lv_iload_n hx hb d_D_condition_13 rfl (lv_at hl 2 rfl) ?_
  refine lv_iconst (v := 0) hx hb d_D_condition_14 (by decide) ?_
  refine lv_bipush (v := 15) hx hb d_D_condition_15 (by decide) ?_
  refine vp_callSi (va_Run.run (va_runS (As := [.int a1, .int 0, .int 15]) (rest := []) ⟨hx, hb, hml, hown, hts⟩ (mc_D_in l s0 a1 0 15) ⟨(mr_cB 3 (hts (Cond.code y_D_in b_D_in 3 (some .boolean)) mw_15) (hts (Cond.initialized y_D_in.cls) mw_16) (hts (Cond.methodLink "MeasureRowsModel" 57 y_D_in) mw_17) rfl rfl (by decide +kernel) ⟨Nat.le_of_ble_eq_true rfl, Nat.le_of_ble_eq_true rfl⟩), (hts (Cond.static y_D_in) mw_18)⟩ (mr_pre0 hBH) rfl rfl hl.1 rfl (lv_room (Nat.le_of_ble_eq_true rfl)) d_D_condition_17 ⟨Nat.le_of_ble_eq_true rfl, Nat.le_of_ble_eq_true rfl⟩)) (fun r_4 h_5 => ?_)
  subst h_5
  refine lv_if_eq (tgt := 50) hx hb d_D_condition_20 (by decide) (fun c_6 => ?_) (fun c_6 => ?_)
  · refine lv_iconst (v := 0) hx hb d_D_condition_50 (by decide) ?_
    have hP9 := hP.sub (ws' := [((r 0), .inr (3, mf_D r 0 (nI n) nw pb lc)), ((r 3), .inl (cI, 81, .inl fco)), ((r 10), .inl (cI, 81, .inl fpa)), ((r 11), .inl (cI, 81, .inl fe))]) [0, 1, 2, 3] rfl
    have hD9 := hD.sub (ws' := [((r 0), .inr (3, mf_D r 0 (nI n) nw pb lc)), ((r 3), .inl (cI, 81, .inl fco)), ((r 10), .inl (cI, 81, .inl fpa)), ((r 11), .inl (cI, 81, .inl fe))]) [0, 1, 2, 3] (by decide) rfl
    exact W.zret (v := 0) hx hb hr (mr_narz mr_b0) (fun t ht hW => ⟨⟨_, (), rfl, (by unfold mv_D_condition_y; rw [if_pos c_6]), 0, fpa, ⟨by rw [ht]; exact hP9, va_K.moved hW.alike hK, hD9⟩, (by unfold mN_D_condition_y_th; rw [if_pos c_6]), (by unfold mN_D_condition_y_fpa; rw [if_pos c_6])⟩, hS.F ht⟩) hS.2.2 d_D_condition_51
  · refine lv_aload_n hx hb d_D_condition_23 rfl (lv_at hl 0 rfl) ?_
    refine va_get (D := (dC, dI)) (ci := 3) (v := .ref (r 10)) (C := R_D) (T := T_D) (N := 19) hx hb hts ti_D hown hK hP 0 rfl rfl 10 (by decide) (hts (Cond.fieldLink "MeasureRowsModel" 34 "MeasureRowsModel" "papers" "[I") mw_309) (fun _ h9 => h9) rfl d_D_condition_24 ?_
    refine lv_iload_n hx hb d_D_condition_27 rfl (lv_at hl 1 rfl) ?_
    refine va_iald (D := (dC, dI)) hx hb hK hP 2 0 rfl rfl (i := nI i) (nI_in (by have := hM.1; omega) (by decide)) d_D_condition_28 ?_
    refine mr_top (show fpa (nI i).toNatClampNeg = fpa i from mr_nc (by have := hM.1; omega)) ?_
    refine lv_iload_n hx hb d_D_condition_29 rfl (lv_at hl 2 rfl) ?_
    refine lv_ishr hx hb d_D_condition_30 ?_
    refine lv_iconst (v := 1) hx hb d_D_condition_31 (by decide) ?_
    refine lv_iand hx hb d_D_condition_32 ?_
    refine lv_iconst (v := 1) hx hb d_D_condition_33 (by decide) ?_
    refine lv_icmp_eq (tgt := 50) hx hb d_D_condition_34 (by decide) (fun c_7 => ?_) (fun c_7 => ?_)
    · refine lv_iconst (v := 0) hx hb d_D_condition_50 (by decide) ?_
      have hP9 := hP.sub (ws' := [((r 0), .inr (3, mf_D r 0 (nI n) nw pb lc)), ((r 3), .inl (cI, 81, .inl fco)), ((r 10), .inl (cI, 81, .inl fpa)), ((r 11), .inl (cI, 81, .inl fe))]) [0, 1, 2, 3] rfl
      have hD9 := hD.sub (ws' := [((r 0), .inr (3, mf_D r 0 (nI n) nw pb lc)), ((r 3), .inl (cI, 81, .inl fco)), ((r 10), .inl (cI, 81, .inl fpa)), ((r 11), .inl (cI, 81, .inl fe))]) [0, 1, 2, 3] (by decide) rfl
      exact W.zret (v := 0) hx hb hr (mr_narz mr_b0) (fun t ht hW => ⟨⟨_, (), rfl, (by unfold mv_D_condition_y; rw [if_neg c_6, if_pos c_7]), 0, fpa, ⟨by rw [ht]; exact hP9, va_K.moved hW.alike hK, hD9⟩, (by unfold mN_D_condition_y_th; rw [if_neg c_6, if_pos c_7]), (by unfold mN_D_condition_y_fpa; rw [if_neg c_6, if_pos c_7])⟩, hS.F ht⟩) hS.2.2 d_D_condition_51
    · refine lv_aload_n hx hb d_D_condition_37 rfl (lv_at hl 0 rfl) ?_
      refine va_get (D := (dC, dI)) (ci := 3) (v := .ref (r 10)) (C := R_D) (T := T_D) (N := 19) hx hb hts ti_D hown hK hP 0 rfl rfl 10 (by decide) (hts (Cond.fieldLink "MeasureRowsModel" 34 "MeasureRowsModel" "papers" "[I") mw_309) (fun _ h9 => h9) rfl d_D_condition_38 ?_
      refine lv_iload_n hx hb d_D_condition_41 rfl (lv_at hl 1 rfl) ?_
      refine va_iald (D := (dC, dI)) hx hb hK hP 2 0 rfl rfl (i := nI i) (nI_in (by have := hM.1; omega) (by decide)) d_D_condition_42 ?_
      refine mr_top (show fpa (nI i).toNatClampNeg = fpa i from mr_nc (by have := hM.1; omega)) ?_
      refine vp_callSi (va_Run.run (va_runS (As := [.int (fpa i)]) (rest := []) ⟨hx, hb, hml, hown, hts⟩ (mc_D_bits l s0 (fpa i)) ⟨(mr_cB 1 (hts (Cond.code y_D_bits b_D_bits 3 (some .int)) mw_305) (hts (Cond.initialized y_D_bits.cls) mw_306) (hts (Cond.methodLink "MeasureRowsModel" 107 y_D_bits) mw_307) rfl rfl (by decide +kernel) ⟨Nat.le_of_ble_eq_true rfl, Nat.le_of_ble_eq_true rfl⟩), (hts (Cond.static y_D_bits) mw_308)⟩ (mr_pre0 hBH) rfl rfl hl.1 rfl (lv_room (Nat.le_of_ble_eq_true rfl)) d_D_condition_43 ⟨Nat.le_of_ble_eq_true rfl, Nat.le_of_ble_eq_true rfl⟩)) (fun r_8 h_9 => ?_)
      subst h_9
      refine lv_iconst (v := 4) hx hb d_D_condition_46 (by decide) ?_
      refine lv_icmp_ne (tgt := 52) hx hb d_D_condition_47 (by decide) (fun c_10 => ?_) (fun c_10 => ?_)
      · refine lv_aload_n hx hb d_D_condition_52 rfl (lv_at hl 0 rfl) ?_
        refine va_get (D := (dC, dI)) (ci := 3) (v := .ref (r 10)) (C := R_D) (T := T_D) (N := 19) hx hb hts ti_D hown hK hP 0 rfl rfl 10 (by decide) (hts (Cond.fieldLink "MeasureRowsModel" 34 "MeasureRowsModel" "papers" "[I") mw_309) (fun _ h9 => h9) rfl d_D_condition_53 ?_
        refine lv_iload_n hx hb d_D_condition_56 rfl (lv_at hl 1 rfl) ?_
        refine lv_dup2_11 hx hb d_D_condition_57 rfl rfl ?_
        refine va_iald (D := (dC, dI)) hx hb hK hP 2 0 rfl rfl (i := nI i) (nI_in (by have := hM.1; omega) (by decide)) d_D_condition_58 ?_
        refine mr_top (show fpa (nI i).toNatClampNeg = fpa i from mr_nc (by have := hM.1; omega)) ?_
        refine lv_iconst (v := 1) hx hb d_D_condition_59 (by decide) ?_
        refine lv_iload_n hx hb d_D_condition_60 rfl (lv_at hl 2 rfl) ?_
        refine lv_ishl hx hb d_D_condition_61 ?_
        refine lv_ior hx hb d_D_condition_62 ?_
        refine va_iast (D := (dC, dI)) hx hb hK hP hD hS 2 0 rfl rfl (i := nI i) (nI_in (by have := hM.1; omega) (by decide)) d_D_condition_63 (fun H locs hP hD hS => ?_)
        have hP : va_P (dC, dI) mr_cl [((r 0), .inr (3, mf_D r 0 (nI n) nw pb lc)), ((r 3), .inl (cI, 81, .inl fco)), ((r 10), .inl (cI, 81, .inl (upd fpa (nI i).toNatClampNeg ((fpa i) ||| (1 <<< (a1 &&& 31)))))), ((r 11), .inl (cI, 81, .inl fe))] H := hP
        have hD : va_D A [((r 0), .inr (3, mf_D r 0 (nI n) nw pb lc)), ((r 3), .inl (cI, 81, .inl fco)), ((r 10), .inl (cI, 81, .inl (upd fpa (nI i).toNatClampNeg ((fpa i) ||| (1 <<< (a1 &&& 31)))))), ((r 11), .inl (cI, 81, .inl fe))] := hD
        have hBH := hB.at hS hA0
        refine lv_iconst (v := 1) hx hb d_D_condition_64 (by decide) ?_
        have hP9 := hP.sub (ws' := [((r 0), .inr (3, mf_D r 0 (nI n) nw pb lc)), ((r 3), .inl (cI, 81, .inl fco)), ((r 10), .inl (cI, 81, .inl (upd fpa (nI i).toNatClampNeg ((fpa i) ||| (1 <<< (a1 &&& 31)))))), ((r 11), .inl (cI, 81, .inl fe))]) [0, 1, 2, 3] rfl
        have hD9 := hD.sub (ws' := [((r 0), .inr (3, mf_D r 0 (nI n) nw pb lc)), ((r 3), .inl (cI, 81, .inl fco)), ((r 10), .inl (cI, 81, .inl (upd fpa (nI i).toNatClampNeg ((fpa i) ||| (1 <<< (a1 &&& 31)))))), ((r 11), .inl (cI, 81, .inl fe))]) [0, 1, 2, 3] (by decide) rfl
        exact W.zret (v := 1) hx hb hr (mr_narz mr_b1) (fun t ht hW => ⟨⟨_, (), rfl, (by unfold mv_D_condition_y; rw [if_neg c_6, if_neg c_7, if_neg c_10]), 0, (upd fpa (nI i).toNatClampNeg ((fpa i) ||| (1 <<< (a1 &&& 31)))), ⟨by rw [ht]; exact hP9, va_K.moved hW.alike hK, hD9⟩, (by unfold mN_D_condition_y_th; rw [if_neg c_6, if_neg c_7, if_neg c_10]), (by unfold mN_D_condition_y_fpa; rw [if_neg c_6, if_neg c_7, if_neg c_10])⟩, hS.F ht⟩) hS.2.2 d_D_condition_65
      · refine lv_iconst (v := 0) hx hb d_D_condition_50 (by decide) ?_
        have hP9 := hP.sub (ws' := [((r 0), .inr (3, mf_D r 0 (nI n) nw pb lc)), ((r 3), .inl (cI, 81, .inl fco)), ((r 10), .inl (cI, 81, .inl fpa)), ((r 11), .inl (cI, 81, .inl fe))]) [0, 1, 2, 3] rfl
        have hD9 := hD.sub (ws' := [((r 0), .inr (3, mf_D r 0 (nI n) nw pb lc)), ((r 3), .inl (cI, 81, .inl fco)), ((r 10), .inl (cI, 81, .inl fpa)), ((r 11), .inl (cI, 81, .inl fe))]) [0, 1, 2, 3] (by decide) rfl
        exact W.zret (v := 0) hx hb hr (mr_narz mr_b0) (fun t ht hW => ⟨⟨_, (), rfl, (by unfold mv_D_condition_y; rw [if_neg c_6, if_neg c_7, if_pos c_10]), 0, fpa, ⟨by rw [ht]; exact hP9, va_K.moved hW.alike hK, hD9⟩, (by unfold mN_D_condition_y_th; rw [if_neg c_6, if_neg c_7, if_pos c_10]), (by unfold mN_D_condition_y_fpa; rw [if_neg c_6, if_neg c_7, if_pos c_10])⟩, hS.F ht⟩) hS.2.2 d_D_condition_51
def mv_D_condition_n  (a0 : Int32) (a1 : Int32) : Int32 := 0
def mN_D_condition_n_th  (a0 : Int32) (a1 : Int32) : Int32 := 0
set_option maxHeartbeats 4000000 in
set_option maxRecDepth 100000 in
theorem mc_D_condition_nX (l : Launch) (s0 : State) (dC : Nat → ClassId) (dI : Nat → Nat → Nat) (cI cR cL cZ : ClassId) (r : Nat → Nat) (th nw pb lc : Int32) (n : Nat) (fco fpa fe : Nat → Int32)  (sz : Nat) (a0 : Int32) (a1 : Int32) (hno : mv_D_isRow n a0 = 0) (hM : mr_MI n fe fco) : Met l y_D_condition [Cond.code y_D_condition b_D_condition 3 (some .boolean)] ({ frames := 1, cells := 0, slots := 0, locals := 21 }) (mr_PC s0 (dC, dI) [(cI, .int), (cR, .object "MeasureRows$Row"), (cL, .long), (cZ, .boolean)] [.ref (r 0), .int a0, .int a1] [((r 0), .inr (3, mf_D r th (nI n) nw pb lc)), ((r 3), .inl (cI, 81, .inl fco)), ((r 10), .inl (cI, 81, .inl fpa)), ((r 11), .inl (cI, 81, .inl fe))] sz) (va_Qi (fun rr _ => rr = mv_D_condition_n a0 a1) (fun (u : Unit) t => ∃ (th9 : Int32), mr_W (dC, dI) [(cI, .int), (cR, .object "MeasureRows$Row"), (cL, .long), (cZ, .boolean)] (va_A [((r 0), .inr (3, mf_D r th (nI n) nw pb lc)), ((r 3), .inl (cI, 81, .inl fco)), ((r 10), .inl (cI, 81, .inl fpa)), ((r 11), .inl (cI, 81, .inl fe))] sz) [((r 0), .inr (3, mf_D r th9 (nI n) nw pb lc)), ((r 3), .inl (cI, 81, .inl fco)), ((r 10), .inl (cI, 81, .inl fpa)), ((r 11), .inl (cI, 81, .inl fe))] t ∧ th9 = (mN_D_condition_n_th a0 a1)) (va_A [((r 0), .inr (3, mf_D r th (nI n) nw pb lc)), ((r 3), .inl (cI, 81, .inl fco)), ((r 10), .inl (cI, 81, .inl fpa)), ((r 11), .inl (cI, 81, .inl fe))] sz)) 0 0 (va_A [((r 0), .inr (3, mf_D r th (nI n) nw pb lc)), ((r 3), .inl (cI, 81, .inl fco)), ((r 10), .inl (cI, 81, .inl fpa)), ((r 11), .inl (cI, 81, .inl fe))] sz) := by
  refine Met.ofW (cc := b_D_condition) (maxL := 3) (ret := (some .boolean)) (by decide) rfl ?_
  intro p e s m args below meth c s₁ B hml hv
  obtain ⟨rfl, hsz, hB, hK, hP, hD0⟩ := hv
  subst hsz
  have hA0 := mr_A hB hD0
  have hD := hD0.self (sz := s.heap.size)
  generalize hAe : va_A [((r 0), .inr (3, mf_D r th (nI n) nw pb lc)), ((r 3), .inl (cI, 81, .inl fco)), ((r 10), .inl (cI, 81, .inl fpa)), ((r 11), .inl (cI, 81, .inl fe))] s.heap.size = A at hD hA0 ⊢
  have hA : ∀ q : Nat, s.heap.size ≤ q → A q := fun q h => by rw [← hAe]; exact Or.inr h
  have hS : va_S A s.heap s.heap [] := va_S.rf
  have hP : va_P (dC, dI) mr_cl [((r 0), .inr (3, mf_D r th (nI n) nw pb lc)), ((r 3), .inl (cI, 81, .inl fco)), ((r 10), .inl (cI, 81, .inl fpa)), ((r 11), .inl (cI, 81, .inl fe))] s.heap := hP
  have hBH := hB.at hS hA0
  have hx := B.exec
  have hb := B.bytes
  have hr := B.returns
  have hlocks := B.notSynchronized
  have hts : ∀ w ∈ lw_tbl, w.before [.ref (r 0), .int a0, .int a1].toArray s = true := hB.hts _
  have hown : s.vm.findClass "MeasureRowsModel" = some m.cls := findClass_of_methodNamed B.named
  have hl := lv_entry ([.ref (r 0), .int a0, .int a1]) (n := 3) (Nat.le_of_ble_eq_true rfl)
  rw [lg_entry_eq]
  generalize (lg_sl ([.ref (r 0), .int a0, .int a1]) ++ List.replicate (3 - (lg_sl ([.ref (r 0), .int a0, .int a1])).length) Slot.unset).toArray = ls at hl ⊢
  have hl : lv_has ls 3 [(0, .ref (r 0)), (1, .int a0), (2, .int a1)] := hl
  refine lv_aload_n hx hb d_D_condition_0 rfl (lv_at hl 0 rfl) ?_
  refine lv_iconst (v := 0) hx hb d_D_condition_1 (by decide) ?_
  refine va_put (D := (dC, dI)) (ci := 3) (v := .int 0) (ty := .int) (C := R_D) (T := T_D) (N := 19) hx hb hts ti_D t_D to_D tn_D hown hK hP hD hS 0 rfl rfl 0 (by decide) (hts (Cond.fieldLink "MeasureRowsModel" 53 "MeasureRowsModel" "thrown" "I") mw_295) (fun _ h9 => h9) rfl (by decide +kernel) rfl rfl (Nat.le_of_ble_eq_true rfl) d_D_condition_2 (fun H locs hP hD hS => ?_)
  have hP : va_P (dC, dI) mr_cl [((r 0), .inr (3, mf_D r 0 (nI n) nw pb lc)), ((r 3), .inl (cI, 81, .inl fco)), ((r 10), .inl (cI, 81, .inl fpa)), ((r 11), .inl (cI, 81, .inl fe))] H := hP
  have hD : va_D A [((r 0), .inr (3, mf_D r 0 (nI n) nw pb lc)), ((r 3), .inl (cI, 81, .inl fco)), ((r 10), .inl (cI, 81, .inl fpa)), ((r 11), .inl (cI, 81, .inl fe))] := hD
  have hBH := hB.at hS hA0
  refine lv_aload_n hx hb d_D_condition_5 rfl (lv_at hl 0 rfl) ?_
  refine lv_iload_n hx hb d_D_condition_6 rfl (lv_at hl 1 rfl) ?_
  refine vp_callSi (va_Run.run (va_runV (As := [.int a0]) (rest := []) (C := R_D) ⟨hx, hb, hml, hown, hts⟩ (mc_D_isRow l s0 dC dI cI cR cL cZ r 0 nw pb lc n a0) ⟨(mr_cB 1 (hts (Cond.code y_D_isRow b_D_isRow 2 (some .boolean)) mw_296) (hts (Cond.initialized y_D_isRow.cls) mw_297) (hts (Cond.methodLink "MeasureRowsModel" 104 y_D_isRow) mw_298) rfl rfl (by decide +kernel) ⟨Nat.le_of_ble_eq_true rfl, Nat.le_of_ble_eq_true rfl⟩), (hts (Cond.instanceMethod y_D_isRow) mw_299), (hts (Cond.selects "MeasureRowsModel" y_D_isRow y_D_isRow) mw_300)⟩ (mr_preV hBH hK (hP.sub (ws' := [((r 0), .inr (3, mf_D r 0 (nI n) nw pb lc))]) [0] rfl) (ci := 3) (q0 := 0) rfl rfl) rfl rfl hl.1 rfl (lv_room (Nat.le_of_ble_eq_true rfl)) d_D_condition_7 ⟨Nat.le_of_ble_eq_true rfl, Nat.le_of_ble_eq_true rfl⟩)) (fun r_1 h_2 => ?_)
  subst h_2
  refine mr_top hno ?_
  refine lv_if_eq (tgt := 50) hx hb d_D_condition_10 (by decide) (fun _ => ?_) (fun c_3 => absurd c_3 (by decide))
  refine lv_iconst (v := 0) hx hb d_D_condition_50 (by decide) ?_
  have hP9 := hP.sub (ws' := [((r 0), .inr (3, mf_D r 0 (nI n) nw pb lc)), ((r 3), .inl (cI, 81, .inl fco)), ((r 10), .inl (cI, 81, .inl fpa)), ((r 11), .inl (cI, 81, .inl fe))]) [0, 1, 2, 3] rfl
  have hD9 := hD.sub (ws' := [((r 0), .inr (3, mf_D r 0 (nI n) nw pb lc)), ((r 3), .inl (cI, 81, .inl fco)), ((r 10), .inl (cI, 81, .inl fpa)), ((r 11), .inl (cI, 81, .inl fe))]) [0, 1, 2, 3] (by decide) rfl
  exact W.zret (v := 0) hx hb hr (mr_narz mr_b0) (fun t ht hW => ⟨⟨_, (), rfl, (rfl), 0, ⟨by rw [ht]; exact hP9, va_K.moved hW.alike hK, hD9⟩, (rfl)⟩, hS.F ht⟩) hS.2.2 d_D_condition_51
