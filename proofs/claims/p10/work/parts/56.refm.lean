theorem mw_339 : Cond.code y_D_rings b_D_rings 3 (some .boolean) ∈ lw_tbl := by decide +kernel
theorem mw_340 : Cond.initialized y_D_rings.cls ∈ lw_tbl := by decide +kernel
theorem mw_341 : Cond.methodLink "MeasureRowsModel" 74 y_D_rings ∈ lw_tbl := by decide +kernel
theorem mw_342 : Cond.instanceMethod y_D_rings ∈ lw_tbl := by decide +kernel
theorem mw_343 : Cond.selects "MeasureRowsModel" y_D_rings y_D_rings ∈ lw_tbl := by decide +kernel
theorem mw_344 : Cond.methodLink "MeasureRowsModel" 1 objectInit ∈ lw_tbl := by decide +kernel
theorem mw_345 : Cond.arrayClass .boolean ∈ lw_tbl := by decide +kernel
def mv_D_thrown (th : Int32) : Int32 := th
set_option maxHeartbeats 4000000 in
set_option maxRecDepth 100000 in
theorem mc_D_thrown (l : Launch) (s0 : State) (dC : Nat → ClassId) (dI : Nat → Nat → Nat) (cI cR cL cZ : ClassId) (r : Nat → Nat) (th rw nw pb lc : Int32)  : Met l y_D_thrown [Cond.code y_D_thrown b_D_thrown 1 (some .int)] ({ frames := 0, cells := 0, slots := 0, locals := 0 }) (mr_PW s0 (dC, dI) [(cI, .int), (cR, .object "MeasureRows$Row"), (cL, .long), (cZ, .boolean)] [.ref (r 0)] [((r 0), .inr (3, mf_D r th rw nw pb lc))]) (vp_Si (fun r => r = mv_D_thrown th )) 0 0 (fun _ => False) := by
  refine Met.ofW (cc := b_D_thrown) (maxL := 1) (ret := (some .int)) (by decide) rfl ?_
  intro p e s m args below meth c s₁ B hml hv
  obtain ⟨rfl, hB, hK, hP⟩ := hv
  have hBH := hB.here
  have hx := B.exec
  have hb := B.bytes
  have hr := B.returns
  have hlocks := B.notSynchronized
  have hts : ∀ w ∈ lw_tbl, w.before [.ref (r 0)].toArray s = true := hB.hts _
  have hown : s.vm.findClass "MeasureRowsModel" = some m.cls := findClass_of_methodNamed B.named
  have hl := lv_entry ([.ref (r 0)]) (n := 1) (Nat.le_of_ble_eq_true rfl)
  rw [lg_entry_eq]
  generalize (lg_sl ([.ref (r 0)]) ++ List.replicate (1 - (lg_sl ([.ref (r 0)])).length) Slot.unset).toArray = ls at hl ⊢
  have hl : lv_has ls 1 [(0, .ref (r 0))] := hl
  refine lv_aload_n hx hb d_D_thrown_0 rfl (lv_at hl 0 rfl) ?_
  refine va_get (D := (dC, dI)) (ci := 3) (v := .int th) (C := R_D) (T := T_D) (N := 19) hx hb hts ti_D hown hK hP 0 rfl rfl 0 (by decide) (hts (Cond.fieldLink "MeasureRowsModel" 53 "MeasureRowsModel" "thrown" "I") mw_295) (fun _ h9 => h9) rfl d_D_thrown_1 ?_
  exact W.iret (v := th) hx hb hr (fun t ht _ => ⟨_, rfl, rfl, ht⟩) (fun _ h => nomatch h) d_D_thrown_4
def mv_D_ring (fm : Nat → Int32) (a0 : Int32) (a1 : Int32) : Int32 := if (mv_D_isGroup a0) = 0 then 0 else if (mv_D_isGroup a1) = 0 then 0 else if (mv_D_rings fm a0 a1) = 0 then 0 else 1
def mt_D_ring (fm : Nat → Int32) (a0 : Int32) (a1 : Int32) : Int32 := if (mv_D_isGroup a0) = 0 then 1 else if (mv_D_isGroup a1) = 0 then 1 else if (mv_D_rings fm a0 a1) = 0 then 0 else 0
set_option maxHeartbeats 4000000 in
set_option maxRecDepth 100000 in
theorem mc_D_ring (l : Launch) (s0 : State) (dC : Nat → ClassId) (dI : Nat → Nat → Nat) (cI cR cL cZ : ClassId) (r : Nat → Nat) (th rw nw pb lc : Int32) (fm : Nat → Int32) (sz : Nat) (a0 : Int32) (a1 : Int32)  : Met l y_D_ring [Cond.code y_D_ring b_D_ring 3 (some .boolean)] ({ frames := 2, cells := 0, slots := 0, locals := 46 }) (mr_PC s0 (dC, dI) [(cI, .int), (cR, .object "MeasureRows$Row"), (cL, .long), (cZ, .boolean)] [.ref (r 0), .int a0, .int a1] [((r 0), .inr (3, mf_D r th rw nw pb lc)), ((r 1), .inl (cI, 8, .inl fm))] sz) (va_Qi (fun rr u => rr = mv_D_ring fm a0 a1 ∧ u = mt_D_ring fm a0 a1) (fun (u : Int32) t => mr_W (dC, dI) [(cI, .int), (cR, .object "MeasureRows$Row"), (cL, .long), (cZ, .boolean)] (va_A [((r 0), .inr (3, mf_D r th rw nw pb lc)), ((r 1), .inl (cI, 8, .inl fm))] sz) [((r 0), .inr (3, mf_D r u rw nw pb lc)), ((r 1), .inl (cI, 8, .inl fm))] t) (va_A [((r 0), .inr (3, mf_D r th rw nw pb lc)), ((r 1), .inl (cI, 8, .inl fm))] sz)) 0 0 (va_A [((r 0), .inr (3, mf_D r th rw nw pb lc)), ((r 1), .inl (cI, 8, .inl fm))] sz) := by
  refine Met.ofW (cc := b_D_ring) (maxL := 3) (ret := (some .boolean)) (by decide) rfl ?_
  intro p e s m args below meth c s₁ B hml hv
  obtain ⟨rfl, hsz, hB, hK, hP, hD0⟩ := hv
  subst hsz
  have hA0 := mr_A hB hD0
  have hD := hD0.self (sz := s.heap.size)
  generalize hAe : va_A [((r 0), .inr (3, mf_D r th rw nw pb lc)), ((r 1), .inl (cI, 8, .inl fm))] s.heap.size = A at hD hA0 ⊢
  have hA : ∀ q : Nat, s.heap.size ≤ q → A q := fun q h => by rw [← hAe]; exact Or.inr h
  have hS : va_S A s.heap s.heap [] := va_S.rf
  have hP : va_P (dC, dI) mr_cl [((r 0), .inr (3, mf_D r th rw nw pb lc)), ((r 1), .inl (cI, 8, .inl fm))] s.heap := hP
  have hBH := hB.at hS hA0
  have hx := B.exec
  have hb := B.bytes
  have hr := B.returns
  have hlocks := B.notSynchronized
  have hts : ∀ w ∈ lw_tbl, w.before [.ref (r 0), .int a0, .int a1].toArray s = true := hB.hts _
  have hown : s.vm.findClass "MeasureRowsModel" = some m.cls := findClass_of_methodNamed B.named
  have hl := lv_entry ([.ref (r 0), .int a0, .int a1]) (n := 3) (Nat.le_of_ble_eq_true rfl)
  rw [lg_entry_eq]
  generalize (lg_sl ([.ref (r 0), .int a0, .int a1]) ++ List.replicate (3 - (lg_sl ([.ref (r 0), .int a0, .int a1])).length) Slot.unset).toArray = ls at hl ⊢
  have hl : lv_has ls 3 [(0, .ref (r 0)), (1, .int a0), (2, .int a1)] := hl
  refine lv_aload_n hx hb d_D_ring_0 rfl (lv_at hl 0 rfl) ?_
  refine lv_iload_n hx hb d_D_ring_1 rfl (lv_at hl 1 rfl) ?_
  refine vp_callSi (va_Run.run (va_runS (As := [.int a0]) (rest := [.ref (r 0)]) ⟨hx, hb, hml, hown, hts⟩ (mc_D_isGroup l s0 a0) ⟨(mr_cB 1 (hts (Cond.code y_D_isGroup b_D_isGroup 1 (some .boolean)) mw_93) (hts (Cond.initialized y_D_isGroup.cls) mw_94) (hts (Cond.methodLink "MeasureRowsModel" 67 y_D_isGroup) mw_95) rfl rfl (by decide +kernel) ⟨Nat.le_of_ble_eq_true rfl, Nat.le_of_ble_eq_true rfl⟩), (hts (Cond.static y_D_isGroup) mw_96)⟩ (mr_pre0 hBH) rfl rfl hl.1 rfl (lv_room (Nat.le_of_ble_eq_true rfl)) d_D_ring_2 ⟨Nat.le_of_ble_eq_true rfl, Nat.le_of_ble_eq_true rfl⟩)) (fun r_1 h_2 => ?_)
  subst h_2
  refine lv_if_eq (tgt := 19) hx hb d_D_ring_5 (by decide) (fun c_3 => ?_) (fun c_3 => ?_)
  · refine lv_iconst (v := 1) hx hb d_D_ring_19 (by decide) ?_
    refine va_put (D := (dC, dI)) (ci := 3) (v := .int 1) (ty := .int) (C := R_D) (T := T_D) (N := 19) hx hb hts ti_D t_D to_D tn_D hown hK hP hD hS 0 rfl rfl 0 (by decide) (hts (Cond.fieldLink "MeasureRowsModel" 53 "MeasureRowsModel" "thrown" "I") mw_295) (fun _ h9 => h9) rfl (by decide +kernel) rfl rfl (Nat.le_of_ble_eq_true rfl) d_D_ring_20 (fun H locs hP hD hS => ?_)
    have hP : va_P (dC, dI) mr_cl [((r 0), .inr (3, mf_D r 1 rw nw pb lc)), ((r 1), .inl (cI, 8, .inl fm))] H := hP
    have hD : va_D A [((r 0), .inr (3, mf_D r 1 rw nw pb lc)), ((r 1), .inl (cI, 8, .inl fm))] := hD
    have hBH := hB.at hS hA0
    refine lv_aload_n hx hb d_D_ring_23 rfl (lv_at hl 0 rfl) ?_
    refine va_get (D := (dC, dI)) (ci := 3) (v := .int 1) (C := R_D) (T := T_D) (N := 19) hx hb hts ti_D hown hK hP 0 rfl rfl 0 (by decide) (hts (Cond.fieldLink "MeasureRowsModel" 53 "MeasureRowsModel" "thrown" "I") mw_295) (fun _ h9 => h9) rfl d_D_ring_24 ?_
    refine lv_if_ne (tgt := 43) hx hb d_D_ring_27 (by decide) (fun _ => ?_) (fun c_4 => absurd c_4 (by decide))
    refine lv_iconst (v := 0) hx hb d_D_ring_43 (by decide) ?_
    have hP9 := hP.sub (ws' := [((r 0), .inr (3, mf_D r 1 rw nw pb lc)), ((r 1), .inl (cI, 8, .inl fm))]) [0, 1] rfl
    have hD9 := hD.sub (ws' := [((r 0), .inr (3, mf_D r 1 rw nw pb lc)), ((r 1), .inl (cI, 8, .inl fm))]) [0, 1] (by decide) rfl
    exact W.zret (v := 0) hx hb hr (mr_narz mr_b0) (fun t ht hW => ⟨⟨_, 1, rfl, ⟨by unfold mv_D_ring; rw [if_pos c_3], by unfold mt_D_ring; rw [if_pos c_3]⟩, by rw [ht]; exact hP9, va_K.moved hW.alike hK, hD9⟩, hS.F ht⟩) hS.2.2 d_D_ring_44
  · refine lv_iload_n hx hb d_D_ring_8 rfl (lv_at hl 2 rfl) ?_
    refine vp_callSi (va_Run.run (va_runS (As := [.int a1]) (rest := [.ref (r 0)]) ⟨hx, hb, hml, hown, hts⟩ (mc_D_isGroup l s0 a1) ⟨(mr_cB 1 (hts (Cond.code y_D_isGroup b_D_isGroup 1 (some .boolean)) mw_93) (hts (Cond.initialized y_D_isGroup.cls) mw_94) (hts (Cond.methodLink "MeasureRowsModel" 67 y_D_isGroup) mw_95) rfl rfl (by decide +kernel) ⟨Nat.le_of_ble_eq_true rfl, Nat.le_of_ble_eq_true rfl⟩), (hts (Cond.static y_D_isGroup) mw_96)⟩ (mr_pre0 hBH) rfl rfl hl.1 rfl (lv_room (Nat.le_of_ble_eq_true rfl)) d_D_ring_9 ⟨Nat.le_of_ble_eq_true rfl, Nat.le_of_ble_eq_true rfl⟩)) (fun r_5 h_6 => ?_)
    subst h_6
    refine lv_if_eq (tgt := 19) hx hb d_D_ring_12 (by decide) (fun c_7 => ?_) (fun c_7 => ?_)
    · refine lv_iconst (v := 1) hx hb d_D_ring_19 (by decide) ?_
      refine va_put (D := (dC, dI)) (ci := 3) (v := .int 1) (ty := .int) (C := R_D) (T := T_D) (N := 19) hx hb hts ti_D t_D to_D tn_D hown hK hP hD hS 0 rfl rfl 0 (by decide) (hts (Cond.fieldLink "MeasureRowsModel" 53 "MeasureRowsModel" "thrown" "I") mw_295) (fun _ h9 => h9) rfl (by decide +kernel) rfl rfl (Nat.le_of_ble_eq_true rfl) d_D_ring_20 (fun H locs hP hD hS => ?_)
      have hP : va_P (dC, dI) mr_cl [((r 0), .inr (3, mf_D r 1 rw nw pb lc)), ((r 1), .inl (cI, 8, .inl fm))] H := hP
      have hD : va_D A [((r 0), .inr (3, mf_D r 1 rw nw pb lc)), ((r 1), .inl (cI, 8, .inl fm))] := hD
      have hBH := hB.at hS hA0
      refine lv_aload_n hx hb d_D_ring_23 rfl (lv_at hl 0 rfl) ?_
      refine va_get (D := (dC, dI)) (ci := 3) (v := .int 1) (C := R_D) (T := T_D) (N := 19) hx hb hts ti_D hown hK hP 0 rfl rfl 0 (by decide) (hts (Cond.fieldLink "MeasureRowsModel" 53 "MeasureRowsModel" "thrown" "I") mw_295) (fun _ h9 => h9) rfl d_D_ring_24 ?_
      refine lv_if_ne (tgt := 43) hx hb d_D_ring_27 (by decide) (fun _ => ?_) (fun c_8 => absurd c_8 (by decide))
      refine lv_iconst (v := 0) hx hb d_D_ring_43 (by decide) ?_
      have hP9 := hP.sub (ws' := [((r 0), .inr (3, mf_D r 1 rw nw pb lc)), ((r 1), .inl (cI, 8, .inl fm))]) [0, 1] rfl
      have hD9 := hD.sub (ws' := [((r 0), .inr (3, mf_D r 1 rw nw pb lc)), ((r 1), .inl (cI, 8, .inl fm))]) [0, 1] (by decide) rfl
      exact W.zret (v := 0) hx hb hr (mr_narz mr_b0) (fun t ht hW => ⟨⟨_, 1, rfl, ⟨by unfold mv_D_ring; rw [if_neg c_3, if_pos c_7], by unfold mt_D_ring; rw [if_neg c_3, if_pos c_7]⟩, by rw [ht]; exact hP9, va_K.moved hW.alike hK, hD9⟩, hS.F ht⟩) hS.2.2 d_D_ring_44
    · refine lv_iconst (v := 0) hx hb d_D_ring_15 (by decide) ?_
      refine lv_goto (tgt := 20) hx hb d_D_ring_16 (by decide) ?_
      refine va_put (D := (dC, dI)) (ci := 3) (v := .int 0) (ty := .int) (C := R_D) (T := T_D) (N := 19) hx hb hts ti_D t_D to_D tn_D hown hK hP hD hS 0 rfl rfl 0 (by decide) (hts (Cond.fieldLink "MeasureRowsModel" 53 "MeasureRowsModel" "thrown" "I") mw_295) (fun _ h9 => h9) rfl (by decide +kernel) rfl rfl (Nat.le_of_ble_eq_true rfl) d_D_ring_20 (fun H locs hP hD hS => ?_)
      have hP : va_P (dC, dI) mr_cl [((r 0), .inr (3, mf_D r 0 rw nw pb lc)), ((r 1), .inl (cI, 8, .inl fm))] H := hP
      have hD : va_D A [((r 0), .inr (3, mf_D r 0 rw nw pb lc)), ((r 1), .inl (cI, 8, .inl fm))] := hD
      have hBH := hB.at hS hA0
      refine lv_aload_n hx hb d_D_ring_23 rfl (lv_at hl 0 rfl) ?_
      refine va_get (D := (dC, dI)) (ci := 3) (v := .int 0) (C := R_D) (T := T_D) (N := 19) hx hb hts ti_D hown hK hP 0 rfl rfl 0 (by decide) (hts (Cond.fieldLink "MeasureRowsModel" 53 "MeasureRowsModel" "thrown" "I") mw_295) (fun _ h9 => h9) rfl d_D_ring_24 ?_
      refine lv_if_ne (tgt := 43) hx hb d_D_ring_27 (by decide) (fun c_9 => absurd c_9 (by decide)) (fun _ => ?_)
      refine lv_aload_n hx hb d_D_ring_30 rfl (lv_at hl 0 rfl) ?_
      refine lv_iload_n hx hb d_D_ring_31 rfl (lv_at hl 1 rfl) ?_
      refine lv_iload_n hx hb d_D_ring_32 rfl (lv_at hl 2 rfl) ?_
      refine vp_callSi (va_Run.run (va_runV (As := [.int a0, .int a1]) (rest := []) (C := R_D) ⟨hx, hb, hml, hown, hts⟩ (mc_D_rings l s0 dC dI cI cR cL cZ r 0 rw nw pb lc fm a0 a1 c_7) ⟨(mr_cB 2 (hts (Cond.code y_D_rings b_D_rings 3 (some .boolean)) mw_339) (hts (Cond.initialized y_D_rings.cls) mw_340) (hts (Cond.methodLink "MeasureRowsModel" 74 y_D_rings) mw_341) rfl rfl (by decide +kernel) ⟨Nat.le_of_ble_eq_true rfl, Nat.le_of_ble_eq_true rfl⟩), (hts (Cond.instanceMethod y_D_rings) mw_342), (hts (Cond.selects "MeasureRowsModel" y_D_rings y_D_rings) mw_343)⟩ (mr_preV hBH hK (hP.sub (ws' := [((r 0), .inr (3, mf_D r 0 rw nw pb lc)), ((r 1), .inl (cI, 8, .inl fm))]) [0, 1] rfl) (ci := 3) (q0 := 0) rfl rfl) rfl rfl hl.1 rfl (lv_room (Nat.le_of_ble_eq_true rfl)) d_D_ring_33 ⟨Nat.le_of_ble_eq_true rfl, Nat.le_of_ble_eq_true rfl⟩)) (fun r_10 h_11 => ?_)
      subst h_11
      refine lv_if_eq (tgt := 43) hx hb d_D_ring_36 (by decide) (fun c_12 => ?_) (fun c_12 => ?_)
      · refine lv_iconst (v := 0) hx hb d_D_ring_43 (by decide) ?_
        have hP9 := hP.sub (ws' := [((r 0), .inr (3, mf_D r 0 rw nw pb lc)), ((r 1), .inl (cI, 8, .inl fm))]) [0, 1] rfl
        have hD9 := hD.sub (ws' := [((r 0), .inr (3, mf_D r 0 rw nw pb lc)), ((r 1), .inl (cI, 8, .inl fm))]) [0, 1] (by decide) rfl
        exact W.zret (v := 0) hx hb hr (mr_narz mr_b0) (fun t ht hW => ⟨⟨_, 0, rfl, ⟨by unfold mv_D_ring; rw [if_neg c_3, if_neg c_7, if_pos c_12], by unfold mt_D_ring; rw [if_neg c_3, if_neg c_7, if_pos c_12]⟩, by rw [ht]; exact hP9, va_K.moved hW.alike hK, hD9⟩, hS.F ht⟩) hS.2.2 d_D_ring_44
      · refine lv_iconst (v := 1) hx hb d_D_ring_39 (by decide) ?_
        refine lv_goto (tgt := 44) hx hb d_D_ring_40 (by decide) ?_
        have hP9 := hP.sub (ws' := [((r 0), .inr (3, mf_D r 0 rw nw pb lc)), ((r 1), .inl (cI, 8, .inl fm))]) [0, 1] rfl
        have hD9 := hD.sub (ws' := [((r 0), .inr (3, mf_D r 0 rw nw pb lc)), ((r 1), .inl (cI, 8, .inl fm))]) [0, 1] (by decide) rfl
        exact W.zret (v := 1) hx hb hr (mr_narz mr_b1) (fun t ht hW => ⟨⟨_, 0, rfl, ⟨by unfold mv_D_ring; rw [if_neg c_3, if_neg c_7, if_neg c_12], by unfold mt_D_ring; rw [if_neg c_3, if_neg c_7, if_neg c_12]⟩, by rw [ht]; exact hP9, va_K.moved hW.alike hK, hD9⟩, hS.F ht⟩) hS.2.2 d_D_ring_44
def mv_D_has (fm : Nat → Int32) (a0 : Int32) (a1 : Int32) : Int32 := if (mv_D_isGroup a0) = 0 then (if a0 = 31 then (if (mv_D_isLand a1) = 0 then 0 else if (mv_D_isIn fm a1 a0) = 0 then 0 else 1) else 0) else if (mv_D_isLand a1) = 0 then 0 else if (mv_D_isIn fm a1 a0) = 0 then 0 else 1
def mt_D_has (fm : Nat → Int32) (a0 : Int32) (a1 : Int32) : Int32 := if (mv_D_isGroup a0) = 0 then (if a0 = 31 then (if (mv_D_isLand a1) = 0 then 1 else if (mv_D_isIn fm a1 a0) = 0 then 0 else 0) else 1) else if (mv_D_isLand a1) = 0 then 1 else if (mv_D_isIn fm a1 a0) = 0 then 0 else 0
set_option maxHeartbeats 4000000 in
set_option maxRecDepth 100000 in
theorem mc_D_has (l : Launch) (s0 : State) (dC : Nat → ClassId) (dI : Nat → Nat → Nat) (cI cR cL cZ : ClassId) (r : Nat → Nat) (th rw nw pb lc : Int32) (fm : Nat → Int32) (sz : Nat) (a0 : Int32) (a1 : Int32)  : Met l y_D_has [Cond.code y_D_has b_D_has 3 (some .boolean)] ({ frames := 3, cells := 0, slots := 0, locals := 64 }) (mr_PC s0 (dC, dI) [(cI, .int), (cR, .object "MeasureRows$Row"), (cL, .long), (cZ, .boolean)] [.ref (r 0), .int a0, .int a1] [((r 0), .inr (3, mf_D r th rw nw pb lc)), ((r 1), .inl (cI, 8, .inl fm))] sz) (va_Qi (fun rr u => rr = mv_D_has fm a0 a1 ∧ u = mt_D_has fm a0 a1) (fun (u : Int32) t => mr_W (dC, dI) [(cI, .int), (cR, .object "MeasureRows$Row"), (cL, .long), (cZ, .boolean)] (va_A [((r 0), .inr (3, mf_D r th rw nw pb lc)), ((r 1), .inl (cI, 8, .inl fm))] sz) [((r 0), .inr (3, mf_D r u rw nw pb lc)), ((r 1), .inl (cI, 8, .inl fm))] t) (va_A [((r 0), .inr (3, mf_D r th rw nw pb lc)), ((r 1), .inl (cI, 8, .inl fm))] sz)) 0 0 (va_A [((r 0), .inr (3, mf_D r th rw nw pb lc)), ((r 1), .inl (cI, 8, .inl fm))] sz) := by
  refine Met.ofW (cc := b_D_has) (maxL := 3) (ret := (some .boolean)) (by decide) rfl ?_
  intro p e s m args below meth c s₁ B hml hv
  obtain ⟨rfl, hsz, hB, hK, hP, hD0⟩ := hv
  subst hsz
  have hA0 := mr_A hB hD0
  have hD := hD0.self (sz := s.heap.size)
  generalize hAe : va_A [((r 0), .inr (3, mf_D r th rw nw pb lc)), ((r 1), .inl (cI, 8, .inl fm))] s.heap.size = A at hD hA0 ⊢
  have hA : ∀ q : Nat, s.heap.size ≤ q → A q := fun q h => by rw [← hAe]; exact Or.inr h
  have hS : va_S A s.heap s.heap [] := va_S.rf
  have hP : va_P (dC, dI) mr_cl [((r 0), .inr (3, mf_D r th rw nw pb lc)), ((r 1), .inl (cI, 8, .inl fm))] s.heap := hP
  have hBH := hB.at hS hA0
  have hx := B.exec
  have hb := B.bytes
  have hr := B.returns
  have hlocks := B.notSynchronized
  have hts : ∀ w ∈ lw_tbl, w.before [.ref (r 0), .int a0, .int a1].toArray s = true := hB.hts _
  have hown : s.vm.findClass "MeasureRowsModel" = some m.cls := findClass_of_methodNamed B.named
  have hl := lv_entry ([.ref (r 0), .int a0, .int a1]) (n := 3) (Nat.le_of_ble_eq_true rfl)
  rw [lg_entry_eq]
  generalize (lg_sl ([.ref (r 0), .int a0, .int a1]) ++ List.replicate (3 - (lg_sl ([.ref (r 0), .int a0, .int a1])).length) Slot.unset).toArray = ls at hl ⊢
  have hl : lv_has ls 3 [(0, .ref (r 0)), (1, .int a0), (2, .int a1)] := hl
  refine lv_aload_n hx hb d_D_has_0 rfl (lv_at hl 0 rfl) ?_
  refine lv_iload_n hx hb d_D_has_1 rfl (lv_at hl 1 rfl) ?_
  refine vp_callSi (va_Run.run (va_runS (As := [.int a0]) (rest := [.ref (r 0)]) ⟨hx, hb, hml, hown, hts⟩ (mc_D_isGroup l s0 a0) ⟨(mr_cB 1 (hts (Cond.code y_D_isGroup b_D_isGroup 1 (some .boolean)) mw_93) (hts (Cond.initialized y_D_isGroup.cls) mw_94) (hts (Cond.methodLink "MeasureRowsModel" 67 y_D_isGroup) mw_95) rfl rfl (by decide +kernel) ⟨Nat.le_of_ble_eq_true rfl, Nat.le_of_ble_eq_true rfl⟩), (hts (Cond.static y_D_isGroup) mw_96)⟩ (mr_pre0 hBH) rfl rfl hl.1 rfl (lv_room (Nat.le_of_ble_eq_true rfl)) d_D_has_2 ⟨Nat.le_of_ble_eq_true rfl, Nat.le_of_ble_eq_true rfl⟩)) (fun r_1 h_2 => ?_)
  subst h_2
  refine lv_if_ne (tgt := 14) hx hb d_D_has_5 (by decide) (fun c_3 => ?_) (fun c_3 => ?_)
  · refine lv_iload_n hx hb d_D_has_14 rfl (lv_at hl 2 rfl) ?_
    refine vp_callSi (va_Run.run (va_runS (As := [.int a1]) (rest := [.ref (r 0)]) ⟨hx, hb, hml, hown, hts⟩ (mc_D_isLand l s0 a1) ⟨(mr_cB 1 (hts (Cond.code y_D_isLand b_D_isLand 1 (some .boolean)) mw_301) (hts (Cond.initialized y_D_isLand.cls) mw_302) (hts (Cond.methodLink "MeasureRowsModel" 71 y_D_isLand) mw_303) rfl rfl (by decide +kernel) ⟨Nat.le_of_ble_eq_true rfl, Nat.le_of_ble_eq_true rfl⟩), (hts (Cond.static y_D_isLand) mw_304)⟩ (mr_pre0 hBH) rfl rfl hl.1 rfl (lv_room (Nat.le_of_ble_eq_true rfl)) d_D_has_15 ⟨Nat.le_of_ble_eq_true rfl, Nat.le_of_ble_eq_true rfl⟩)) (fun r_4 h_5 => ?_)
    subst h_5
    refine lv_if_eq (tgt := 25) hx hb d_D_has_18 (by decide) (fun c_6 => ?_) (fun c_6 => ?_)
    · refine lv_iconst (v := 1) hx hb d_D_has_25 (by decide) ?_
      refine va_put (D := (dC, dI)) (ci := 3) (v := .int 1) (ty := .int) (C := R_D) (T := T_D) (N := 19) hx hb hts ti_D t_D to_D tn_D hown hK hP hD hS 0 rfl rfl 0 (by decide) (hts (Cond.fieldLink "MeasureRowsModel" 53 "MeasureRowsModel" "thrown" "I") mw_295) (fun _ h9 => h9) rfl (by decide +kernel) rfl rfl (Nat.le_of_ble_eq_true rfl) d_D_has_26 (fun H locs hP hD hS => ?_)
      have hP : va_P (dC, dI) mr_cl [((r 0), .inr (3, mf_D r 1 rw nw pb lc)), ((r 1), .inl (cI, 8, .inl fm))] H := hP
      have hD : va_D A [((r 0), .inr (3, mf_D r 1 rw nw pb lc)), ((r 1), .inl (cI, 8, .inl fm))] := hD
      have hBH := hB.at hS hA0
      refine lv_aload_n hx hb d_D_has_29 rfl (lv_at hl 0 rfl) ?_
      refine va_get (D := (dC, dI)) (ci := 3) (v := .int 1) (C := R_D) (T := T_D) (N := 19) hx hb hts ti_D hown hK hP 0 rfl rfl 0 (by decide) (hts (Cond.fieldLink "MeasureRowsModel" 53 "MeasureRowsModel" "thrown" "I") mw_295) (fun _ h9 => h9) rfl d_D_has_30 ?_
      refine lv_if_ne (tgt := 49) hx hb d_D_has_33 (by decide) (fun _ => ?_) (fun c_7 => absurd c_7 (by decide))
      refine lv_iconst (v := 0) hx hb d_D_has_49 (by decide) ?_
      have hP9 := hP.sub (ws' := [((r 0), .inr (3, mf_D r 1 rw nw pb lc)), ((r 1), .inl (cI, 8, .inl fm))]) [0, 1] rfl
      have hD9 := hD.sub (ws' := [((r 0), .inr (3, mf_D r 1 rw nw pb lc)), ((r 1), .inl (cI, 8, .inl fm))]) [0, 1] (by decide) rfl
      exact W.zret (v := 0) hx hb hr (mr_narz mr_b0) (fun t ht hW => ⟨⟨_, 1, rfl, ⟨by unfold mv_D_has; rw [if_neg c_3, if_pos c_6], by unfold mt_D_has; rw [if_neg c_3, if_pos c_6]⟩, by rw [ht]; exact hP9, va_K.moved hW.alike hK, hD9⟩, hS.F ht⟩) hS.2.2 d_D_has_50
    · refine lv_iconst (v := 0) hx hb d_D_has_21 (by decide) ?_
      refine lv_goto (tgt := 26) hx hb d_D_has_22 (by decide) ?_
      refine va_put (D := (dC, dI)) (ci := 3) (v := .int 0) (ty := .int) (C := R_D) (T := T_D) (N := 19) hx hb hts ti_D t_D to_D tn_D hown hK hP hD hS 0 rfl rfl 0 (by decide) (hts (Cond.fieldLink "MeasureRowsModel" 53 "MeasureRowsModel" "thrown" "I") mw_295) (fun _ h9 => h9) rfl (by decide +kernel) rfl rfl (Nat.le_of_ble_eq_true rfl) d_D_has_26 (fun H locs hP hD hS => ?_)
      have hP : va_P (dC, dI) mr_cl [((r 0), .inr (3, mf_D r 0 rw nw pb lc)), ((r 1), .inl (cI, 8, .inl fm))] H := hP
      have hD : va_D A [((r 0), .inr (3, mf_D r 0 rw nw pb lc)), ((r 1), .inl (cI, 8, .inl fm))] := hD
      have hBH := hB.at hS hA0
      refine lv_aload_n hx hb d_D_has_29 rfl (lv_at hl 0 rfl) ?_
      refine va_get (D := (dC, dI)) (ci := 3) (v := .int 0) (C := R_D) (T := T_D) (N := 19) hx hb hts ti_D hown hK hP 0 rfl rfl 0 (by decide) (hts (Cond.fieldLink "MeasureRowsModel" 53 "MeasureRowsModel" "thrown" "I") mw_295) (fun _ h9 => h9) rfl d_D_has_30 ?_
      refine lv_if_ne (tgt := 49) hx hb d_D_has_33 (by decide) (fun c_8 => absurd c_8 (by decide)) (fun _ => ?_)
      refine lv_aload_n hx hb d_D_has_36 rfl (lv_at hl 0 rfl) ?_
      refine lv_iload_n hx hb d_D_has_37 rfl (lv_at hl 2 rfl) ?_
      refine lv_iload_n hx hb d_D_has_38 rfl (lv_at hl 1 rfl) ?_
      refine vp_callSi (va_Run.run (va_runV (As := [.int a1, .int a0]) (rest := []) (C := R_D) ⟨hx, hb, hml, hown, hts⟩ (mc_D_isIn l s0 dC dI cI cR cL cZ r 0 rw nw pb lc fm a1 a0) ⟨(mr_cB 2 (hts (Cond.code y_D_isIn b_D_isIn 3 (some .boolean)) mw_279) (hts (Cond.initialized y_D_isIn.cls) mw_280) (hts (Cond.methodLink "MeasureRowsModel" 78 y_D_isIn) mw_281) rfl rfl (by decide +kernel) ⟨Nat.le_of_ble_eq_true rfl, Nat.le_of_ble_eq_true rfl⟩), (hts (Cond.instanceMethod y_D_isIn) mw_282), (hts (Cond.selects "MeasureRowsModel" y_D_isIn y_D_isIn) mw_283)⟩ (mr_preV hBH hK (hP.sub (ws' := [((r 0), .inr (3, mf_D r 0 rw nw pb lc)), ((r 1), .inl (cI, 8, .inl fm))]) [0, 1] rfl) (ci := 3) (q0 := 0) rfl rfl) rfl rfl hl.1 rfl (lv_room (Nat.le_of_ble_eq_true rfl)) d_D_has_39 ⟨Nat.le_of_ble_eq_true rfl, Nat.le_of_ble_eq_true rfl⟩)) (fun r_9 h_10 => ?_)
      subst h_10
      refine lv_if_eq (tgt := 49) hx hb d_D_has_42 (by decide) (fun c_11 => ?_) (fun c_11 => ?_)
      · refine lv_iconst (v := 0) hx hb d_D_has_49 (by decide) ?_
        have hP9 := hP.sub (ws' := [((r 0), .inr (3, mf_D r 0 rw nw pb lc)), ((r 1), .inl (cI, 8, .inl fm))]) [0, 1] rfl
        have hD9 := hD.sub (ws' := [((r 0), .inr (3, mf_D r 0 rw nw pb lc)), ((r 1), .inl (cI, 8, .inl fm))]) [0, 1] (by decide) rfl
        exact W.zret (v := 0) hx hb hr (mr_narz mr_b0) (fun t ht hW => ⟨⟨_, 0, rfl, ⟨by unfold mv_D_has; rw [if_neg c_3, if_neg c_6, if_pos c_11], by unfold mt_D_has; rw [if_neg c_3, if_neg c_6, if_pos c_11]⟩, by rw [ht]; exact hP9, va_K.moved hW.alike hK, hD9⟩, hS.F ht⟩) hS.2.2 d_D_has_50
      · refine lv_iconst (v := 1) hx hb d_D_has_45 (by decide) ?_
        refine lv_goto (tgt := 50) hx hb d_D_has_46 (by decide) ?_
        have hP9 := hP.sub (ws' := [((r 0), .inr (3, mf_D r 0 rw nw pb lc)), ((r 1), .inl (cI, 8, .inl fm))]) [0, 1] rfl
        have hD9 := hD.sub (ws' := [((r 0), .inr (3, mf_D r 0 rw nw pb lc)), ((r 1), .inl (cI, 8, .inl fm))]) [0, 1] (by decide) rfl
        exact W.zret (v := 1) hx hb hr (mr_narz mr_b1) (fun t ht hW => ⟨⟨_, 0, rfl, ⟨by unfold mv_D_has; rw [if_neg c_3, if_neg c_6, if_neg c_11], by unfold mt_D_has; rw [if_neg c_3, if_neg c_6, if_neg c_11]⟩, by rw [ht]; exact hP9, va_K.moved hW.alike hK, hD9⟩, hS.F ht⟩) hS.2.2 d_D_has_50
  · refine lv_iload_n hx hb d_D_has_8 rfl (lv_at hl 1 rfl) ?_
    refine lv_bipush (v := 31) hx hb d_D_has_9 (by decide) ?_
    refine lv_icmp_ne (tgt := 25) hx hb d_D_has_11 (by decide) (fun c_12 => ?_) (fun c_12 => ?_)
    · refine lv_iconst (v := 1) hx hb d_D_has_25 (by decide) ?_
      refine va_put (D := (dC, dI)) (ci := 3) (v := .int 1) (ty := .int) (C := R_D) (T := T_D) (N := 19) hx hb hts ti_D t_D to_D tn_D hown hK hP hD hS 0 rfl rfl 0 (by decide) (hts (Cond.fieldLink "MeasureRowsModel" 53 "MeasureRowsModel" "thrown" "I") mw_295) (fun _ h9 => h9) rfl (by decide +kernel) rfl rfl (Nat.le_of_ble_eq_true rfl) d_D_has_26 (fun H locs hP hD hS => ?_)
      have hP : va_P (dC, dI) mr_cl [((r 0), .inr (3, mf_D r 1 rw nw pb lc)), ((r 1), .inl (cI, 8, .inl fm))] H := hP
      have hD : va_D A [((r 0), .inr (3, mf_D r 1 rw nw pb lc)), ((r 1), .inl (cI, 8, .inl fm))] := hD
      have hBH := hB.at hS hA0
      refine lv_aload_n hx hb d_D_has_29 rfl (lv_at hl 0 rfl) ?_
      refine va_get (D := (dC, dI)) (ci := 3) (v := .int 1) (C := R_D) (T := T_D) (N := 19) hx hb hts ti_D hown hK hP 0 rfl rfl 0 (by decide) (hts (Cond.fieldLink "MeasureRowsModel" 53 "MeasureRowsModel" "thrown" "I") mw_295) (fun _ h9 => h9) rfl d_D_has_30 ?_
      refine lv_if_ne (tgt := 49) hx hb d_D_has_33 (by decide) (fun _ => ?_) (fun c_13 => absurd c_13 (by decide))
      refine lv_iconst (v := 0) hx hb d_D_has_49 (by decide) ?_
      have hP9 := hP.sub (ws' := [((r 0), .inr (3, mf_D r 1 rw nw pb lc)), ((r 1), .inl (cI, 8, .inl fm))]) [0, 1] rfl
      have hD9 := hD.sub (ws' := [((r 0), .inr (3, mf_D r 1 rw nw pb lc)), ((r 1), .inl (cI, 8, .inl fm))]) [0, 1] (by decide) rfl
      exact W.zret (v := 0) hx hb hr (mr_narz mr_b0) (fun t ht hW => ⟨⟨_, 1, rfl, ⟨by unfold mv_D_has; rw [if_pos c_3, if_neg c_12], by unfold mt_D_has; rw [if_pos c_3, if_neg c_12]⟩, by rw [ht]; exact hP9, va_K.moved hW.alike hK, hD9⟩, hS.F ht⟩) hS.2.2 d_D_has_50
    · refine lv_iload_n hx hb d_D_has_14 rfl (lv_at hl 2 rfl) ?_
      refine vp_callSi (va_Run.run (va_runS (As := [.int a1]) (rest := [.ref (r 0)]) ⟨hx, hb, hml, hown, hts⟩ (mc_D_isLand l s0 a1) ⟨(mr_cB 1 (hts (Cond.code y_D_isLand b_D_isLand 1 (some .boolean)) mw_301) (hts (Cond.initialized y_D_isLand.cls) mw_302) (hts (Cond.methodLink "MeasureRowsModel" 71 y_D_isLand) mw_303) rfl rfl (by decide +kernel) ⟨Nat.le_of_ble_eq_true rfl, Nat.le_of_ble_eq_true rfl⟩), (hts (Cond.static y_D_isLand) mw_304)⟩ (mr_pre0 hBH) rfl rfl hl.1 rfl (lv_room (Nat.le_of_ble_eq_true rfl)) d_D_has_15 ⟨Nat.le_of_ble_eq_true rfl, Nat.le_of_ble_eq_true rfl⟩)) (fun r_14 h_15 => ?_)
      subst h_15
      refine lv_if_eq (tgt := 25) hx hb d_D_has_18 (by decide) (fun c_16 => ?_) (fun c_16 => ?_)
      · refine lv_iconst (v := 1) hx hb d_D_has_25 (by decide) ?_
        refine va_put (D := (dC, dI)) (ci := 3) (v := .int 1) (ty := .int) (C := R_D) (T := T_D) (N := 19) hx hb hts ti_D t_D to_D tn_D hown hK hP hD hS 0 rfl rfl 0 (by decide) (hts (Cond.fieldLink "MeasureRowsModel" 53 "MeasureRowsModel" "thrown" "I") mw_295) (fun _ h9 => h9) rfl (by decide +kernel) rfl rfl (Nat.le_of_ble_eq_true rfl) d_D_has_26 (fun H locs hP hD hS => ?_)
        have hP : va_P (dC, dI) mr_cl [((r 0), .inr (3, mf_D r 1 rw nw pb lc)), ((r 1), .inl (cI, 8, .inl fm))] H := hP
        have hD : va_D A [((r 0), .inr (3, mf_D r 1 rw nw pb lc)), ((r 1), .inl (cI, 8, .inl fm))] := hD
        have hBH := hB.at hS hA0
        refine lv_aload_n hx hb d_D_has_29 rfl (lv_at hl 0 rfl) ?_
        refine va_get (D := (dC, dI)) (ci := 3) (v := .int 1) (C := R_D) (T := T_D) (N := 19) hx hb hts ti_D hown hK hP 0 rfl rfl 0 (by decide) (hts (Cond.fieldLink "MeasureRowsModel" 53 "MeasureRowsModel" "thrown" "I") mw_295) (fun _ h9 => h9) rfl d_D_has_30 ?_
        refine lv_if_ne (tgt := 49) hx hb d_D_has_33 (by decide) (fun _ => ?_) (fun c_17 => absurd c_17 (by decide))
        refine lv_iconst (v := 0) hx hb d_D_has_49 (by decide) ?_
        have hP9 := hP.sub (ws' := [((r 0), .inr (3, mf_D r 1 rw nw pb lc)), ((r 1), .inl (cI, 8, .inl fm))]) [0, 1] rfl
        have hD9 := hD.sub (ws' := [((r 0), .inr (3, mf_D r 1 rw nw pb lc)), ((r 1), .inl (cI, 8, .inl fm))]) [0, 1] (by decide) rfl
        exact W.zret (v := 0) hx hb hr (mr_narz mr_b0) (fun t ht hW => ⟨⟨_, 1, rfl, ⟨by unfold mv_D_has; rw [if_pos c_3, if_pos c_12, if_pos c_16], by unfold mt_D_has; rw [if_pos c_3, if_pos c_12, if_pos c_16]⟩, by rw [ht]; exact hP9, va_K.moved hW.alike hK, hD9⟩, hS.F ht⟩) hS.2.2 d_D_has_50
      · refine lv_iconst (v := 0) hx hb d_D_has_21 (by decide) ?_
        refine lv_goto (tgt := 26) hx hb d_D_has_22 (by decide) ?_
        refine va_put (D := (dC, dI)) (ci := 3) (v := .int 0) (ty := .int) (C := R_D) (T := T_D) (N := 19) hx hb hts ti_D t_D to_D tn_D hown hK hP hD hS 0 rfl rfl 0 (by decide) (hts (Cond.fieldLink "MeasureRowsModel" 53 "MeasureRowsModel" "thrown" "I") mw_295) (fun _ h9 => h9) rfl (by decide +kernel) rfl rfl (Nat.le_of_ble_eq_true rfl) d_D_has_26 (fun H locs hP hD hS => ?_)
        have hP : va_P (dC, dI) mr_cl [((r 0), .inr (3, mf_D r 0 rw nw pb lc)), ((r 1), .inl (cI, 8, .inl fm))] H := hP
        have hD : va_D A [((r 0), .inr (3, mf_D r 0 rw nw pb lc)), ((r 1), .inl (cI, 8, .inl fm))] := hD
        have hBH := hB.at hS hA0
        refine lv_aload_n hx hb d_D_has_29 rfl (lv_at hl 0 rfl) ?_
        refine va_get (D := (dC, dI)) (ci := 3) (v := .int 0) (C := R_D) (T := T_D) (N := 19) hx hb hts ti_D hown hK hP 0 rfl rfl 0 (by decide) (hts (Cond.fieldLink "MeasureRowsModel" 53 "MeasureRowsModel" "thrown" "I") mw_295) (fun _ h9 => h9) rfl d_D_has_30 ?_
        refine lv_if_ne (tgt := 49) hx hb d_D_has_33 (by decide) (fun c_18 => absurd c_18 (by decide)) (fun _ => ?_)
        refine lv_aload_n hx hb d_D_has_36 rfl (lv_at hl 0 rfl) ?_
        refine lv_iload_n hx hb d_D_has_37 rfl (lv_at hl 2 rfl) ?_
        refine lv_iload_n hx hb d_D_has_38 rfl (lv_at hl 1 rfl) ?_
        refine vp_callSi (va_Run.run (va_runV (As := [.int a1, .int a0]) (rest := []) (C := R_D) ⟨hx, hb, hml, hown, hts⟩ (mc_D_isIn l s0 dC dI cI cR cL cZ r 0 rw nw pb lc fm a1 a0) ⟨(mr_cB 2 (hts (Cond.code y_D_isIn b_D_isIn 3 (some .boolean)) mw_279) (hts (Cond.initialized y_D_isIn.cls) mw_280) (hts (Cond.methodLink "MeasureRowsModel" 78 y_D_isIn) mw_281) rfl rfl (by decide +kernel) ⟨Nat.le_of_ble_eq_true rfl, Nat.le_of_ble_eq_true rfl⟩), (hts (Cond.instanceMethod y_D_isIn) mw_282), (hts (Cond.selects "MeasureRowsModel" y_D_isIn y_D_isIn) mw_283)⟩ (mr_preV hBH hK (hP.sub (ws' := [((r 0), .inr (3, mf_D r 0 rw nw pb lc)), ((r 1), .inl (cI, 8, .inl fm))]) [0, 1] rfl) (ci := 3) (q0 := 0) rfl rfl) rfl rfl hl.1 rfl (lv_room (Nat.le_of_ble_eq_true rfl)) d_D_has_39 ⟨Nat.le_of_ble_eq_true rfl, Nat.le_of_ble_eq_true rfl⟩)) (fun r_19 h_20 => ?_)
        subst h_20
        refine lv_if_eq (tgt := 49) hx hb d_D_has_42 (by decide) (fun c_21 => ?_) (fun c_21 => ?_)
        · refine lv_iconst (v := 0) hx hb d_D_has_49 (by decide) ?_
          have hP9 := hP.sub (ws' := [((r 0), .inr (3, mf_D r 0 rw nw pb lc)), ((r 1), .inl (cI, 8, .inl fm))]) [0, 1] rfl
          have hD9 := hD.sub (ws' := [((r 0), .inr (3, mf_D r 0 rw nw pb lc)), ((r 1), .inl (cI, 8, .inl fm))]) [0, 1] (by decide) rfl
          exact W.zret (v := 0) hx hb hr (mr_narz mr_b0) (fun t ht hW => ⟨⟨_, 0, rfl, ⟨by unfold mv_D_has; rw [if_pos c_3, if_pos c_12, if_neg c_16, if_pos c_21], by unfold mt_D_has; rw [if_pos c_3, if_pos c_12, if_neg c_16, if_pos c_21]⟩, by rw [ht]; exact hP9, va_K.moved hW.alike hK, hD9⟩, hS.F ht⟩) hS.2.2 d_D_has_50
        · refine lv_iconst (v := 1) hx hb d_D_has_45 (by decide) ?_
          refine lv_goto (tgt := 50) hx hb d_D_has_46 (by decide) ?_
          have hP9 := hP.sub (ws' := [((r 0), .inr (3, mf_D r 0 rw nw pb lc)), ((r 1), .inl (cI, 8, .inl fm))]) [0, 1] rfl
          have hD9 := hD.sub (ws' := [((r 0), .inr (3, mf_D r 0 rw nw pb lc)), ((r 1), .inl (cI, 8, .inl fm))]) [0, 1] (by decide) rfl
          exact W.zret (v := 1) hx hb hr (mr_narz mr_b1) (fun t ht hW => ⟨⟨_, 0, rfl, ⟨by unfold mv_D_has; rw [if_pos c_3, if_pos c_12, if_neg c_16, if_neg c_21], by unfold mt_D_has; rw [if_pos c_3, if_pos c_12, if_neg c_16, if_neg c_21]⟩, by rw [ht]; exact hP9, va_K.moved hW.alike hK, hD9⟩, hS.F ht⟩) hS.2.2 d_D_has_50
def mv_D_member (fm : Nat → Int32) (a0 a1 : Int32) : Int32 := if (mv_D_isGroup a0) = 0 then 0 else if (mv_D_isLand a1) = 0 then (if (mv_D_isGroup a1) = 0 then 0 else if (((fm (a0 - 16).toNatClampNeg) >>> (a1 &&& 31)) &&& 1) = 1 then 0 else if (mv_D_rings fm a0 a1) = 0 then 1 else 0) else if (((fm (a0 - 16).toNatClampNeg) >>> (a1 &&& 31)) &&& 1) = 1 then 0 else if (mv_D_isGroup a1) = 0 then 1 else if (mv_D_rings fm a0 a1) = 0 then 1 else 0
def mv_D_memM (fm : Nat → Int32) (a0 a1 : Int32) : Nat → Int32 := if (mv_D_isGroup a0) = 0 then fm else if (mv_D_isLand a1) = 0 then (if (mv_D_isGroup a1) = 0 then fm else if (((fm (a0 - 16).toNatClampNeg) >>> (a1 &&& 31)) &&& 1) = 1 then fm else if (mv_D_rings fm a0 a1) = 0 then (upd fm (a0 - 16).toNatClampNeg ((fm (a0 - 16).toNatClampNeg) ||| (1 <<< (a1 &&& 31)))) else fm) else if (((fm (a0 - 16).toNatClampNeg) >>> (a1 &&& 31)) &&& 1) = 1 then fm else if (mv_D_isGroup a1) = 0 then (upd fm (a0 - 16).toNatClampNeg ((fm (a0 - 16).toNatClampNeg) ||| (1 <<< (a1 &&& 31)))) else if (mv_D_rings fm a0 a1) = 0 then (upd fm (a0 - 16).toNatClampNeg ((fm (a0 - 16).toNatClampNeg) ||| (1 <<< (a1 &&& 31)))) else fm
set_option maxHeartbeats 4000000 in
set_option maxRecDepth 100000 in
theorem mc_D_member (l : Launch) (s0 : State) (dC : Nat → ClassId) (dI : Nat → Nat → Nat) (cI cR cL cZ : ClassId) (r : Nat → Nat) (th rw nw pb lc : Int32) (fm : Nat → Int32) (sz : Nat) (a0 : Int32) (a1 : Int32)  : Met l y_D_member [Cond.code y_D_member b_D_member 3 (some .boolean)] ({ frames := 2, cells := 0, slots := 0, locals := 46 }) (mr_PC s0 (dC, dI) [(cI, .int), (cR, .object "MeasureRows$Row"), (cL, .long), (cZ, .boolean)] [.ref (r 0), .int a0, .int a1] [((r 0), .inr (3, mf_D r th rw nw pb lc)), ((r 1), .inl (cI, 8, .inl fm))] sz) (va_Qi (fun rr u => rr = mv_D_member fm a0 a1 ∧ u = mv_D_memM fm a0 a1) (fun (u : Nat → Int32) t => mr_W (dC, dI) [(cI, .int), (cR, .object "MeasureRows$Row"), (cL, .long), (cZ, .boolean)] (va_A [((r 0), .inr (3, mf_D r th rw nw pb lc)), ((r 1), .inl (cI, 8, .inl fm))] sz) [((r 0), .inr (3, mf_D r 0 rw nw pb lc)), ((r 1), .inl (cI, 8, .inl u))] t) (va_A [((r 0), .inr (3, mf_D r th rw nw pb lc)), ((r 1), .inl (cI, 8, .inl fm))] sz)) 0 0 (va_A [((r 0), .inr (3, mf_D r th rw nw pb lc)), ((r 1), .inl (cI, 8, .inl fm))] sz) := by
  refine Met.ofW (cc := b_D_member) (maxL := 3) (ret := (some .boolean)) (by decide) rfl ?_
  intro p e s m args below meth c s₁ B hml hv
  obtain ⟨rfl, hsz, hB, hK, hP, hD0⟩ := hv
  subst hsz
  have hA0 := mr_A hB hD0
  have hD := hD0.self (sz := s.heap.size)
  generalize hAe : va_A [((r 0), .inr (3, mf_D r th rw nw pb lc)), ((r 1), .inl (cI, 8, .inl fm))] s.heap.size = A at hD hA0 ⊢
  have hA : ∀ q : Nat, s.heap.size ≤ q → A q := fun q h => by rw [← hAe]; exact Or.inr h
  have hS : va_S A s.heap s.heap [] := va_S.rf
  have hP : va_P (dC, dI) mr_cl [((r 0), .inr (3, mf_D r th rw nw pb lc)), ((r 1), .inl (cI, 8, .inl fm))] s.heap := hP
  have hBH := hB.at hS hA0
  have hx := B.exec
  have hb := B.bytes
  have hr := B.returns
  have hlocks := B.notSynchronized
  have hts : ∀ w ∈ lw_tbl, w.before [.ref (r 0), .int a0, .int a1].toArray s = true := hB.hts _
  have hown : s.vm.findClass "MeasureRowsModel" = some m.cls := findClass_of_methodNamed B.named
  have hl := lv_entry ([.ref (r 0), .int a0, .int a1]) (n := 3) (Nat.le_of_ble_eq_true rfl)
  rw [lg_entry_eq]
  generalize (lg_sl ([.ref (r 0), .int a0, .int a1]) ++ List.replicate (3 - (lg_sl ([.ref (r 0), .int a0, .int a1])).length) Slot.unset).toArray = ls at hl ⊢
  have hl : lv_has ls 3 [(0, .ref (r 0)), (1, .int a0), (2, .int a1)] := hl
  refine lv_aload_n hx hb d_D_member_0 rfl (lv_at hl 0 rfl) ?_
  refine lv_iconst (v := 0) hx hb d_D_member_1 (by decide) ?_
  refine va_put (D := (dC, dI)) (ci := 3) (v := .int 0) (ty := .int) (C := R_D) (T := T_D) (N := 19) hx hb hts ti_D t_D to_D tn_D hown hK hP hD hS 0 rfl rfl 0 (by decide) (hts (Cond.fieldLink "MeasureRowsModel" 53 "MeasureRowsModel" "thrown" "I") mw_295) (fun _ h9 => h9) rfl (by decide +kernel) rfl rfl (Nat.le_of_ble_eq_true rfl) d_D_member_2 (fun H locs hP hD hS => ?_)
  have hP : va_P (dC, dI) mr_cl [((r 0), .inr (3, mf_D r 0 rw nw pb lc)), ((r 1), .inl (cI, 8, .inl fm))] H := hP
  have hD : va_D A [((r 0), .inr (3, mf_D r 0 rw nw pb lc)), ((r 1), .inl (cI, 8, .inl fm))] := hD
  have hBH := hB.at hS hA0
  refine lv_iload_n hx hb d_D_member_5 rfl (lv_at hl 1 rfl) ?_
  refine vp_callSi (va_Run.run (va_runS (As := [.int a0]) (rest := []) ⟨hx, hb, hml, hown, hts⟩ (mc_D_isGroup l s0 a0) ⟨(mr_cB 1 (hts (Cond.code y_D_isGroup b_D_isGroup 1 (some .boolean)) mw_93) (hts (Cond.initialized y_D_isGroup.cls) mw_94) (hts (Cond.methodLink "MeasureRowsModel" 67 y_D_isGroup) mw_95) rfl rfl (by decide +kernel) ⟨Nat.le_of_ble_eq_true rfl, Nat.le_of_ble_eq_true rfl⟩), (hts (Cond.static y_D_isGroup) mw_96)⟩ (mr_pre0 hBH) rfl rfl hl.1 rfl (lv_room (Nat.le_of_ble_eq_true rfl)) d_D_member_6 ⟨Nat.le_of_ble_eq_true rfl, Nat.le_of_ble_eq_true rfl⟩)) (fun r_1 h_2 => ?_)
  subst h_2
  refine lv_if_eq (tgt := 59) hx hb d_D_member_9 (by decide) (fun c_3 => ?_) (fun c_3 => ?_)
  · refine lv_iconst (v := 0) hx hb d_D_member_59 (by decide) ?_
    have hP9 := hP.sub (ws' := [((r 0), .inr (3, mf_D r 0 rw nw pb lc)), ((r 1), .inl (cI, 8, .inl fm))]) [0, 1] rfl
    have hD9 := hD.sub (ws' := [((r 0), .inr (3, mf_D r 0 rw nw pb lc)), ((r 1), .inl (cI, 8, .inl fm))]) [0, 1] (by decide) rfl
    exact W.zret (v := 0) hx hb hr (mr_narz mr_b0) (fun t ht hW => ⟨⟨_, fm, rfl, ⟨by unfold mv_D_member; rw [if_pos c_3], by unfold mv_D_memM; rw [if_pos c_3]⟩, by rw [ht]; exact hP9, va_K.moved hW.alike hK, hD9⟩, hS.F ht⟩) hS.2.2 d_D_member_60
  · refine lv_iload_n hx hb d_D_member_12 rfl (lv_at hl 2 rfl) ?_
    refine vp_callSi (va_Run.run (va_runS (As := [.int a1]) (rest := []) ⟨hx, hb, hml, hown, hts⟩ (mc_D_isLand l s0 a1) ⟨(mr_cB 1 (hts (Cond.code y_D_isLand b_D_isLand 1 (some .boolean)) mw_301) (hts (Cond.initialized y_D_isLand.cls) mw_302) (hts (Cond.methodLink "MeasureRowsModel" 71 y_D_isLand) mw_303) rfl rfl (by decide +kernel) ⟨Nat.le_of_ble_eq_true rfl, Nat.le_of_ble_eq_true rfl⟩), (hts (Cond.static y_D_isLand) mw_304)⟩ (mr_pre0 hBH) rfl rfl hl.1 rfl (lv_room (Nat.le_of_ble_eq_true rfl)) d_D_member_13 ⟨Nat.le_of_ble_eq_true rfl, Nat.le_of_ble_eq_true rfl⟩)) (fun r_4 h_5 => ?_)
    subst h_5
    refine lv_if_ne (tgt := 26) hx hb d_D_member_16 (by decide) (fun c_6 => ?_) (fun c_6 => ?_)
    · refine lv_aload_n hx hb d_D_member_26 rfl (lv_at hl 0 rfl) ?_
      refine va_get (D := (dC, dI)) (ci := 3) (v := .ref (r 1)) (C := R_D) (T := T_D) (N := 19) hx hb hts ti_D hown hK hP 0 rfl rfl 1 (by decide) (hts (Cond.fieldLink "MeasureRowsModel" 7 "MeasureRowsModel" "members" "[I") mw_87) (fun _ h9 => h9) rfl d_D_member_27 ?_
      refine lv_iload_n hx hb d_D_member_30 rfl (lv_at hl 1 rfl) ?_
      refine lv_bipush (v := 16) hx hb d_D_member_31 (by decide) ?_
      refine lv_isub hx hb d_D_member_33 ?_
      refine va_iald (D := (dC, dI)) hx hb hK hP 1 0 rfl rfl (i := a0 - 16) (mr_gd c_3) d_D_member_34 ?_
      refine lv_iload_n hx hb d_D_member_35 rfl (lv_at hl 2 rfl) ?_
      refine lv_ishr hx hb d_D_member_36 ?_
      refine lv_iconst (v := 1) hx hb d_D_member_37 (by decide) ?_
      refine lv_iand hx hb d_D_member_38 ?_
      refine lv_iconst (v := 1) hx hb d_D_member_39 (by decide) ?_
      refine lv_icmp_eq (tgt := 59) hx hb d_D_member_40 (by decide) (fun c_7 => ?_) (fun c_7 => ?_)
      · refine lv_iconst (v := 0) hx hb d_D_member_59 (by decide) ?_
        have hP9 := hP.sub (ws' := [((r 0), .inr (3, mf_D r 0 rw nw pb lc)), ((r 1), .inl (cI, 8, .inl fm))]) [0, 1] rfl
        have hD9 := hD.sub (ws' := [((r 0), .inr (3, mf_D r 0 rw nw pb lc)), ((r 1), .inl (cI, 8, .inl fm))]) [0, 1] (by decide) rfl
        exact W.zret (v := 0) hx hb hr (mr_narz mr_b0) (fun t ht hW => ⟨⟨_, fm, rfl, ⟨by unfold mv_D_member; rw [if_neg c_3, if_neg c_6, if_pos c_7], by unfold mv_D_memM; rw [if_neg c_3, if_neg c_6, if_pos c_7]⟩, by rw [ht]; exact hP9, va_K.moved hW.alike hK, hD9⟩, hS.F ht⟩) hS.2.2 d_D_member_60
      · refine lv_iload_n hx hb d_D_member_43 rfl (lv_at hl 2 rfl) ?_
        refine vp_callSi (va_Run.run (va_runS (As := [.int a1]) (rest := []) ⟨hx, hb, hml, hown, hts⟩ (mc_D_isGroup l s0 a1) ⟨(mr_cB 1 (hts (Cond.code y_D_isGroup b_D_isGroup 1 (some .boolean)) mw_93) (hts (Cond.initialized y_D_isGroup.cls) mw_94) (hts (Cond.methodLink "MeasureRowsModel" 67 y_D_isGroup) mw_95) rfl rfl (by decide +kernel) ⟨Nat.le_of_ble_eq_true rfl, Nat.le_of_ble_eq_true rfl⟩), (hts (Cond.static y_D_isGroup) mw_96)⟩ (mr_pre0 hBH) rfl rfl hl.1 rfl (lv_room (Nat.le_of_ble_eq_true rfl)) d_D_member_44 ⟨Nat.le_of_ble_eq_true rfl, Nat.le_of_ble_eq_true rfl⟩)) (fun r_8 h_9 => ?_)
        subst h_9
        refine lv_if_eq (tgt := 61) hx hb d_D_member_47 (by decide) (fun c_10 => ?_) (fun c_10 => ?_)
        · refine lv_aload_n hx hb d_D_member_61 rfl (lv_at hl 0 rfl) ?_
          refine va_get (D := (dC, dI)) (ci := 3) (v := .ref (r 1)) (C := R_D) (T := T_D) (N := 19) hx hb hts ti_D hown hK hP 0 rfl rfl 1 (by decide) (hts (Cond.fieldLink "MeasureRowsModel" 7 "MeasureRowsModel" "members" "[I") mw_87) (fun _ h9 => h9) rfl d_D_member_62 ?_
          refine lv_iload_n hx hb d_D_member_65 rfl (lv_at hl 1 rfl) ?_
          refine lv_bipush (v := 16) hx hb d_D_member_66 (by decide) ?_
          refine lv_isub hx hb d_D_member_68 ?_
          refine lv_dup2_11 hx hb d_D_member_69 rfl rfl ?_
          refine va_iald (D := (dC, dI)) hx hb hK hP 1 0 rfl rfl (i := a0 - 16) (mr_gd c_3) d_D_member_70 ?_
          refine lv_iconst (v := 1) hx hb d_D_member_71 (by decide) ?_
          refine lv_iload_n hx hb d_D_member_72 rfl (lv_at hl 2 rfl) ?_
          refine lv_ishl hx hb d_D_member_73 ?_
          refine lv_ior hx hb d_D_member_74 ?_
          refine va_iast (D := (dC, dI)) hx hb hK hP hD hS 1 0 rfl rfl (i := a0 - 16) (mr_gd c_3) d_D_member_75 (fun H locs hP hD hS => ?_)
          have hP : va_P (dC, dI) mr_cl [((r 0), .inr (3, mf_D r 0 rw nw pb lc)), ((r 1), .inl (cI, 8, .inl (upd fm (a0 - 16).toNatClampNeg ((fm (a0 - 16).toNatClampNeg) ||| (1 <<< (a1 &&& 31))))))] H := hP
          have hD : va_D A [((r 0), .inr (3, mf_D r 0 rw nw pb lc)), ((r 1), .inl (cI, 8, .inl (upd fm (a0 - 16).toNatClampNeg ((fm (a0 - 16).toNatClampNeg) ||| (1 <<< (a1 &&& 31))))))] := hD
          have hBH := hB.at hS hA0
          refine lv_iconst (v := 1) hx hb d_D_member_76 (by decide) ?_
          have hP9 := hP.sub (ws' := [((r 0), .inr (3, mf_D r 0 rw nw pb lc)), ((r 1), .inl (cI, 8, .inl (upd fm (a0 - 16).toNatClampNeg ((fm (a0 - 16).toNatClampNeg) ||| (1 <<< (a1 &&& 31))))))]) [0, 1] rfl
          have hD9 := hD.sub (ws' := [((r 0), .inr (3, mf_D r 0 rw nw pb lc)), ((r 1), .inl (cI, 8, .inl (upd fm (a0 - 16).toNatClampNeg ((fm (a0 - 16).toNatClampNeg) ||| (1 <<< (a1 &&& 31))))))]) [0, 1] (by decide) rfl
          exact W.zret (v := 1) hx hb hr (mr_narz mr_b1) (fun t ht hW => ⟨⟨_, (upd fm (a0 - 16).toNatClampNeg ((fm (a0 - 16).toNatClampNeg) ||| (1 <<< (a1 &&& 31)))), rfl, ⟨by unfold mv_D_member; rw [if_neg c_3, if_neg c_6, if_neg c_7, if_pos c_10], by unfold mv_D_memM; rw [if_neg c_3, if_neg c_6, if_neg c_7, if_pos c_10]⟩, by rw [ht]; exact hP9, va_K.moved hW.alike hK, hD9⟩, hS.F ht⟩) hS.2.2 d_D_member_77
        · refine lv_aload_n hx hb d_D_member_50 rfl (lv_at hl 0 rfl) ?_
          refine lv_iload_n hx hb d_D_member_51 rfl (lv_at hl 1 rfl) ?_
          refine lv_iload_n hx hb d_D_member_52 rfl (lv_at hl 2 rfl) ?_
          refine vp_callSi (va_Run.run (va_runV (As := [.int a0, .int a1]) (rest := []) (C := R_D) ⟨hx, hb, hml, hown, hts⟩ (mc_D_rings l s0 dC dI cI cR cL cZ r 0 rw nw pb lc fm a0 a1 c_10) ⟨(mr_cB 2 (hts (Cond.code y_D_rings b_D_rings 3 (some .boolean)) mw_339) (hts (Cond.initialized y_D_rings.cls) mw_340) (hts (Cond.methodLink "MeasureRowsModel" 74 y_D_rings) mw_341) rfl rfl (by decide +kernel) ⟨Nat.le_of_ble_eq_true rfl, Nat.le_of_ble_eq_true rfl⟩), (hts (Cond.instanceMethod y_D_rings) mw_342), (hts (Cond.selects "MeasureRowsModel" y_D_rings y_D_rings) mw_343)⟩ (mr_preV hBH hK (hP.sub (ws' := [((r 0), .inr (3, mf_D r 0 rw nw pb lc)), ((r 1), .inl (cI, 8, .inl fm))]) [0, 1] rfl) (ci := 3) (q0 := 0) rfl rfl) rfl rfl hl.1 rfl (lv_room (Nat.le_of_ble_eq_true rfl)) d_D_member_53 ⟨Nat.le_of_ble_eq_true rfl, Nat.le_of_ble_eq_true rfl⟩)) (fun r_11 h_12 => ?_)
          subst h_12
          refine lv_if_eq (tgt := 61) hx hb d_D_member_56 (by decide) (fun c_13 => ?_) (fun c_13 => ?_)
          · refine lv_aload_n hx hb d_D_member_61 rfl (lv_at hl 0 rfl) ?_
            refine va_get (D := (dC, dI)) (ci := 3) (v := .ref (r 1)) (C := R_D) (T := T_D) (N := 19) hx hb hts ti_D hown hK hP 0 rfl rfl 1 (by decide) (hts (Cond.fieldLink "MeasureRowsModel" 7 "MeasureRowsModel" "members" "[I") mw_87) (fun _ h9 => h9) rfl d_D_member_62 ?_
            refine lv_iload_n hx hb d_D_member_65 rfl (lv_at hl 1 rfl) ?_
            refine lv_bipush (v := 16) hx hb d_D_member_66 (by decide) ?_
            refine lv_isub hx hb d_D_member_68 ?_
            refine lv_dup2_11 hx hb d_D_member_69 rfl rfl ?_
            refine va_iald (D := (dC, dI)) hx hb hK hP 1 0 rfl rfl (i := a0 - 16) (mr_gd c_3) d_D_member_70 ?_
            refine lv_iconst (v := 1) hx hb d_D_member_71 (by decide) ?_
            refine lv_iload_n hx hb d_D_member_72 rfl (lv_at hl 2 rfl) ?_
            refine lv_ishl hx hb d_D_member_73 ?_
            refine lv_ior hx hb d_D_member_74 ?_
            refine va_iast (D := (dC, dI)) hx hb hK hP hD hS 1 0 rfl rfl (i := a0 - 16) (mr_gd c_3) d_D_member_75 (fun H locs hP hD hS => ?_)
            have hP : va_P (dC, dI) mr_cl [((r 0), .inr (3, mf_D r 0 rw nw pb lc)), ((r 1), .inl (cI, 8, .inl (upd fm (a0 - 16).toNatClampNeg ((fm (a0 - 16).toNatClampNeg) ||| (1 <<< (a1 &&& 31))))))] H := hP
            have hD : va_D A [((r 0), .inr (3, mf_D r 0 rw nw pb lc)), ((r 1), .inl (cI, 8, .inl (upd fm (a0 - 16).toNatClampNeg ((fm (a0 - 16).toNatClampNeg) ||| (1 <<< (a1 &&& 31))))))] := hD
            have hBH := hB.at hS hA0
            refine lv_iconst (v := 1) hx hb d_D_member_76 (by decide) ?_
            have hP9 := hP.sub (ws' := [((r 0), .inr (3, mf_D r 0 rw nw pb lc)), ((r 1), .inl (cI, 8, .inl (upd fm (a0 - 16).toNatClampNeg ((fm (a0 - 16).toNatClampNeg) ||| (1 <<< (a1 &&& 31))))))]) [0, 1] rfl
            have hD9 := hD.sub (ws' := [((r 0), .inr (3, mf_D r 0 rw nw pb lc)), ((r 1), .inl (cI, 8, .inl (upd fm (a0 - 16).toNatClampNeg ((fm (a0 - 16).toNatClampNeg) ||| (1 <<< (a1 &&& 31))))))]) [0, 1] (by decide) rfl
            exact W.zret (v := 1) hx hb hr (mr_narz mr_b1) (fun t ht hW => ⟨⟨_, (upd fm (a0 - 16).toNatClampNeg ((fm (a0 - 16).toNatClampNeg) ||| (1 <<< (a1 &&& 31)))), rfl, ⟨by unfold mv_D_member; rw [if_neg c_3, if_neg c_6, if_neg c_7, if_neg c_10, if_pos c_13], by unfold mv_D_memM; rw [if_neg c_3, if_neg c_6, if_neg c_7, if_neg c_10, if_pos c_13]⟩, by rw [ht]; exact hP9, va_K.moved hW.alike hK, hD9⟩, hS.F ht⟩) hS.2.2 d_D_member_77
          · refine lv_iconst (v := 0) hx hb d_D_member_59 (by decide) ?_
            have hP9 := hP.sub (ws' := [((r 0), .inr (3, mf_D r 0 rw nw pb lc)), ((r 1), .inl (cI, 8, .inl fm))]) [0, 1] rfl
            have hD9 := hD.sub (ws' := [((r 0), .inr (3, mf_D r 0 rw nw pb lc)), ((r 1), .inl (cI, 8, .inl fm))]) [0, 1] (by decide) rfl
            exact W.zret (v := 0) hx hb hr (mr_narz mr_b0) (fun t ht hW => ⟨⟨_, fm, rfl, ⟨by unfold mv_D_member; rw [if_neg c_3, if_neg c_6, if_neg c_7, if_neg c_10, if_neg c_13], by unfold mv_D_memM; rw [if_neg c_3, if_neg c_6, if_neg c_7, if_neg c_10, if_neg c_13]⟩, by rw [ht]; exact hP9, va_K.moved hW.alike hK, hD9⟩, hS.F ht⟩) hS.2.2 d_D_member_60
    · refine lv_iload_n hx hb d_D_member_19 rfl (lv_at hl 2 rfl) ?_
      refine vp_callSi (va_Run.run (va_runS (As := [.int a1]) (rest := []) ⟨hx, hb, hml, hown, hts⟩ (mc_D_isGroup l s0 a1) ⟨(mr_cB 1 (hts (Cond.code y_D_isGroup b_D_isGroup 1 (some .boolean)) mw_93) (hts (Cond.initialized y_D_isGroup.cls) mw_94) (hts (Cond.methodLink "MeasureRowsModel" 67 y_D_isGroup) mw_95) rfl rfl (by decide +kernel) ⟨Nat.le_of_ble_eq_true rfl, Nat.le_of_ble_eq_true rfl⟩), (hts (Cond.static y_D_isGroup) mw_96)⟩ (mr_pre0 hBH) rfl rfl hl.1 rfl (lv_room (Nat.le_of_ble_eq_true rfl)) d_D_member_20 ⟨Nat.le_of_ble_eq_true rfl, Nat.le_of_ble_eq_true rfl⟩)) (fun r_14 h_15 => ?_)
      subst h_15
      refine lv_if_eq (tgt := 59) hx hb d_D_member_23 (by decide) (fun c_16 => ?_) (fun c_16 => ?_)
      · refine lv_iconst (v := 0) hx hb d_D_member_59 (by decide) ?_
        have hP9 := hP.sub (ws' := [((r 0), .inr (3, mf_D r 0 rw nw pb lc)), ((r 1), .inl (cI, 8, .inl fm))]) [0, 1] rfl
        have hD9 := hD.sub (ws' := [((r 0), .inr (3, mf_D r 0 rw nw pb lc)), ((r 1), .inl (cI, 8, .inl fm))]) [0, 1] (by decide) rfl
        exact W.zret (v := 0) hx hb hr (mr_narz mr_b0) (fun t ht hW => ⟨⟨_, fm, rfl, ⟨by unfold mv_D_member; rw [if_neg c_3, if_pos c_6, if_pos c_16], by unfold mv_D_memM; rw [if_neg c_3, if_pos c_6, if_pos c_16]⟩, by rw [ht]; exact hP9, va_K.moved hW.alike hK, hD9⟩, hS.F ht⟩) hS.2.2 d_D_member_60
      · refine lv_aload_n hx hb d_D_member_26 rfl (lv_at hl 0 rfl) ?_
        refine va_get (D := (dC, dI)) (ci := 3) (v := .ref (r 1)) (C := R_D) (T := T_D) (N := 19) hx hb hts ti_D hown hK hP 0 rfl rfl 1 (by decide) (hts (Cond.fieldLink "MeasureRowsModel" 7 "MeasureRowsModel" "members" "[I") mw_87) (fun _ h9 => h9) rfl d_D_member_27 ?_
        refine lv_iload_n hx hb d_D_member_30 rfl (lv_at hl 1 rfl) ?_
        refine lv_bipush (v := 16) hx hb d_D_member_31 (by decide) ?_
        refine lv_isub hx hb d_D_member_33 ?_
        refine va_iald (D := (dC, dI)) hx hb hK hP 1 0 rfl rfl (i := a0 - 16) (mr_gd c_3) d_D_member_34 ?_
        refine lv_iload_n hx hb d_D_member_35 rfl (lv_at hl 2 rfl) ?_
        refine lv_ishr hx hb d_D_member_36 ?_
        refine lv_iconst (v := 1) hx hb d_D_member_37 (by decide) ?_
        refine lv_iand hx hb d_D_member_38 ?_
        refine lv_iconst (v := 1) hx hb d_D_member_39 (by decide) ?_
        refine lv_icmp_eq (tgt := 59) hx hb d_D_member_40 (by decide) (fun c_17 => ?_) (fun c_17 => ?_)
        · refine lv_iconst (v := 0) hx hb d_D_member_59 (by decide) ?_
          have hP9 := hP.sub (ws' := [((r 0), .inr (3, mf_D r 0 rw nw pb lc)), ((r 1), .inl (cI, 8, .inl fm))]) [0, 1] rfl
          have hD9 := hD.sub (ws' := [((r 0), .inr (3, mf_D r 0 rw nw pb lc)), ((r 1), .inl (cI, 8, .inl fm))]) [0, 1] (by decide) rfl
          exact W.zret (v := 0) hx hb hr (mr_narz mr_b0) (fun t ht hW => ⟨⟨_, fm, rfl, ⟨by unfold mv_D_member; rw [if_neg c_3, if_pos c_6, if_neg c_16, if_pos c_17], by unfold mv_D_memM; rw [if_neg c_3, if_pos c_6, if_neg c_16, if_pos c_17]⟩, by rw [ht]; exact hP9, va_K.moved hW.alike hK, hD9⟩, hS.F ht⟩) hS.2.2 d_D_member_60
        · refine lv_iload_n hx hb d_D_member_43 rfl (lv_at hl 2 rfl) ?_
          refine vp_callSi (va_Run.run (va_runS (As := [.int a1]) (rest := []) ⟨hx, hb, hml, hown, hts⟩ (mc_D_isGroup l s0 a1) ⟨(mr_cB 1 (hts (Cond.code y_D_isGroup b_D_isGroup 1 (some .boolean)) mw_93) (hts (Cond.initialized y_D_isGroup.cls) mw_94) (hts (Cond.methodLink "MeasureRowsModel" 67 y_D_isGroup) mw_95) rfl rfl (by decide +kernel) ⟨Nat.le_of_ble_eq_true rfl, Nat.le_of_ble_eq_true rfl⟩), (hts (Cond.static y_D_isGroup) mw_96)⟩ (mr_pre0 hBH) rfl rfl hl.1 rfl (lv_room (Nat.le_of_ble_eq_true rfl)) d_D_member_44 ⟨Nat.le_of_ble_eq_true rfl, Nat.le_of_ble_eq_true rfl⟩)) (fun r_18 h_19 => ?_)
          subst h_19
          refine lv_if_eq (tgt := 61) hx hb d_D_member_47 (by decide) (fun c_20 => absurd c_20 c_16) (fun _ => ?_)
          refine lv_aload_n hx hb d_D_member_50 rfl (lv_at hl 0 rfl) ?_
          refine lv_iload_n hx hb d_D_member_51 rfl (lv_at hl 1 rfl) ?_
          refine lv_iload_n hx hb d_D_member_52 rfl (lv_at hl 2 rfl) ?_
          refine vp_callSi (va_Run.run (va_runV (As := [.int a0, .int a1]) (rest := []) (C := R_D) ⟨hx, hb, hml, hown, hts⟩ (mc_D_rings l s0 dC dI cI cR cL cZ r 0 rw nw pb lc fm a0 a1 c_16) ⟨(mr_cB 2 (hts (Cond.code y_D_rings b_D_rings 3 (some .boolean)) mw_339) (hts (Cond.initialized y_D_rings.cls) mw_340) (hts (Cond.methodLink "MeasureRowsModel" 74 y_D_rings) mw_341) rfl rfl (by decide +kernel) ⟨Nat.le_of_ble_eq_true rfl, Nat.le_of_ble_eq_true rfl⟩), (hts (Cond.instanceMethod y_D_rings) mw_342), (hts (Cond.selects "MeasureRowsModel" y_D_rings y_D_rings) mw_343)⟩ (mr_preV hBH hK (hP.sub (ws' := [((r 0), .inr (3, mf_D r 0 rw nw pb lc)), ((r 1), .inl (cI, 8, .inl fm))]) [0, 1] rfl) (ci := 3) (q0 := 0) rfl rfl) rfl rfl hl.1 rfl (lv_room (Nat.le_of_ble_eq_true rfl)) d_D_member_53 ⟨Nat.le_of_ble_eq_true rfl, Nat.le_of_ble_eq_true rfl⟩)) (fun r_21 h_22 => ?_)
          subst h_22
          refine lv_if_eq (tgt := 61) hx hb d_D_member_56 (by decide) (fun c_23 => ?_) (fun c_23 => ?_)
          · refine lv_aload_n hx hb d_D_member_61 rfl (lv_at hl 0 rfl) ?_
            refine va_get (D := (dC, dI)) (ci := 3) (v := .ref (r 1)) (C := R_D) (T := T_D) (N := 19) hx hb hts ti_D hown hK hP 0 rfl rfl 1 (by decide) (hts (Cond.fieldLink "MeasureRowsModel" 7 "MeasureRowsModel" "members" "[I") mw_87) (fun _ h9 => h9) rfl d_D_member_62 ?_
            refine lv_iload_n hx hb d_D_member_65 rfl (lv_at hl 1 rfl) ?_
            refine lv_bipush (v := 16) hx hb d_D_member_66 (by decide) ?_
            refine lv_isub hx hb d_D_member_68 ?_
            refine lv_dup2_11 hx hb d_D_member_69 rfl rfl ?_
            refine va_iald (D := (dC, dI)) hx hb hK hP 1 0 rfl rfl (i := a0 - 16) (mr_gd c_3) d_D_member_70 ?_
            refine lv_iconst (v := 1) hx hb d_D_member_71 (by decide) ?_
            refine lv_iload_n hx hb d_D_member_72 rfl (lv_at hl 2 rfl) ?_
            refine lv_ishl hx hb d_D_member_73 ?_
            refine lv_ior hx hb d_D_member_74 ?_
            refine va_iast (D := (dC, dI)) hx hb hK hP hD hS 1 0 rfl rfl (i := a0 - 16) (mr_gd c_3) d_D_member_75 (fun H locs hP hD hS => ?_)
            have hP : va_P (dC, dI) mr_cl [((r 0), .inr (3, mf_D r 0 rw nw pb lc)), ((r 1), .inl (cI, 8, .inl (upd fm (a0 - 16).toNatClampNeg ((fm (a0 - 16).toNatClampNeg) ||| (1 <<< (a1 &&& 31))))))] H := hP
            have hD : va_D A [((r 0), .inr (3, mf_D r 0 rw nw pb lc)), ((r 1), .inl (cI, 8, .inl (upd fm (a0 - 16).toNatClampNeg ((fm (a0 - 16).toNatClampNeg) ||| (1 <<< (a1 &&& 31))))))] := hD
            have hBH := hB.at hS hA0
            refine lv_iconst (v := 1) hx hb d_D_member_76 (by decide) ?_
            have hP9 := hP.sub (ws' := [((r 0), .inr (3, mf_D r 0 rw nw pb lc)), ((r 1), .inl (cI, 8, .inl (upd fm (a0 - 16).toNatClampNeg ((fm (a0 - 16).toNatClampNeg) ||| (1 <<< (a1 &&& 31))))))]) [0, 1] rfl
            have hD9 := hD.sub (ws' := [((r 0), .inr (3, mf_D r 0 rw nw pb lc)), ((r 1), .inl (cI, 8, .inl (upd fm (a0 - 16).toNatClampNeg ((fm (a0 - 16).toNatClampNeg) ||| (1 <<< (a1 &&& 31))))))]) [0, 1] (by decide) rfl
            exact W.zret (v := 1) hx hb hr (mr_narz mr_b1) (fun t ht hW => ⟨⟨_, (upd fm (a0 - 16).toNatClampNeg ((fm (a0 - 16).toNatClampNeg) ||| (1 <<< (a1 &&& 31)))), rfl, ⟨by unfold mv_D_member; rw [if_neg c_3, if_pos c_6, if_neg c_16, if_neg c_17, if_pos c_23], by unfold mv_D_memM; rw [if_neg c_3, if_pos c_6, if_neg c_16, if_neg c_17, if_pos c_23]⟩, by rw [ht]; exact hP9, va_K.moved hW.alike hK, hD9⟩, hS.F ht⟩) hS.2.2 d_D_member_77
          · refine lv_iconst (v := 0) hx hb d_D_member_59 (by decide) ?_
            have hP9 := hP.sub (ws' := [((r 0), .inr (3, mf_D r 0 rw nw pb lc)), ((r 1), .inl (cI, 8, .inl fm))]) [0, 1] rfl
            have hD9 := hD.sub (ws' := [((r 0), .inr (3, mf_D r 0 rw nw pb lc)), ((r 1), .inl (cI, 8, .inl fm))]) [0, 1] (by decide) rfl
            exact W.zret (v := 0) hx hb hr (mr_narz mr_b0) (fun t ht hW => ⟨⟨_, fm, rfl, ⟨by unfold mv_D_member; rw [if_neg c_3, if_pos c_6, if_neg c_16, if_neg c_17, if_neg c_23], by unfold mv_D_memM; rw [if_neg c_3, if_pos c_6, if_neg c_16, if_neg c_17, if_neg c_23]⟩, by rw [ht]; exact hP9, va_K.moved hW.alike hK, hD9⟩, hS.F ht⟩) hS.2.2 d_D_member_60
set_option maxHeartbeats 4000000 in
set_option maxRecDepth 100000 in
theorem mc_D_init (l : Launch) (s0 : State) (dC : Nat → ClassId) (dI : Nat → Nat → Nat) (cI cR cL cZ : ClassId) (q : Nat) (sz : Nat)   : Met l y_D_init [Cond.code y_D_init b_D_init 1 none] ({ frames := 1, cells := 14, slots := 2194, locals := 20 }) (mr_PC s0 (dC, dI) [(cI, .int), (cR, .object "MeasureRows$Row"), (cL, .long), (cZ, .boolean)] [.ref q] [(q, .inr (3, [.int 0, .null, .int 0, .null, .null, .null, .null, .null, .null, .null, .null, .null, .null, .null, .int 0, .int 0, .null, .int 0, .null]))] sz) (va_Qv (fun u => u 0 = q) (fun (u : Nat → Nat) t => mr_W (dC, dI) [(cI, .int), (cR, .object "MeasureRows$Row"), (cL, .long), (cZ, .boolean)] (va_A [(q, .inr (3, [.int 0, .null, .int 0, .null, .null, .null, .null, .null, .null, .null, .null, .null, .null, .null, .int 0, .int 0, .null, .int 0, .null]))] sz) [((u 0), .inr (3, mf_D u 0 0 0 0 0)), ((u 1), .inl (cI, 8, .inl (fun _ => 0))), ((u 3), .inl (cI, 81, .inl (fun _ => 0))), ((u 4), .inl (cI, 81, .inl (fun _ => 0))), ((u 5), .inl (cI, 81, .inl (fun _ => 0))), ((u 6), .inl (cI, 81, .inl (fun _ => 0))), ((u 7), .inl (cI, 81, .inl (fun _ => 0))), ((u 8), .inl (cI, 81, .inl (fun _ => 0))), ((u 9), .inl (cI, 81, .inl (fun _ => 0))), ((u 10), .inl (cI, 81, .inl (fun _ => 0))), ((u 11), .inl (cI, 81, .inl (fun _ => 0))), ((u 12), .inl (cI, 648, .inl (fun _ => 0))), ((u 13), .inl (cI, 648, .inl (fun _ => 0))), ((u 16), .inl (cI, 80, .inl (fun _ => 0))), ((u 18), .inl (cZ, 81, .inl (fun _ => 0)))] t) (va_A [(q, .inr (3, [.int 0, .null, .int 0, .null, .null, .null, .null, .null, .null, .null, .null, .null, .null, .null, .int 0, .int 0, .null, .int 0, .null]))] sz)) 14 2194 (va_A [(q, .inr (3, [.int 0, .null, .int 0, .null, .null, .null, .null, .null, .null, .null, .null, .null, .null, .null, .int 0, .int 0, .null, .int 0, .null]))] sz) := by
  refine Met.ofW (cc := b_D_init) (maxL := 1) (ret := none) (by decide) rfl ?_
  intro p e s m args below meth c s₁ B hml hv
  obtain ⟨rfl, hsz, hB, hK, hP, hD0⟩ := hv
  subst hsz
  have hA0 := mr_A hB hD0
  have hD := hD0.self (sz := s.heap.size)
  generalize hAe : va_A [(q, .inr (3, [.int 0, .null, .int 0, .null, .null, .null, .null, .null, .null, .null, .null, .null, .null, .null, .int 0, .int 0, .null, .int 0, .null]))] s.heap.size = A at hD hA0 ⊢
  have hA : ∀ q : Nat, s.heap.size ≤ q → A q := fun q h => by rw [← hAe]; exact Or.inr h
  have hS : va_S A s.heap s.heap [] := va_S.rf
  have hP : va_P (dC, dI) mr_cl [(q, .inr (3, [.int 0, .null, .int 0, .null, .null, .null, .null, .null, .null, .null, .null, .null, .null, .null, .int 0, .int 0, .null, .int 0, .null]))] s.heap := hP
  have hBH := hB.at hS hA0
  have hin : meth.name = "<init>" := (name_of_methodNamed B.named B.method).1
  have hx := B.exec
  have hb := B.bytes
  have hr := B.returns
  have hlocks := B.notSynchronized
  have hts : ∀ w ∈ lw_tbl, w.before [.ref q].toArray s = true := hB.hts _
  have hown : s.vm.findClass "MeasureRowsModel" = some m.cls := findClass_of_methodNamed B.named
  have hl := lv_entry ([.ref q]) (n := 1) (Nat.le_of_ble_eq_true rfl)
  rw [lg_entry_eq]
  generalize (lg_sl ([.ref q]) ++ List.replicate (1 - (lg_sl ([.ref q])).length) Slot.unset).toArray = ls at hl ⊢
  have hl : lv_has ls 1 [(0, .ref q)] := hl
  refine lv_aload_n hx hb d_D_init_0 rfl (lv_at hl 0 rfl) ?_
  refine W.objInit hx hb hown (hts (Cond.methodLink "MeasureRowsModel" 1 objectInit) mw_344) (hts (Cond.instanceMethod objectInit) mw_41) (hts (Cond.code objectInit ⟨#[0xb1]⟩ 1 none) mw_42) rfl (by rw [hml]; exact hl.1) rfl d_D_init_1 (Nat.le_of_ble_eq_true rfl) (Nat.le_of_ble_eq_true rfl) ?_
  refine W.eq (g2 := F0 m 4 ls []) rfl ?_
  refine lv_aload_n hx hb d_D_init_4 rfl (lv_at hl 0 rfl) ?_
  refine lv_bipush (v := 8) hx hb d_D_init_5 (by decide) ?_
  refine va_newa (atype := .int) hx hb (hts (Cond.arrayClass .int) mw_43) (ty := .int) rfl hK hP hD hS hA (n := 8) (N' := 8) (a0 := (8, .inl (fun _ => 0))) (fun _ => rfl) (by decide) (by decide) (by decide) (Nat.le_of_ble_eq_true rfl) (Nat.le_of_ble_eq_true rfl) d_D_init_7 (fun q_1 cA_2 H hK1 hP hD hS => ?_)
  rw [mr_sameI hK1] at hP hD
  clear hK1
  have hP : va_P (dC, dI) mr_cl [(q, .inr (3, [.int 0, .null, .int 0, .null, .null, .null, .null, .null, .null, .null, .null, .null, .null, .null, .int 0, .int 0, .null, .int 0, .null])), (q_1, .inl (cI, 8, .inl (fun _ => 0)))] H := hP
  have hD : va_D A [(q, .inr (3, [.int 0, .null, .int 0, .null, .null, .null, .null, .null, .null, .null, .null, .null, .null, .null, .int 0, .int 0, .null, .int 0, .null])), (q_1, .inl (cI, 8, .inl (fun _ => 0)))] := hD
  have hBH := hB.at hS hA0
  refine W.widen (k := 1) (n := 8) (by omega) (by omega) ?_
  refine va_putF (D := (dC, dI)) (ci := 3) (v := .ref q_1) (ty := (.array .int)) (C := R_D) (T := T_D) (N := 19) hx hb hts ti_D t_D to_D tn_D hown hK hP hD hS 0 rfl rfl 1 (by decide) (hts (Cond.fieldLink "MeasureRowsModel" 7 "MeasureRowsModel" "members" "[I") mw_87) (fun _ h9 => h9) rfl hin rfl (by decide +kernel) rfl rfl (Nat.le_of_ble_eq_true rfl) d_D_init_9 (fun H locs hP hD hS => ?_)
  have hP : va_P (dC, dI) mr_cl [(q, .inr (3, [.int 0, .ref q_1, .int 0, .null, .null, .null, .null, .null, .null, .null, .null, .null, .null, .null, .int 0, .int 0, .null, .int 0, .null])), (q_1, .inl (cI, 8, .inl (fun _ => 0)))] H := hP
  have hD : va_D A [(q, .inr (3, [.int 0, .ref q_1, .int 0, .null, .null, .null, .null, .null, .null, .null, .null, .null, .null, .null, .int 0, .int 0, .null, .int 0, .null])), (q_1, .inl (cI, 8, .inl (fun _ => 0)))] := hD
  have hBH := hB.at hS hA0
  refine lv_aload_n hx hb d_D_init_12 rfl (lv_at hl 0 rfl) ?_
  refine lv_bipush (v := 81) hx hb d_D_init_13 (by decide) ?_
  refine va_newa (atype := .int) hx hb (hts (Cond.arrayClass .int) mw_43) (ty := .int) rfl hK hP hD hS hA (n := 81) (N' := 81) (a0 := (81, .inl (fun _ => 0))) (fun _ => rfl) (by decide) (by decide) (by decide) (Nat.le_of_ble_eq_true rfl) (Nat.le_of_ble_eq_true rfl) d_D_init_15 (fun q_3 cA_4 H hK1 hP hD hS => ?_)
  rw [mr_sameI hK1] at hP hD
  clear hK1
  have hP : va_P (dC, dI) mr_cl [(q, .inr (3, [.int 0, .ref q_1, .int 0, .null, .null, .null, .null, .null, .null, .null, .null, .null, .null, .null, .int 0, .int 0, .null, .int 0, .null])), (q_1, .inl (cI, 8, .inl (fun _ => 0))), (q_3, .inl (cI, 81, .inl (fun _ => 0)))] H := hP
  have hD : va_D A [(q, .inr (3, [.int 0, .ref q_1, .int 0, .null, .null, .null, .null, .null, .null, .null, .null, .null, .null, .null, .int 0, .int 0, .null, .int 0, .null])), (q_1, .inl (cI, 8, .inl (fun _ => 0))), (q_3, .inl (cI, 81, .inl (fun _ => 0)))] := hD
  have hBH := hB.at hS hA0
  refine W.widen (k := 2) (n := 89) (by omega) (by omega) ?_
  refine va_putF (D := (dC, dI)) (ci := 3) (v := .ref q_3) (ty := (.array .int)) (C := R_D) (T := T_D) (N := 19) hx hb hts ti_D t_D to_D tn_D hown hK hP hD hS 0 rfl rfl 3 (by decide) (hts (Cond.fieldLink "MeasureRowsModel" 13 "MeasureRowsModel" "code" "[I") mw_269) (fun _ h9 => h9) rfl hin rfl (by decide +kernel) rfl rfl (Nat.le_of_ble_eq_true rfl) d_D_init_17 (fun H locs hP hD hS => ?_)
  have hP : va_P (dC, dI) mr_cl [(q, .inr (3, [.int 0, .ref q_1, .int 0, .ref q_3, .null, .null, .null, .null, .null, .null, .null, .null, .null, .null, .int 0, .int 0, .null, .int 0, .null])), (q_1, .inl (cI, 8, .inl (fun _ => 0))), (q_3, .inl (cI, 81, .inl (fun _ => 0)))] H := hP
  have hD : va_D A [(q, .inr (3, [.int 0, .ref q_1, .int 0, .ref q_3, .null, .null, .null, .null, .null, .null, .null, .null, .null, .null, .int 0, .int 0, .null, .int 0, .null])), (q_1, .inl (cI, 8, .inl (fun _ => 0))), (q_3, .inl (cI, 81, .inl (fun _ => 0)))] := hD
  have hBH := hB.at hS hA0
  refine lv_aload_n hx hb d_D_init_20 rfl (lv_at hl 0 rfl) ?_
  refine lv_bipush (v := 81) hx hb d_D_init_21 (by decide) ?_
  refine va_newa (atype := .int) hx hb (hts (Cond.arrayClass .int) mw_43) (ty := .int) rfl hK hP hD hS hA (n := 81) (N' := 81) (a0 := (81, .inl (fun _ => 0))) (fun _ => rfl) (by decide) (by decide) (by decide) (Nat.le_of_ble_eq_true rfl) (Nat.le_of_ble_eq_true rfl) d_D_init_23 (fun q_5 cA_6 H hK1 hP hD hS => ?_)
  rw [mr_sameI hK1] at hP hD
  clear hK1
  have hP : va_P (dC, dI) mr_cl [(q, .inr (3, [.int 0, .ref q_1, .int 0, .ref q_3, .null, .null, .null, .null, .null, .null, .null, .null, .null, .null, .int 0, .int 0, .null, .int 0, .null])), (q_1, .inl (cI, 8, .inl (fun _ => 0))), (q_3, .inl (cI, 81, .inl (fun _ => 0))), (q_5, .inl (cI, 81, .inl (fun _ => 0)))] H := hP
  have hD : va_D A [(q, .inr (3, [.int 0, .ref q_1, .int 0, .ref q_3, .null, .null, .null, .null, .null, .null, .null, .null, .null, .null, .int 0, .int 0, .null, .int 0, .null])), (q_1, .inl (cI, 8, .inl (fun _ => 0))), (q_3, .inl (cI, 81, .inl (fun _ => 0))), (q_5, .inl (cI, 81, .inl (fun _ => 0)))] := hD
  have hBH := hB.at hS hA0
  refine W.widen (k := 3) (n := 170) (by omega) (by omega) ?_
  refine va_putF (D := (dC, dI)) (ci := 3) (v := .ref q_5) (ty := (.array .int)) (C := R_D) (T := T_D) (N := 19) hx hb hts ti_D t_D to_D tn_D hown hK hP hD hS 0 rfl rfl 4 (by decide) (hts (Cond.fieldLink "MeasureRowsModel" 16 "MeasureRowsModel" "land" "[I") mw_270) (fun _ h9 => h9) rfl hin rfl (by decide +kernel) rfl rfl (Nat.le_of_ble_eq_true rfl) d_D_init_25 (fun H locs hP hD hS => ?_)
  have hP : va_P (dC, dI) mr_cl [(q, .inr (3, [.int 0, .ref q_1, .int 0, .ref q_3, .ref q_5, .null, .null, .null, .null, .null, .null, .null, .null, .null, .int 0, .int 0, .null, .int 0, .null])), (q_1, .inl (cI, 8, .inl (fun _ => 0))), (q_3, .inl (cI, 81, .inl (fun _ => 0))), (q_5, .inl (cI, 81, .inl (fun _ => 0)))] H := hP
  have hD : va_D A [(q, .inr (3, [.int 0, .ref q_1, .int 0, .ref q_3, .ref q_5, .null, .null, .null, .null, .null, .null, .null, .null, .null, .int 0, .int 0, .null, .int 0, .null])), (q_1, .inl (cI, 8, .inl (fun _ => 0))), (q_3, .inl (cI, 81, .inl (fun _ => 0))), (q_5, .inl (cI, 81, .inl (fun _ => 0)))] := hD
  have hBH := hB.at hS hA0
  refine lv_aload_n hx hb d_D_init_28 rfl (lv_at hl 0 rfl) ?_
  refine lv_bipush (v := 81) hx hb d_D_init_29 (by decide) ?_
  refine va_newa (atype := .int) hx hb (hts (Cond.arrayClass .int) mw_43) (ty := .int) rfl hK hP hD hS hA (n := 81) (N' := 81) (a0 := (81, .inl (fun _ => 0))) (fun _ => rfl) (by decide) (by decide) (by decide) (Nat.le_of_ble_eq_true rfl) (Nat.le_of_ble_eq_true rfl) d_D_init_31 (fun q_7 cA_8 H hK1 hP hD hS => ?_)
  rw [mr_sameI hK1] at hP hD
  clear hK1
  have hP : va_P (dC, dI) mr_cl [(q, .inr (3, [.int 0, .ref q_1, .int 0, .ref q_3, .ref q_5, .null, .null, .null, .null, .null, .null, .null, .null, .null, .int 0, .int 0, .null, .int 0, .null])), (q_1, .inl (cI, 8, .inl (fun _ => 0))), (q_3, .inl (cI, 81, .inl (fun _ => 0))), (q_5, .inl (cI, 81, .inl (fun _ => 0))), (q_7, .inl (cI, 81, .inl (fun _ => 0)))] H := hP
  have hD : va_D A [(q, .inr (3, [.int 0, .ref q_1, .int 0, .ref q_3, .ref q_5, .null, .null, .null, .null, .null, .null, .null, .null, .null, .int 0, .int 0, .null, .int 0, .null])), (q_1, .inl (cI, 8, .inl (fun _ => 0))), (q_3, .inl (cI, 81, .inl (fun _ => 0))), (q_5, .inl (cI, 81, .inl (fun _ => 0))), (q_7, .inl (cI, 81, .inl (fun _ => 0)))] := hD
  have hBH := hB.at hS hA0
  refine W.widen (k := 4) (n := 251) (by omega) (by omega) ?_
  refine va_putF (D := (dC, dI)) (ci := 3) (v := .ref q_7) (ty := (.array .int)) (C := R_D) (T := T_D) (N := 19) hx hb hts ti_D t_D to_D tn_D hown hK hP hD hS 0 rfl rfl 5 (by decide) (hts (Cond.fieldLink "MeasureRowsModel" 19 "MeasureRowsModel" "first" "[I") mw_263) (fun _ h9 => h9) rfl hin rfl (by decide +kernel) rfl rfl (Nat.le_of_ble_eq_true rfl) d_D_init_33 (fun H locs hP hD hS => ?_)
  have hP : va_P (dC, dI) mr_cl [(q, .inr (3, [.int 0, .ref q_1, .int 0, .ref q_3, .ref q_5, .ref q_7, .null, .null, .null, .null, .null, .null, .null, .null, .int 0, .int 0, .null, .int 0, .null])), (q_1, .inl (cI, 8, .inl (fun _ => 0))), (q_3, .inl (cI, 81, .inl (fun _ => 0))), (q_5, .inl (cI, 81, .inl (fun _ => 0))), (q_7, .inl (cI, 81, .inl (fun _ => 0)))] H := hP
  have hD : va_D A [(q, .inr (3, [.int 0, .ref q_1, .int 0, .ref q_3, .ref q_5, .ref q_7, .null, .null, .null, .null, .null, .null, .null, .null, .int 0, .int 0, .null, .int 0, .null])), (q_1, .inl (cI, 8, .inl (fun _ => 0))), (q_3, .inl (cI, 81, .inl (fun _ => 0))), (q_5, .inl (cI, 81, .inl (fun _ => 0))), (q_7, .inl (cI, 81, .inl (fun _ => 0)))] := hD
  have hBH := hB.at hS hA0
  refine lv_aload_n hx hb d_D_init_36 rfl (lv_at hl 0 rfl) ?_
  refine lv_bipush (v := 81) hx hb d_D_init_37 (by decide) ?_
  refine va_newa (atype := .int) hx hb (hts (Cond.arrayClass .int) mw_43) (ty := .int) rfl hK hP hD hS hA (n := 81) (N' := 81) (a0 := (81, .inl (fun _ => 0))) (fun _ => rfl) (by decide) (by decide) (by decide) (Nat.le_of_ble_eq_true rfl) (Nat.le_of_ble_eq_true rfl) d_D_init_39 (fun q_9 cA_10 H hK1 hP hD hS => ?_)
  rw [mr_sameI hK1] at hP hD
  clear hK1
  have hP : va_P (dC, dI) mr_cl [(q, .inr (3, [.int 0, .ref q_1, .int 0, .ref q_3, .ref q_5, .ref q_7, .null, .null, .null, .null, .null, .null, .null, .null, .int 0, .int 0, .null, .int 0, .null])), (q_1, .inl (cI, 8, .inl (fun _ => 0))), (q_3, .inl (cI, 81, .inl (fun _ => 0))), (q_5, .inl (cI, 81, .inl (fun _ => 0))), (q_7, .inl (cI, 81, .inl (fun _ => 0))), (q_9, .inl (cI, 81, .inl (fun _ => 0)))] H := hP
  have hD : va_D A [(q, .inr (3, [.int 0, .ref q_1, .int 0, .ref q_3, .ref q_5, .ref q_7, .null, .null, .null, .null, .null, .null, .null, .null, .int 0, .int 0, .null, .int 0, .null])), (q_1, .inl (cI, 8, .inl (fun _ => 0))), (q_3, .inl (cI, 81, .inl (fun _ => 0))), (q_5, .inl (cI, 81, .inl (fun _ => 0))), (q_7, .inl (cI, 81, .inl (fun _ => 0))), (q_9, .inl (cI, 81, .inl (fun _ => 0)))] := hD
  have hBH := hB.at hS hA0
  refine W.widen (k := 5) (n := 332) (by omega) (by omega) ?_
  refine va_putF (D := (dC, dI)) (ci := 3) (v := .ref q_9) (ty := (.array .int)) (C := R_D) (T := T_D) (N := 19) hx hb hts ti_D t_D to_D tn_D hown hK hP hD hS 0 rfl rfl 6 (by decide) (hts (Cond.fieldLink "MeasureRowsModel" 22 "MeasureRowsModel" "kind" "[I") mw_271) (fun _ h9 => h9) rfl hin rfl (by decide +kernel) rfl rfl (Nat.le_of_ble_eq_true rfl) d_D_init_41 (fun H locs hP hD hS => ?_)
  have hP : va_P (dC, dI) mr_cl [(q, .inr (3, [.int 0, .ref q_1, .int 0, .ref q_3, .ref q_5, .ref q_7, .ref q_9, .null, .null, .null, .null, .null, .null, .null, .int 0, .int 0, .null, .int 0, .null])), (q_1, .inl (cI, 8, .inl (fun _ => 0))), (q_3, .inl (cI, 81, .inl (fun _ => 0))), (q_5, .inl (cI, 81, .inl (fun _ => 0))), (q_7, .inl (cI, 81, .inl (fun _ => 0))), (q_9, .inl (cI, 81, .inl (fun _ => 0)))] H := hP
  have hD : va_D A [(q, .inr (3, [.int 0, .ref q_1, .int 0, .ref q_3, .ref q_5, .ref q_7, .ref q_9, .null, .null, .null, .null, .null, .null, .null, .int 0, .int 0, .null, .int 0, .null])), (q_1, .inl (cI, 8, .inl (fun _ => 0))), (q_3, .inl (cI, 81, .inl (fun _ => 0))), (q_5, .inl (cI, 81, .inl (fun _ => 0))), (q_7, .inl (cI, 81, .inl (fun _ => 0))), (q_9, .inl (cI, 81, .inl (fun _ => 0)))] := hD
  have hBH := hB.at hS hA0
  refine lv_aload_n hx hb d_D_init_44 rfl (lv_at hl 0 rfl) ?_
  refine lv_bipush (v := 81) hx hb d_D_init_45 (by decide) ?_
  refine va_newa (atype := .int) hx hb (hts (Cond.arrayClass .int) mw_43) (ty := .int) rfl hK hP hD hS hA (n := 81) (N' := 81) (a0 := (81, .inl (fun _ => 0))) (fun _ => rfl) (by decide) (by decide) (by decide) (Nat.le_of_ble_eq_true rfl) (Nat.le_of_ble_eq_true rfl) d_D_init_47 (fun q_11 cA_12 H hK1 hP hD hS => ?_)
  rw [mr_sameI hK1] at hP hD
  clear hK1
  have hP : va_P (dC, dI) mr_cl [(q, .inr (3, [.int 0, .ref q_1, .int 0, .ref q_3, .ref q_5, .ref q_7, .ref q_9, .null, .null, .null, .null, .null, .null, .null, .int 0, .int 0, .null, .int 0, .null])), (q_1, .inl (cI, 8, .inl (fun _ => 0))), (q_3, .inl (cI, 81, .inl (fun _ => 0))), (q_5, .inl (cI, 81, .inl (fun _ => 0))), (q_7, .inl (cI, 81, .inl (fun _ => 0))), (q_9, .inl (cI, 81, .inl (fun _ => 0))), (q_11, .inl (cI, 81, .inl (fun _ => 0)))] H := hP
  have hD : va_D A [(q, .inr (3, [.int 0, .ref q_1, .int 0, .ref q_3, .ref q_5, .ref q_7, .ref q_9, .null, .null, .null, .null, .null, .null, .null, .int 0, .int 0, .null, .int 0, .null])), (q_1, .inl (cI, 8, .inl (fun _ => 0))), (q_3, .inl (cI, 81, .inl (fun _ => 0))), (q_5, .inl (cI, 81, .inl (fun _ => 0))), (q_7, .inl (cI, 81, .inl (fun _ => 0))), (q_9, .inl (cI, 81, .inl (fun _ => 0))), (q_11, .inl (cI, 81, .inl (fun _ => 0)))] := hD
  have hBH := hB.at hS hA0
  refine W.widen (k := 6) (n := 413) (by omega) (by omega) ?_
  refine va_putF (D := (dC, dI)) (ci := 3) (v := .ref q_11) (ty := (.array .int)) (C := R_D) (T := T_D) (N := 19) hx hb hts ti_D t_D to_D tn_D hown hK hP hD hS 0 rfl rfl 7 (by decide) (hts (Cond.fieldLink "MeasureRowsModel" 25 "MeasureRowsModel" "rank" "[I") mw_272) (fun _ h9 => h9) rfl hin rfl (by decide +kernel) rfl rfl (Nat.le_of_ble_eq_true rfl) d_D_init_49 (fun H locs hP hD hS => ?_)
  have hP : va_P (dC, dI) mr_cl [(q, .inr (3, [.int 0, .ref q_1, .int 0, .ref q_3, .ref q_5, .ref q_7, .ref q_9, .ref q_11, .null, .null, .null, .null, .null, .null, .int 0, .int 0, .null, .int 0, .null])), (q_1, .inl (cI, 8, .inl (fun _ => 0))), (q_3, .inl (cI, 81, .inl (fun _ => 0))), (q_5, .inl (cI, 81, .inl (fun _ => 0))), (q_7, .inl (cI, 81, .inl (fun _ => 0))), (q_9, .inl (cI, 81, .inl (fun _ => 0))), (q_11, .inl (cI, 81, .inl (fun _ => 0)))] H := hP
  have hD : va_D A [(q, .inr (3, [.int 0, .ref q_1, .int 0, .ref q_3, .ref q_5, .ref q_7, .ref q_9, .ref q_11, .null, .null, .null, .null, .null, .null, .int 0, .int 0, .null, .int 0, .null])), (q_1, .inl (cI, 8, .inl (fun _ => 0))), (q_3, .inl (cI, 81, .inl (fun _ => 0))), (q_5, .inl (cI, 81, .inl (fun _ => 0))), (q_7, .inl (cI, 81, .inl (fun _ => 0))), (q_9, .inl (cI, 81, .inl (fun _ => 0))), (q_11, .inl (cI, 81, .inl (fun _ => 0)))] := hD
  have hBH := hB.at hS hA0
  refine lv_aload_n hx hb d_D_init_52 rfl (lv_at hl 0 rfl) ?_
  refine lv_bipush (v := 81) hx hb d_D_init_53 (by decide) ?_
  refine va_newa (atype := .int) hx hb (hts (Cond.arrayClass .int) mw_43) (ty := .int) rfl hK hP hD hS hA (n := 81) (N' := 81) (a0 := (81, .inl (fun _ => 0))) (fun _ => rfl) (by decide) (by decide) (by decide) (Nat.le_of_ble_eq_true rfl) (Nat.le_of_ble_eq_true rfl) d_D_init_55 (fun q_13 cA_14 H hK1 hP hD hS => ?_)
  rw [mr_sameI hK1] at hP hD
  clear hK1
  have hP : va_P (dC, dI) mr_cl [(q, .inr (3, [.int 0, .ref q_1, .int 0, .ref q_3, .ref q_5, .ref q_7, .ref q_9, .ref q_11, .null, .null, .null, .null, .null, .null, .int 0, .int 0, .null, .int 0, .null])), (q_1, .inl (cI, 8, .inl (fun _ => 0))), (q_3, .inl (cI, 81, .inl (fun _ => 0))), (q_5, .inl (cI, 81, .inl (fun _ => 0))), (q_7, .inl (cI, 81, .inl (fun _ => 0))), (q_9, .inl (cI, 81, .inl (fun _ => 0))), (q_11, .inl (cI, 81, .inl (fun _ => 0))), (q_13, .inl (cI, 81, .inl (fun _ => 0)))] H := hP
  have hD : va_D A [(q, .inr (3, [.int 0, .ref q_1, .int 0, .ref q_3, .ref q_5, .ref q_7, .ref q_9, .ref q_11, .null, .null, .null, .null, .null, .null, .int 0, .int 0, .null, .int 0, .null])), (q_1, .inl (cI, 8, .inl (fun _ => 0))), (q_3, .inl (cI, 81, .inl (fun _ => 0))), (q_5, .inl (cI, 81, .inl (fun _ => 0))), (q_7, .inl (cI, 81, .inl (fun _ => 0))), (q_9, .inl (cI, 81, .inl (fun _ => 0))), (q_11, .inl (cI, 81, .inl (fun _ => 0))), (q_13, .inl (cI, 81, .inl (fun _ => 0)))] := hD
  have hBH := hB.at hS hA0
  refine W.widen (k := 7) (n := 494) (by omega) (by omega) ?_
  refine va_putF (D := (dC, dI)) (ci := 3) (v := .ref q_13) (ty := (.array .int)) (C := R_D) (T := T_D) (N := 19) hx hb hts ti_D t_D to_D tn_D hown hK hP hD hS 0 rfl rfl 8 (by decide) (hts (Cond.fieldLink "MeasureRowsModel" 28 "MeasureRowsModel" "known" "[I") mw_274) (fun _ h9 => h9) rfl hin rfl (by decide +kernel) rfl rfl (Nat.le_of_ble_eq_true rfl) d_D_init_57 (fun H locs hP hD hS => ?_)
  have hP : va_P (dC, dI) mr_cl [(q, .inr (3, [.int 0, .ref q_1, .int 0, .ref q_3, .ref q_5, .ref q_7, .ref q_9, .ref q_11, .ref q_13, .null, .null, .null, .null, .null, .int 0, .int 0, .null, .int 0, .null])), (q_1, .inl (cI, 8, .inl (fun _ => 0))), (q_3, .inl (cI, 81, .inl (fun _ => 0))), (q_5, .inl (cI, 81, .inl (fun _ => 0))), (q_7, .inl (cI, 81, .inl (fun _ => 0))), (q_9, .inl (cI, 81, .inl (fun _ => 0))), (q_11, .inl (cI, 81, .inl (fun _ => 0))), (q_13, .inl (cI, 81, .inl (fun _ => 0)))] H := hP
  have hD : va_D A [(q, .inr (3, [.int 0, .ref q_1, .int 0, .ref q_3, .ref q_5, .ref q_7, .ref q_9, .ref q_11, .ref q_13, .null, .null, .null, .null, .null, .int 0, .int 0, .null, .int 0, .null])), (q_1, .inl (cI, 8, .inl (fun _ => 0))), (q_3, .inl (cI, 81, .inl (fun _ => 0))), (q_5, .inl (cI, 81, .inl (fun _ => 0))), (q_7, .inl (cI, 81, .inl (fun _ => 0))), (q_9, .inl (cI, 81, .inl (fun _ => 0))), (q_11, .inl (cI, 81, .inl (fun _ => 0))), (q_13, .inl (cI, 81, .inl (fun _ => 0)))] := hD
  have hBH := hB.at hS hA0
  refine lv_aload_n hx hb d_D_init_60 rfl (lv_at hl 0 rfl) ?_
  refine lv_bipush (v := 81) hx hb d_D_init_61 (by decide) ?_
  refine va_newa (atype := .int) hx hb (hts (Cond.arrayClass .int) mw_43) (ty := .int) rfl hK hP hD hS hA (n := 81) (N' := 81) (a0 := (81, .inl (fun _ => 0))) (fun _ => rfl) (by decide) (by decide) (by decide) (Nat.le_of_ble_eq_true rfl) (Nat.le_of_ble_eq_true rfl) d_D_init_63 (fun q_15 cA_16 H hK1 hP hD hS => ?_)
  rw [mr_sameI hK1] at hP hD
  clear hK1
  have hP : va_P (dC, dI) mr_cl [(q, .inr (3, [.int 0, .ref q_1, .int 0, .ref q_3, .ref q_5, .ref q_7, .ref q_9, .ref q_11, .ref q_13, .null, .null, .null, .null, .null, .int 0, .int 0, .null, .int 0, .null])), (q_1, .inl (cI, 8, .inl (fun _ => 0))), (q_3, .inl (cI, 81, .inl (fun _ => 0))), (q_5, .inl (cI, 81, .inl (fun _ => 0))), (q_7, .inl (cI, 81, .inl (fun _ => 0))), (q_9, .inl (cI, 81, .inl (fun _ => 0))), (q_11, .inl (cI, 81, .inl (fun _ => 0))), (q_13, .inl (cI, 81, .inl (fun _ => 0))), (q_15, .inl (cI, 81, .inl (fun _ => 0)))] H := hP
  have hD : va_D A [(q, .inr (3, [.int 0, .ref q_1, .int 0, .ref q_3, .ref q_5, .ref q_7, .ref q_9, .ref q_11, .ref q_13, .null, .null, .null, .null, .null, .int 0, .int 0, .null, .int 0, .null])), (q_1, .inl (cI, 8, .inl (fun _ => 0))), (q_3, .inl (cI, 81, .inl (fun _ => 0))), (q_5, .inl (cI, 81, .inl (fun _ => 0))), (q_7, .inl (cI, 81, .inl (fun _ => 0))), (q_9, .inl (cI, 81, .inl (fun _ => 0))), (q_11, .inl (cI, 81, .inl (fun _ => 0))), (q_13, .inl (cI, 81, .inl (fun _ => 0))), (q_15, .inl (cI, 81, .inl (fun _ => 0)))] := hD
  have hBH := hB.at hS hA0
  refine W.widen (k := 8) (n := 575) (by omega) (by omega) ?_
  refine va_putF (D := (dC, dI)) (ci := 3) (v := .ref q_15) (ty := (.array .int)) (C := R_D) (T := T_D) (N := 19) hx hb hts ti_D t_D to_D tn_D hown hK hP hD hS 0 rfl rfl 9 (by decide) (hts (Cond.fieldLink "MeasureRowsModel" 31 "MeasureRowsModel" "lands" "[I") mw_284) (fun _ h9 => h9) rfl hin rfl (by decide +kernel) rfl rfl (Nat.le_of_ble_eq_true rfl) d_D_init_65 (fun H locs hP hD hS => ?_)
  have hP : va_P (dC, dI) mr_cl [(q, .inr (3, [.int 0, .ref q_1, .int 0, .ref q_3, .ref q_5, .ref q_7, .ref q_9, .ref q_11, .ref q_13, .ref q_15, .null, .null, .null, .null, .int 0, .int 0, .null, .int 0, .null])), (q_1, .inl (cI, 8, .inl (fun _ => 0))), (q_3, .inl (cI, 81, .inl (fun _ => 0))), (q_5, .inl (cI, 81, .inl (fun _ => 0))), (q_7, .inl (cI, 81, .inl (fun _ => 0))), (q_9, .inl (cI, 81, .inl (fun _ => 0))), (q_11, .inl (cI, 81, .inl (fun _ => 0))), (q_13, .inl (cI, 81, .inl (fun _ => 0))), (q_15, .inl (cI, 81, .inl (fun _ => 0)))] H := hP
  have hD : va_D A [(q, .inr (3, [.int 0, .ref q_1, .int 0, .ref q_3, .ref q_5, .ref q_7, .ref q_9, .ref q_11, .ref q_13, .ref q_15, .null, .null, .null, .null, .int 0, .int 0, .null, .int 0, .null])), (q_1, .inl (cI, 8, .inl (fun _ => 0))), (q_3, .inl (cI, 81, .inl (fun _ => 0))), (q_5, .inl (cI, 81, .inl (fun _ => 0))), (q_7, .inl (cI, 81, .inl (fun _ => 0))), (q_9, .inl (cI, 81, .inl (fun _ => 0))), (q_11, .inl (cI, 81, .inl (fun _ => 0))), (q_13, .inl (cI, 81, .inl (fun _ => 0))), (q_15, .inl (cI, 81, .inl (fun _ => 0)))] := hD
  have hBH := hB.at hS hA0
  refine lv_aload_n hx hb d_D_init_68 rfl (lv_at hl 0 rfl) ?_
  refine lv_bipush (v := 81) hx hb d_D_init_69 (by decide) ?_
  refine va_newa (atype := .int) hx hb (hts (Cond.arrayClass .int) mw_43) (ty := .int) rfl hK hP hD hS hA (n := 81) (N' := 81) (a0 := (81, .inl (fun _ => 0))) (fun _ => rfl) (by decide) (by decide) (by decide) (Nat.le_of_ble_eq_true rfl) (Nat.le_of_ble_eq_true rfl) d_D_init_71 (fun q_17 cA_18 H hK1 hP hD hS => ?_)
  rw [mr_sameI hK1] at hP hD
  clear hK1
  have hP : va_P (dC, dI) mr_cl [(q, .inr (3, [.int 0, .ref q_1, .int 0, .ref q_3, .ref q_5, .ref q_7, .ref q_9, .ref q_11, .ref q_13, .ref q_15, .null, .null, .null, .null, .int 0, .int 0, .null, .int 0, .null])), (q_1, .inl (cI, 8, .inl (fun _ => 0))), (q_3, .inl (cI, 81, .inl (fun _ => 0))), (q_5, .inl (cI, 81, .inl (fun _ => 0))), (q_7, .inl (cI, 81, .inl (fun _ => 0))), (q_9, .inl (cI, 81, .inl (fun _ => 0))), (q_11, .inl (cI, 81, .inl (fun _ => 0))), (q_13, .inl (cI, 81, .inl (fun _ => 0))), (q_15, .inl (cI, 81, .inl (fun _ => 0))), (q_17, .inl (cI, 81, .inl (fun _ => 0)))] H := hP
  have hD : va_D A [(q, .inr (3, [.int 0, .ref q_1, .int 0, .ref q_3, .ref q_5, .ref q_7, .ref q_9, .ref q_11, .ref q_13, .ref q_15, .null, .null, .null, .null, .int 0, .int 0, .null, .int 0, .null])), (q_1, .inl (cI, 8, .inl (fun _ => 0))), (q_3, .inl (cI, 81, .inl (fun _ => 0))), (q_5, .inl (cI, 81, .inl (fun _ => 0))), (q_7, .inl (cI, 81, .inl (fun _ => 0))), (q_9, .inl (cI, 81, .inl (fun _ => 0))), (q_11, .inl (cI, 81, .inl (fun _ => 0))), (q_13, .inl (cI, 81, .inl (fun _ => 0))), (q_15, .inl (cI, 81, .inl (fun _ => 0))), (q_17, .inl (cI, 81, .inl (fun _ => 0)))] := hD
  have hBH := hB.at hS hA0
  refine W.widen (k := 9) (n := 656) (by omega) (by omega) ?_
  refine va_putF (D := (dC, dI)) (ci := 3) (v := .ref q_17) (ty := (.array .int)) (C := R_D) (T := T_D) (N := 19) hx hb hts ti_D t_D to_D tn_D hown hK hP hD hS 0 rfl rfl 10 (by decide) (hts (Cond.fieldLink "MeasureRowsModel" 34 "MeasureRowsModel" "papers" "[I") mw_309) (fun _ h9 => h9) rfl hin rfl (by decide +kernel) rfl rfl (Nat.le_of_ble_eq_true rfl) d_D_init_73 (fun H locs hP hD hS => ?_)
  have hP : va_P (dC, dI) mr_cl [(q, .inr (3, [.int 0, .ref q_1, .int 0, .ref q_3, .ref q_5, .ref q_7, .ref q_9, .ref q_11, .ref q_13, .ref q_15, .ref q_17, .null, .null, .null, .int 0, .int 0, .null, .int 0, .null])), (q_1, .inl (cI, 8, .inl (fun _ => 0))), (q_3, .inl (cI, 81, .inl (fun _ => 0))), (q_5, .inl (cI, 81, .inl (fun _ => 0))), (q_7, .inl (cI, 81, .inl (fun _ => 0))), (q_9, .inl (cI, 81, .inl (fun _ => 0))), (q_11, .inl (cI, 81, .inl (fun _ => 0))), (q_13, .inl (cI, 81, .inl (fun _ => 0))), (q_15, .inl (cI, 81, .inl (fun _ => 0))), (q_17, .inl (cI, 81, .inl (fun _ => 0)))] H := hP
  have hD : va_D A [(q, .inr (3, [.int 0, .ref q_1, .int 0, .ref q_3, .ref q_5, .ref q_7, .ref q_9, .ref q_11, .ref q_13, .ref q_15, .ref q_17, .null, .null, .null, .int 0, .int 0, .null, .int 0, .null])), (q_1, .inl (cI, 8, .inl (fun _ => 0))), (q_3, .inl (cI, 81, .inl (fun _ => 0))), (q_5, .inl (cI, 81, .inl (fun _ => 0))), (q_7, .inl (cI, 81, .inl (fun _ => 0))), (q_9, .inl (cI, 81, .inl (fun _ => 0))), (q_11, .inl (cI, 81, .inl (fun _ => 0))), (q_13, .inl (cI, 81, .inl (fun _ => 0))), (q_15, .inl (cI, 81, .inl (fun _ => 0))), (q_17, .inl (cI, 81, .inl (fun _ => 0)))] := hD
  have hBH := hB.at hS hA0
  refine lv_aload_n hx hb d_D_init_76 rfl (lv_at hl 0 rfl) ?_
  refine lv_bipush (v := 81) hx hb d_D_init_77 (by decide) ?_
  refine va_newa (atype := .int) hx hb (hts (Cond.arrayClass .int) mw_43) (ty := .int) rfl hK hP hD hS hA (n := 81) (N' := 81) (a0 := (81, .inl (fun _ => 0))) (fun _ => rfl) (by decide) (by decide) (by decide) (Nat.le_of_ble_eq_true rfl) (Nat.le_of_ble_eq_true rfl) d_D_init_79 (fun q_19 cA_20 H hK1 hP hD hS => ?_)
  rw [mr_sameI hK1] at hP hD
  clear hK1
  have hP : va_P (dC, dI) mr_cl [(q, .inr (3, [.int 0, .ref q_1, .int 0, .ref q_3, .ref q_5, .ref q_7, .ref q_9, .ref q_11, .ref q_13, .ref q_15, .ref q_17, .null, .null, .null, .int 0, .int 0, .null, .int 0, .null])), (q_1, .inl (cI, 8, .inl (fun _ => 0))), (q_3, .inl (cI, 81, .inl (fun _ => 0))), (q_5, .inl (cI, 81, .inl (fun _ => 0))), (q_7, .inl (cI, 81, .inl (fun _ => 0))), (q_9, .inl (cI, 81, .inl (fun _ => 0))), (q_11, .inl (cI, 81, .inl (fun _ => 0))), (q_13, .inl (cI, 81, .inl (fun _ => 0))), (q_15, .inl (cI, 81, .inl (fun _ => 0))), (q_17, .inl (cI, 81, .inl (fun _ => 0))), (q_19, .inl (cI, 81, .inl (fun _ => 0)))] H := hP
  have hD : va_D A [(q, .inr (3, [.int 0, .ref q_1, .int 0, .ref q_3, .ref q_5, .ref q_7, .ref q_9, .ref q_11, .ref q_13, .ref q_15, .ref q_17, .null, .null, .null, .int 0, .int 0, .null, .int 0, .null])), (q_1, .inl (cI, 8, .inl (fun _ => 0))), (q_3, .inl (cI, 81, .inl (fun _ => 0))), (q_5, .inl (cI, 81, .inl (fun _ => 0))), (q_7, .inl (cI, 81, .inl (fun _ => 0))), (q_9, .inl (cI, 81, .inl (fun _ => 0))), (q_11, .inl (cI, 81, .inl (fun _ => 0))), (q_13, .inl (cI, 81, .inl (fun _ => 0))), (q_15, .inl (cI, 81, .inl (fun _ => 0))), (q_17, .inl (cI, 81, .inl (fun _ => 0))), (q_19, .inl (cI, 81, .inl (fun _ => 0)))] := hD
  have hBH := hB.at hS hA0
  refine W.widen (k := 10) (n := 737) (by omega) (by omega) ?_
  refine va_putF (D := (dC, dI)) (ci := 3) (v := .ref q_19) (ty := (.array .int)) (C := R_D) (T := T_D) (N := 19) hx hb hts ti_D t_D to_D tn_D hown hK hP hD hS 0 rfl rfl 11 (by decide) (hts (Cond.fieldLink "MeasureRowsModel" 37 "MeasureRowsModel" "ends" "[I") mw_260) (fun _ h9 => h9) rfl hin rfl (by decide +kernel) rfl rfl (Nat.le_of_ble_eq_true rfl) d_D_init_81 (fun H locs hP hD hS => ?_)
  have hP : va_P (dC, dI) mr_cl [(q, .inr (3, [.int 0, .ref q_1, .int 0, .ref q_3, .ref q_5, .ref q_7, .ref q_9, .ref q_11, .ref q_13, .ref q_15, .ref q_17, .ref q_19, .null, .null, .int 0, .int 0, .null, .int 0, .null])), (q_1, .inl (cI, 8, .inl (fun _ => 0))), (q_3, .inl (cI, 81, .inl (fun _ => 0))), (q_5, .inl (cI, 81, .inl (fun _ => 0))), (q_7, .inl (cI, 81, .inl (fun _ => 0))), (q_9, .inl (cI, 81, .inl (fun _ => 0))), (q_11, .inl (cI, 81, .inl (fun _ => 0))), (q_13, .inl (cI, 81, .inl (fun _ => 0))), (q_15, .inl (cI, 81, .inl (fun _ => 0))), (q_17, .inl (cI, 81, .inl (fun _ => 0))), (q_19, .inl (cI, 81, .inl (fun _ => 0)))] H := hP
  have hD : va_D A [(q, .inr (3, [.int 0, .ref q_1, .int 0, .ref q_3, .ref q_5, .ref q_7, .ref q_9, .ref q_11, .ref q_13, .ref q_15, .ref q_17, .ref q_19, .null, .null, .int 0, .int 0, .null, .int 0, .null])), (q_1, .inl (cI, 8, .inl (fun _ => 0))), (q_3, .inl (cI, 81, .inl (fun _ => 0))), (q_5, .inl (cI, 81, .inl (fun _ => 0))), (q_7, .inl (cI, 81, .inl (fun _ => 0))), (q_9, .inl (cI, 81, .inl (fun _ => 0))), (q_11, .inl (cI, 81, .inl (fun _ => 0))), (q_13, .inl (cI, 81, .inl (fun _ => 0))), (q_15, .inl (cI, 81, .inl (fun _ => 0))), (q_17, .inl (cI, 81, .inl (fun _ => 0))), (q_19, .inl (cI, 81, .inl (fun _ => 0)))] := hD
  have hBH := hB.at hS hA0
  refine lv_aload_n hx hb d_D_init_84 rfl (lv_at hl 0 rfl) ?_
  refine lv_sipush (v := 648) hx hb d_D_init_85 (by decide) ?_
  refine va_newa (atype := .int) hx hb (hts (Cond.arrayClass .int) mw_43) (ty := .int) rfl hK hP hD hS hA (n := 648) (N' := 648) (a0 := (648, .inl (fun _ => 0))) (fun _ => rfl) (by decide) (by decide) (by decide) (Nat.le_of_ble_eq_true rfl) (Nat.le_of_ble_eq_true rfl) d_D_init_88 (fun q_21 cA_22 H hK1 hP hD hS => ?_)
  rw [mr_sameI hK1] at hP hD
  clear hK1
  have hP : va_P (dC, dI) mr_cl [(q, .inr (3, [.int 0, .ref q_1, .int 0, .ref q_3, .ref q_5, .ref q_7, .ref q_9, .ref q_11, .ref q_13, .ref q_15, .ref q_17, .ref q_19, .null, .null, .int 0, .int 0, .null, .int 0, .null])), (q_1, .inl (cI, 8, .inl (fun _ => 0))), (q_3, .inl (cI, 81, .inl (fun _ => 0))), (q_5, .inl (cI, 81, .inl (fun _ => 0))), (q_7, .inl (cI, 81, .inl (fun _ => 0))), (q_9, .inl (cI, 81, .inl (fun _ => 0))), (q_11, .inl (cI, 81, .inl (fun _ => 0))), (q_13, .inl (cI, 81, .inl (fun _ => 0))), (q_15, .inl (cI, 81, .inl (fun _ => 0))), (q_17, .inl (cI, 81, .inl (fun _ => 0))), (q_19, .inl (cI, 81, .inl (fun _ => 0))), (q_21, .inl (cI, 648, .inl (fun _ => 0)))] H := hP
  have hD : va_D A [(q, .inr (3, [.int 0, .ref q_1, .int 0, .ref q_3, .ref q_5, .ref q_7, .ref q_9, .ref q_11, .ref q_13, .ref q_15, .ref q_17, .ref q_19, .null, .null, .int 0, .int 0, .null, .int 0, .null])), (q_1, .inl (cI, 8, .inl (fun _ => 0))), (q_3, .inl (cI, 81, .inl (fun _ => 0))), (q_5, .inl (cI, 81, .inl (fun _ => 0))), (q_7, .inl (cI, 81, .inl (fun _ => 0))), (q_9, .inl (cI, 81, .inl (fun _ => 0))), (q_11, .inl (cI, 81, .inl (fun _ => 0))), (q_13, .inl (cI, 81, .inl (fun _ => 0))), (q_15, .inl (cI, 81, .inl (fun _ => 0))), (q_17, .inl (cI, 81, .inl (fun _ => 0))), (q_19, .inl (cI, 81, .inl (fun _ => 0))), (q_21, .inl (cI, 648, .inl (fun _ => 0)))] := hD
  have hBH := hB.at hS hA0
  refine W.widen (k := 11) (n := 1385) (by omega) (by omega) ?_
  refine va_putF (D := (dC, dI)) (ci := 3) (v := .ref q_21) (ty := (.array .int)) (C := R_D) (T := T_D) (N := 19) hx hb hts ti_D t_D to_D tn_D hown hK hP hD hS 0 rfl rfl 12 (by decide) (hts (Cond.fieldLink "MeasureRowsModel" 40 "MeasureRowsModel" "last" "[I") mw_262) (fun _ h9 => h9) rfl hin rfl (by decide +kernel) rfl rfl (Nat.le_of_ble_eq_true rfl) d_D_init_90 (fun H locs hP hD hS => ?_)
  have hP : va_P (dC, dI) mr_cl [(q, .inr (3, [.int 0, .ref q_1, .int 0, .ref q_3, .ref q_5, .ref q_7, .ref q_9, .ref q_11, .ref q_13, .ref q_15, .ref q_17, .ref q_19, .ref q_21, .null, .int 0, .int 0, .null, .int 0, .null])), (q_1, .inl (cI, 8, .inl (fun _ => 0))), (q_3, .inl (cI, 81, .inl (fun _ => 0))), (q_5, .inl (cI, 81, .inl (fun _ => 0))), (q_7, .inl (cI, 81, .inl (fun _ => 0))), (q_9, .inl (cI, 81, .inl (fun _ => 0))), (q_11, .inl (cI, 81, .inl (fun _ => 0))), (q_13, .inl (cI, 81, .inl (fun _ => 0))), (q_15, .inl (cI, 81, .inl (fun _ => 0))), (q_17, .inl (cI, 81, .inl (fun _ => 0))), (q_19, .inl (cI, 81, .inl (fun _ => 0))), (q_21, .inl (cI, 648, .inl (fun _ => 0)))] H := hP
  have hD : va_D A [(q, .inr (3, [.int 0, .ref q_1, .int 0, .ref q_3, .ref q_5, .ref q_7, .ref q_9, .ref q_11, .ref q_13, .ref q_15, .ref q_17, .ref q_19, .ref q_21, .null, .int 0, .int 0, .null, .int 0, .null])), (q_1, .inl (cI, 8, .inl (fun _ => 0))), (q_3, .inl (cI, 81, .inl (fun _ => 0))), (q_5, .inl (cI, 81, .inl (fun _ => 0))), (q_7, .inl (cI, 81, .inl (fun _ => 0))), (q_9, .inl (cI, 81, .inl (fun _ => 0))), (q_11, .inl (cI, 81, .inl (fun _ => 0))), (q_13, .inl (cI, 81, .inl (fun _ => 0))), (q_15, .inl (cI, 81, .inl (fun _ => 0))), (q_17, .inl (cI, 81, .inl (fun _ => 0))), (q_19, .inl (cI, 81, .inl (fun _ => 0))), (q_21, .inl (cI, 648, .inl (fun _ => 0)))] := hD
  have hBH := hB.at hS hA0
  refine lv_aload_n hx hb d_D_init_93 rfl (lv_at hl 0 rfl) ?_
  refine lv_sipush (v := 648) hx hb d_D_init_94 (by decide) ?_
  refine va_newa (atype := .int) hx hb (hts (Cond.arrayClass .int) mw_43) (ty := .int) rfl hK hP hD hS hA (n := 648) (N' := 648) (a0 := (648, .inl (fun _ => 0))) (fun _ => rfl) (by decide) (by decide) (by decide) (Nat.le_of_ble_eq_true rfl) (Nat.le_of_ble_eq_true rfl) d_D_init_97 (fun q_23 cA_24 H hK1 hP hD hS => ?_)
  rw [mr_sameI hK1] at hP hD
  clear hK1
  have hP : va_P (dC, dI) mr_cl [(q, .inr (3, [.int 0, .ref q_1, .int 0, .ref q_3, .ref q_5, .ref q_7, .ref q_9, .ref q_11, .ref q_13, .ref q_15, .ref q_17, .ref q_19, .ref q_21, .null, .int 0, .int 0, .null, .int 0, .null])), (q_1, .inl (cI, 8, .inl (fun _ => 0))), (q_3, .inl (cI, 81, .inl (fun _ => 0))), (q_5, .inl (cI, 81, .inl (fun _ => 0))), (q_7, .inl (cI, 81, .inl (fun _ => 0))), (q_9, .inl (cI, 81, .inl (fun _ => 0))), (q_11, .inl (cI, 81, .inl (fun _ => 0))), (q_13, .inl (cI, 81, .inl (fun _ => 0))), (q_15, .inl (cI, 81, .inl (fun _ => 0))), (q_17, .inl (cI, 81, .inl (fun _ => 0))), (q_19, .inl (cI, 81, .inl (fun _ => 0))), (q_21, .inl (cI, 648, .inl (fun _ => 0))), (q_23, .inl (cI, 648, .inl (fun _ => 0)))] H := hP
  have hD : va_D A [(q, .inr (3, [.int 0, .ref q_1, .int 0, .ref q_3, .ref q_5, .ref q_7, .ref q_9, .ref q_11, .ref q_13, .ref q_15, .ref q_17, .ref q_19, .ref q_21, .null, .int 0, .int 0, .null, .int 0, .null])), (q_1, .inl (cI, 8, .inl (fun _ => 0))), (q_3, .inl (cI, 81, .inl (fun _ => 0))), (q_5, .inl (cI, 81, .inl (fun _ => 0))), (q_7, .inl (cI, 81, .inl (fun _ => 0))), (q_9, .inl (cI, 81, .inl (fun _ => 0))), (q_11, .inl (cI, 81, .inl (fun _ => 0))), (q_13, .inl (cI, 81, .inl (fun _ => 0))), (q_15, .inl (cI, 81, .inl (fun _ => 0))), (q_17, .inl (cI, 81, .inl (fun _ => 0))), (q_19, .inl (cI, 81, .inl (fun _ => 0))), (q_21, .inl (cI, 648, .inl (fun _ => 0))), (q_23, .inl (cI, 648, .inl (fun _ => 0)))] := hD
  have hBH := hB.at hS hA0
  refine W.widen (k := 12) (n := 2033) (by omega) (by omega) ?_
  refine va_putF (D := (dC, dI)) (ci := 3) (v := .ref q_23) (ty := (.array .int)) (C := R_D) (T := T_D) (N := 19) hx hb hts ti_D t_D to_D tn_D hown hK hP hD hS 0 rfl rfl 13 (by decide) (hts (Cond.fieldLink "MeasureRowsModel" 43 "MeasureRowsModel" "lastKnown" "[I") mw_261) (fun _ h9 => h9) rfl hin rfl (by decide +kernel) rfl rfl (Nat.le_of_ble_eq_true rfl) d_D_init_99 (fun H locs hP hD hS => ?_)
  have hP : va_P (dC, dI) mr_cl [(q, .inr (3, [.int 0, .ref q_1, .int 0, .ref q_3, .ref q_5, .ref q_7, .ref q_9, .ref q_11, .ref q_13, .ref q_15, .ref q_17, .ref q_19, .ref q_21, .ref q_23, .int 0, .int 0, .null, .int 0, .null])), (q_1, .inl (cI, 8, .inl (fun _ => 0))), (q_3, .inl (cI, 81, .inl (fun _ => 0))), (q_5, .inl (cI, 81, .inl (fun _ => 0))), (q_7, .inl (cI, 81, .inl (fun _ => 0))), (q_9, .inl (cI, 81, .inl (fun _ => 0))), (q_11, .inl (cI, 81, .inl (fun _ => 0))), (q_13, .inl (cI, 81, .inl (fun _ => 0))), (q_15, .inl (cI, 81, .inl (fun _ => 0))), (q_17, .inl (cI, 81, .inl (fun _ => 0))), (q_19, .inl (cI, 81, .inl (fun _ => 0))), (q_21, .inl (cI, 648, .inl (fun _ => 0))), (q_23, .inl (cI, 648, .inl (fun _ => 0)))] H := hP
  have hD : va_D A [(q, .inr (3, [.int 0, .ref q_1, .int 0, .ref q_3, .ref q_5, .ref q_7, .ref q_9, .ref q_11, .ref q_13, .ref q_15, .ref q_17, .ref q_19, .ref q_21, .ref q_23, .int 0, .int 0, .null, .int 0, .null])), (q_1, .inl (cI, 8, .inl (fun _ => 0))), (q_3, .inl (cI, 81, .inl (fun _ => 0))), (q_5, .inl (cI, 81, .inl (fun _ => 0))), (q_7, .inl (cI, 81, .inl (fun _ => 0))), (q_9, .inl (cI, 81, .inl (fun _ => 0))), (q_11, .inl (cI, 81, .inl (fun _ => 0))), (q_13, .inl (cI, 81, .inl (fun _ => 0))), (q_15, .inl (cI, 81, .inl (fun _ => 0))), (q_17, .inl (cI, 81, .inl (fun _ => 0))), (q_19, .inl (cI, 81, .inl (fun _ => 0))), (q_21, .inl (cI, 648, .inl (fun _ => 0))), (q_23, .inl (cI, 648, .inl (fun _ => 0)))] := hD
  have hBH := hB.at hS hA0
  refine lv_aload_n hx hb d_D_init_102 rfl (lv_at hl 0 rfl) ?_
  refine lv_bipush (v := 80) hx hb d_D_init_103 (by decide) ?_
  refine va_newa (atype := .int) hx hb (hts (Cond.arrayClass .int) mw_43) (ty := .int) rfl hK hP hD hS hA (n := 80) (N' := 80) (a0 := (80, .inl (fun _ => 0))) (fun _ => rfl) (by decide) (by decide) (by decide) (Nat.le_of_ble_eq_true rfl) (Nat.le_of_ble_eq_true rfl) d_D_init_105 (fun q_25 cA_26 H hK1 hP hD hS => ?_)
  rw [mr_sameI hK1] at hP hD
  clear hK1
  have hP : va_P (dC, dI) mr_cl [(q, .inr (3, [.int 0, .ref q_1, .int 0, .ref q_3, .ref q_5, .ref q_7, .ref q_9, .ref q_11, .ref q_13, .ref q_15, .ref q_17, .ref q_19, .ref q_21, .ref q_23, .int 0, .int 0, .null, .int 0, .null])), (q_1, .inl (cI, 8, .inl (fun _ => 0))), (q_3, .inl (cI, 81, .inl (fun _ => 0))), (q_5, .inl (cI, 81, .inl (fun _ => 0))), (q_7, .inl (cI, 81, .inl (fun _ => 0))), (q_9, .inl (cI, 81, .inl (fun _ => 0))), (q_11, .inl (cI, 81, .inl (fun _ => 0))), (q_13, .inl (cI, 81, .inl (fun _ => 0))), (q_15, .inl (cI, 81, .inl (fun _ => 0))), (q_17, .inl (cI, 81, .inl (fun _ => 0))), (q_19, .inl (cI, 81, .inl (fun _ => 0))), (q_21, .inl (cI, 648, .inl (fun _ => 0))), (q_23, .inl (cI, 648, .inl (fun _ => 0))), (q_25, .inl (cI, 80, .inl (fun _ => 0)))] H := hP
  have hD : va_D A [(q, .inr (3, [.int 0, .ref q_1, .int 0, .ref q_3, .ref q_5, .ref q_7, .ref q_9, .ref q_11, .ref q_13, .ref q_15, .ref q_17, .ref q_19, .ref q_21, .ref q_23, .int 0, .int 0, .null, .int 0, .null])), (q_1, .inl (cI, 8, .inl (fun _ => 0))), (q_3, .inl (cI, 81, .inl (fun _ => 0))), (q_5, .inl (cI, 81, .inl (fun _ => 0))), (q_7, .inl (cI, 81, .inl (fun _ => 0))), (q_9, .inl (cI, 81, .inl (fun _ => 0))), (q_11, .inl (cI, 81, .inl (fun _ => 0))), (q_13, .inl (cI, 81, .inl (fun _ => 0))), (q_15, .inl (cI, 81, .inl (fun _ => 0))), (q_17, .inl (cI, 81, .inl (fun _ => 0))), (q_19, .inl (cI, 81, .inl (fun _ => 0))), (q_21, .inl (cI, 648, .inl (fun _ => 0))), (q_23, .inl (cI, 648, .inl (fun _ => 0))), (q_25, .inl (cI, 80, .inl (fun _ => 0)))] := hD
  have hBH := hB.at hS hA0
  refine W.widen (k := 13) (n := 2113) (by omega) (by omega) ?_
  refine va_putF (D := (dC, dI)) (ci := 3) (v := .ref q_25) (ty := (.array .int)) (C := R_D) (T := T_D) (N := 19) hx hb hts ti_D t_D to_D tn_D hown hK hP hD hS 0 rfl rfl 16 (by decide) (hts (Cond.fieldLink "MeasureRowsModel" 46 "MeasureRowsModel" "list" "[I") mw_313) (fun _ h9 => h9) rfl hin rfl (by decide +kernel) rfl rfl (Nat.le_of_ble_eq_true rfl) d_D_init_107 (fun H locs hP hD hS => ?_)
  have hP : va_P (dC, dI) mr_cl [(q, .inr (3, [.int 0, .ref q_1, .int 0, .ref q_3, .ref q_5, .ref q_7, .ref q_9, .ref q_11, .ref q_13, .ref q_15, .ref q_17, .ref q_19, .ref q_21, .ref q_23, .int 0, .int 0, .ref q_25, .int 0, .null])), (q_1, .inl (cI, 8, .inl (fun _ => 0))), (q_3, .inl (cI, 81, .inl (fun _ => 0))), (q_5, .inl (cI, 81, .inl (fun _ => 0))), (q_7, .inl (cI, 81, .inl (fun _ => 0))), (q_9, .inl (cI, 81, .inl (fun _ => 0))), (q_11, .inl (cI, 81, .inl (fun _ => 0))), (q_13, .inl (cI, 81, .inl (fun _ => 0))), (q_15, .inl (cI, 81, .inl (fun _ => 0))), (q_17, .inl (cI, 81, .inl (fun _ => 0))), (q_19, .inl (cI, 81, .inl (fun _ => 0))), (q_21, .inl (cI, 648, .inl (fun _ => 0))), (q_23, .inl (cI, 648, .inl (fun _ => 0))), (q_25, .inl (cI, 80, .inl (fun _ => 0)))] H := hP
  have hD : va_D A [(q, .inr (3, [.int 0, .ref q_1, .int 0, .ref q_3, .ref q_5, .ref q_7, .ref q_9, .ref q_11, .ref q_13, .ref q_15, .ref q_17, .ref q_19, .ref q_21, .ref q_23, .int 0, .int 0, .ref q_25, .int 0, .null])), (q_1, .inl (cI, 8, .inl (fun _ => 0))), (q_3, .inl (cI, 81, .inl (fun _ => 0))), (q_5, .inl (cI, 81, .inl (fun _ => 0))), (q_7, .inl (cI, 81, .inl (fun _ => 0))), (q_9, .inl (cI, 81, .inl (fun _ => 0))), (q_11, .inl (cI, 81, .inl (fun _ => 0))), (q_13, .inl (cI, 81, .inl (fun _ => 0))), (q_15, .inl (cI, 81, .inl (fun _ => 0))), (q_17, .inl (cI, 81, .inl (fun _ => 0))), (q_19, .inl (cI, 81, .inl (fun _ => 0))), (q_21, .inl (cI, 648, .inl (fun _ => 0))), (q_23, .inl (cI, 648, .inl (fun _ => 0))), (q_25, .inl (cI, 80, .inl (fun _ => 0)))] := hD
  have hBH := hB.at hS hA0
  refine lv_aload_n hx hb d_D_init_110 rfl (lv_at hl 0 rfl) ?_
  refine lv_bipush (v := 81) hx hb d_D_init_111 (by decide) ?_
  refine va_newa (atype := .boolean) hx hb (hts (Cond.arrayClass .boolean) mw_345) (ty := .boolean) rfl hK hP hD hS hA (n := 81) (N' := 81) (a0 := (81, .inl (fun _ => 0))) (fun _ => rfl) (by decide) (by decide) (by decide) (Nat.le_of_ble_eq_true rfl) (Nat.le_of_ble_eq_true rfl) d_D_init_113 (fun q_27 cA_28 H hK1 hP hD hS => ?_)
  rw [mr_sameZ hK1] at hP hD
  clear hK1
  have hP : va_P (dC, dI) mr_cl [(q, .inr (3, [.int 0, .ref q_1, .int 0, .ref q_3, .ref q_5, .ref q_7, .ref q_9, .ref q_11, .ref q_13, .ref q_15, .ref q_17, .ref q_19, .ref q_21, .ref q_23, .int 0, .int 0, .ref q_25, .int 0, .null])), (q_1, .inl (cI, 8, .inl (fun _ => 0))), (q_3, .inl (cI, 81, .inl (fun _ => 0))), (q_5, .inl (cI, 81, .inl (fun _ => 0))), (q_7, .inl (cI, 81, .inl (fun _ => 0))), (q_9, .inl (cI, 81, .inl (fun _ => 0))), (q_11, .inl (cI, 81, .inl (fun _ => 0))), (q_13, .inl (cI, 81, .inl (fun _ => 0))), (q_15, .inl (cI, 81, .inl (fun _ => 0))), (q_17, .inl (cI, 81, .inl (fun _ => 0))), (q_19, .inl (cI, 81, .inl (fun _ => 0))), (q_21, .inl (cI, 648, .inl (fun _ => 0))), (q_23, .inl (cI, 648, .inl (fun _ => 0))), (q_25, .inl (cI, 80, .inl (fun _ => 0))), (q_27, .inl (cZ, 81, .inl (fun _ => 0)))] H := hP
  have hD : va_D A [(q, .inr (3, [.int 0, .ref q_1, .int 0, .ref q_3, .ref q_5, .ref q_7, .ref q_9, .ref q_11, .ref q_13, .ref q_15, .ref q_17, .ref q_19, .ref q_21, .ref q_23, .int 0, .int 0, .ref q_25, .int 0, .null])), (q_1, .inl (cI, 8, .inl (fun _ => 0))), (q_3, .inl (cI, 81, .inl (fun _ => 0))), (q_5, .inl (cI, 81, .inl (fun _ => 0))), (q_7, .inl (cI, 81, .inl (fun _ => 0))), (q_9, .inl (cI, 81, .inl (fun _ => 0))), (q_11, .inl (cI, 81, .inl (fun _ => 0))), (q_13, .inl (cI, 81, .inl (fun _ => 0))), (q_15, .inl (cI, 81, .inl (fun _ => 0))), (q_17, .inl (cI, 81, .inl (fun _ => 0))), (q_19, .inl (cI, 81, .inl (fun _ => 0))), (q_21, .inl (cI, 648, .inl (fun _ => 0))), (q_23, .inl (cI, 648, .inl (fun _ => 0))), (q_25, .inl (cI, 80, .inl (fun _ => 0))), (q_27, .inl (cZ, 81, .inl (fun _ => 0)))] := hD
  have hBH := hB.at hS hA0
  refine W.widen (k := 14) (n := 2194) (by omega) (by omega) ?_
  refine va_putF (D := (dC, dI)) (ci := 3) (v := .ref q_27) (ty := (.array .boolean)) (C := R_D) (T := T_D) (N := 19) hx hb hts ti_D t_D to_D tn_D hown hK hP hD hS 0 rfl rfl 18 (by decide) (hts (Cond.fieldLink "MeasureRowsModel" 49 "MeasureRowsModel" "good" "[Z") mw_333) (fun _ h9 => h9) rfl hin rfl (by decide +kernel) rfl rfl (Nat.le_of_ble_eq_true rfl) d_D_init_115 (fun H locs hP hD hS => ?_)
  have hP : va_P (dC, dI) mr_cl [(q, .inr (3, [.int 0, .ref q_1, .int 0, .ref q_3, .ref q_5, .ref q_7, .ref q_9, .ref q_11, .ref q_13, .ref q_15, .ref q_17, .ref q_19, .ref q_21, .ref q_23, .int 0, .int 0, .ref q_25, .int 0, .ref q_27])), (q_1, .inl (cI, 8, .inl (fun _ => 0))), (q_3, .inl (cI, 81, .inl (fun _ => 0))), (q_5, .inl (cI, 81, .inl (fun _ => 0))), (q_7, .inl (cI, 81, .inl (fun _ => 0))), (q_9, .inl (cI, 81, .inl (fun _ => 0))), (q_11, .inl (cI, 81, .inl (fun _ => 0))), (q_13, .inl (cI, 81, .inl (fun _ => 0))), (q_15, .inl (cI, 81, .inl (fun _ => 0))), (q_17, .inl (cI, 81, .inl (fun _ => 0))), (q_19, .inl (cI, 81, .inl (fun _ => 0))), (q_21, .inl (cI, 648, .inl (fun _ => 0))), (q_23, .inl (cI, 648, .inl (fun _ => 0))), (q_25, .inl (cI, 80, .inl (fun _ => 0))), (q_27, .inl (cZ, 81, .inl (fun _ => 0)))] H := hP
  have hD : va_D A [(q, .inr (3, [.int 0, .ref q_1, .int 0, .ref q_3, .ref q_5, .ref q_7, .ref q_9, .ref q_11, .ref q_13, .ref q_15, .ref q_17, .ref q_19, .ref q_21, .ref q_23, .int 0, .int 0, .ref q_25, .int 0, .ref q_27])), (q_1, .inl (cI, 8, .inl (fun _ => 0))), (q_3, .inl (cI, 81, .inl (fun _ => 0))), (q_5, .inl (cI, 81, .inl (fun _ => 0))), (q_7, .inl (cI, 81, .inl (fun _ => 0))), (q_9, .inl (cI, 81, .inl (fun _ => 0))), (q_11, .inl (cI, 81, .inl (fun _ => 0))), (q_13, .inl (cI, 81, .inl (fun _ => 0))), (q_15, .inl (cI, 81, .inl (fun _ => 0))), (q_17, .inl (cI, 81, .inl (fun _ => 0))), (q_19, .inl (cI, 81, .inl (fun _ => 0))), (q_21, .inl (cI, 648, .inl (fun _ => 0))), (q_23, .inl (cI, 648, .inl (fun _ => 0))), (q_25, .inl (cI, 80, .inl (fun _ => 0))), (q_27, .inl (cZ, 81, .inl (fun _ => 0)))] := hD
  have hBH := hB.at hS hA0
  obtain ⟨rr, hrr⟩ : ∃ rr : Nat → Nat, rr = fun k => match k with | 0 => q | 1 => q_1 | 3 => q_3 | 4 => q_5 | 5 => q_7 | 6 => q_9 | 7 => q_11 | 8 => q_13 | 9 => q_15 | 10 => q_17 | 11 => q_19 | 12 => q_21 | 13 => q_23 | 16 => q_25 | _ => q_27 := ⟨_, rfl⟩
  have hP9 : va_P (dC, dI) mr_cl [((rr 0), .inr (3, mf_D rr 0 0 0 0 0)), ((rr 1), .inl (cI, 8, .inl (fun _ => 0))), ((rr 3), .inl (cI, 81, .inl (fun _ => 0))), ((rr 4), .inl (cI, 81, .inl (fun _ => 0))), ((rr 5), .inl (cI, 81, .inl (fun _ => 0))), ((rr 6), .inl (cI, 81, .inl (fun _ => 0))), ((rr 7), .inl (cI, 81, .inl (fun _ => 0))), ((rr 8), .inl (cI, 81, .inl (fun _ => 0))), ((rr 9), .inl (cI, 81, .inl (fun _ => 0))), ((rr 10), .inl (cI, 81, .inl (fun _ => 0))), ((rr 11), .inl (cI, 81, .inl (fun _ => 0))), ((rr 12), .inl (cI, 648, .inl (fun _ => 0))), ((rr 13), .inl (cI, 648, .inl (fun _ => 0))), ((rr 16), .inl (cI, 80, .inl (fun _ => 0))), ((rr 18), .inl (cZ, 81, .inl (fun _ => 0)))] H := by rw [hrr]; exact hP.sub [0, 1, 2, 3, 4, 5, 6, 7, 8, 9, 10, 11, 12, 13, 14] rfl
  have hD9 : va_D A [((rr 0), .inr (3, mf_D rr 0 0 0 0 0)), ((rr 1), .inl (cI, 8, .inl (fun _ => 0))), ((rr 3), .inl (cI, 81, .inl (fun _ => 0))), ((rr 4), .inl (cI, 81, .inl (fun _ => 0))), ((rr 5), .inl (cI, 81, .inl (fun _ => 0))), ((rr 6), .inl (cI, 81, .inl (fun _ => 0))), ((rr 7), .inl (cI, 81, .inl (fun _ => 0))), ((rr 8), .inl (cI, 81, .inl (fun _ => 0))), ((rr 9), .inl (cI, 81, .inl (fun _ => 0))), ((rr 10), .inl (cI, 81, .inl (fun _ => 0))), ((rr 11), .inl (cI, 81, .inl (fun _ => 0))), ((rr 12), .inl (cI, 648, .inl (fun _ => 0))), ((rr 13), .inl (cI, 648, .inl (fun _ => 0))), ((rr 16), .inl (cI, 80, .inl (fun _ => 0))), ((rr 18), .inl (cZ, 81, .inl (fun _ => 0)))] := by rw [hrr]; exact hD.sub [0, 1, 2, 3, 4, 5, 6, 7, 8, 9, 10, 11, 12, 13, 14] (by decide) rfl
  exact W.vret hx hb hr (fun t ht hW => ⟨⟨rr, rfl, by show rr 0 = q; subst hrr; rfl, by rw [ht]; exact hP9, va_K.moved hW.alike hK, hD9⟩, hS.F ht⟩) hS.2.2 d_D_init_118
