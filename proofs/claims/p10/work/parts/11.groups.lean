theorem mr_i16 {x : Int32} (h1 : ¬ x < 16) (h2 : ¬ 24 ≤ x) : x = 16 ∨ x = 17 ∨ x = 18 ∨ x = 19 ∨ x = 20 ∨ x = 21 ∨ x = 22 ∨ x = 23 := by
  rw [Int32.lt_iff_toInt_lt] at h1
  rw [Int32.le_iff_toInt_le] at h2
  have a1 : (16 : Int32).toInt = 16 := by decide
  have a2 : (24 : Int32).toInt = 24 := by decide
  have key : ∀ k : Int32, x.toInt = k.toInt → x = k := fun k h => Int32.toInt_inj.mp h
  have e : x.toInt = 16 ∨ x.toInt = 17 ∨ x.toInt = 18 ∨ x.toInt = 19 ∨ x.toInt = 20 ∨ x.toInt = 21 ∨ x.toInt = 22 ∨ x.toInt = 23 := by omega
  rcases e with e | e | e | e | e | e | e | e
  · exact Or.inl (key _ e)
  · exact Or.inr (Or.inl (key _ e))
  · exact Or.inr (Or.inr (Or.inl (key _ e)))
  · exact Or.inr (Or.inr (Or.inr (Or.inl (key _ e))))
  · exact Or.inr (Or.inr (Or.inr (Or.inr (Or.inl (key _ e)))))
  · exact Or.inr (Or.inr (Or.inr (Or.inr (Or.inr (Or.inl (key _ e))))))
  · exact Or.inr (Or.inr (Or.inr (Or.inr (Or.inr (Or.inr (Or.inl (key _ e)))))))
  · exact Or.inr (Or.inr (Or.inr (Or.inr (Or.inr (Or.inr (Or.inr (key _ e)))))))
theorem mr_i8 {x : Int32} (h1 : ¬ x < 16) (h2 : ¬ 24 ≤ x) : vp_in (x - 16) 8 := by
  rcases mr_i16 h1 h2 with h | h | h | h | h | h | h | h <;> rw [h] <;> unfold vp_in <;> decide
theorem mr_gi {x : Int32} (h : ¬ mv_M_isGroup x = 0) : vp_in (x - 16) 8 := by
  unfold mv_M_isGroup at h
  by_cases h1 : x < 16
  · rw [if_pos h1] at h; exact absurd rfl h
  · rw [if_neg h1] at h
    by_cases h2 : 24 ≤ x
    · rw [if_pos h2] at h; exact absurd rfl h
    · exact mr_i8 h1 h2
theorem mw_24 : Cond.methodLinkNest "MeasureRows$Groups" 18 y_M_isGroup "MeasureRows" ∈ lw_tbl := by decide +kernel
theorem mw_25 : Cond.fieldLink "MeasureRows$Groups" 15 "MeasureRows$Groups" "inside" "[I" ∈ lw_tbl := by decide +kernel
theorem mw_26 : Cond.code y_G_insideOf b_G_insideOf 2 (some .int) ∈ lw_tbl := by decide +kernel
theorem mw_27 : Cond.initialized y_G_insideOf.cls ∈ lw_tbl := by decide +kernel
theorem mw_28 : Cond.methodLink "MeasureRows$Groups" 29 y_G_insideOf ∈ lw_tbl := by decide +kernel
theorem mw_29 : Cond.instanceMethod y_G_insideOf ∈ lw_tbl := by decide +kernel
theorem mw_30 : Cond.selects "MeasureRows$Groups" y_G_insideOf y_G_insideOf ∈ lw_tbl := by decide +kernel
theorem mw_31 : Cond.code y_M_hasBit b_M_hasBit 2 (some .boolean) ∈ lw_tbl := by decide +kernel
theorem mw_32 : Cond.initialized y_M_hasBit.cls ∈ lw_tbl := by decide +kernel
theorem mw_33 : Cond.methodLinkNest "MeasureRows$Groups" 22 y_M_hasBit "MeasureRows" ∈ lw_tbl := by decide +kernel
theorem mw_34 : Cond.static y_M_hasBit ∈ lw_tbl := by decide +kernel
theorem mw_35 : Cond.constant "MeasureRows$Groups" 33 65535 ∈ lw_tbl := by decide +kernel
theorem mw_36 : Cond.code y_I_bitCount b_I_bitCount 1 (some .int) ∈ lw_tbl := by decide +kernel
theorem mw_37 : Cond.initialized y_I_bitCount.cls ∈ lw_tbl := by decide +kernel
theorem mw_38 : Cond.methodLink "MeasureRows$Groups" 34 y_I_bitCount ∈ lw_tbl := by decide +kernel
theorem mw_39 : Cond.static y_I_bitCount ∈ lw_tbl := by decide +kernel
def mv_G_insideOf (fi : Nat → Int32) (a0 : Int32) : Int32 := if (mv_M_isGroup a0) = 0 then 0 else (fi (a0 - 16).toNatClampNeg)
set_option maxHeartbeats 4000000 in
set_option maxRecDepth 100000 in
theorem mc_G_insideOf (l : Launch) (s0 : State) (dC : Nat → ClassId) (dI : Nat → Nat → Nat) (cI cR cL cZ : ClassId) (q gm gi : Nat) (fi : Nat → Int32) (a0 : Int32) : Met l y_G_insideOf [Cond.code y_G_insideOf b_G_insideOf 2 (some .int)] ({ frames := 1, cells := 0, slots := 0, locals := 20 }) (mr_PW s0 (dC, dI) [(cI, .int), (cR, .object "MeasureRows$Row"), (cL, .long), (cZ, .boolean)] [.ref q, .int a0] [(q, .inr (1, [.ref gm, .ref gi])), (gi, .inl (cI, 8, .inl fi))]) (vp_Si (fun r => r = mv_G_insideOf fi a0)) 0 0 (fun _ => False) := by
  refine Met.ofW (cc := b_G_insideOf) (maxL := 2) (ret := (some .int)) (by decide) rfl ?_
  intro p e s m args below meth c s₁ B hml hv
  obtain ⟨rfl, hB, hK, hP⟩ := hv
  have hBH := hB.here
  have hx := B.exec
  have hb := B.bytes
  have hr := B.returns
  have hlocks := B.notSynchronized
  have hts : ∀ w ∈ lw_tbl, w.before [.ref q, .int a0].toArray s = true := hB.hts _
  have hown : s.vm.findClass "MeasureRows$Groups" = some m.cls := findClass_of_methodNamed B.named
  have hl := lv_entry ([.ref q, .int a0]) (n := 2) (Nat.le_of_ble_eq_true rfl)
  rw [lg_entry_eq]
  generalize (lg_sl ([.ref q, .int a0]) ++ List.replicate (2 - (lg_sl ([.ref q, .int a0])).length) Slot.unset).toArray = ls at hl ⊢
  have hl : lv_has ls 2 [(0, .ref q), (1, .int a0)] := hl
  refine lv_iload_n hx hb d_G_insideOf_0 rfl (lv_at hl 1 rfl) ?_
  refine vp_callSi (va_Run.run (va_runSN (As := [.int a0]) (rest := []) ⟨hx, hb, hml, hown, hts⟩ (mc_M_isGroup l s0 a0) ⟨(mr_cN 1 (hts (Cond.code y_M_isGroup b_M_isGroup 1 (some .boolean)) mw_5) (hts (Cond.initialized y_M_isGroup.cls) mw_6) (hts (Cond.methodLinkNest "MeasureRows$Groups" 18 y_M_isGroup "MeasureRows") mw_24) rfl rfl (by decide +kernel) ⟨Nat.le_of_ble_eq_true rfl, Nat.le_of_ble_eq_true rfl⟩), (hts (Cond.static y_M_isGroup) mw_8), trivial⟩ (mr_pre0 hBH) rfl rfl hl.1 rfl (lv_room (Nat.le_of_ble_eq_true rfl)) d_G_insideOf_1 ⟨Nat.le_of_ble_eq_true rfl, Nat.le_of_ble_eq_true rfl⟩)) (fun r_1 h_2 => ?_)
  subst h_2
  refine lv_if_eq (tgt := 19) hx hb d_G_insideOf_4 (by decide) (fun c_3 => ?_) (fun c_3 => ?_)
  · refine lv_iconst (v := 0) hx hb d_G_insideOf_19 (by decide) ?_
    exact W.iret (v := 0) hx hb hr (fun t ht _ => ⟨_, rfl, by unfold mv_G_insideOf; rw [if_pos c_3], ht⟩) (fun _ h => nomatch h) d_G_insideOf_20
  · refine lv_aload_n hx hb d_G_insideOf_7 rfl (lv_at hl 0 rfl) ?_
    refine va_get (D := (dC, dI)) (ci := 1) (v := .ref gi) (C := R_G) (T := T_G) (N := 2) hx hb hts ti_G hown hK hP 0 rfl rfl 1 (by decide) (hts (Cond.fieldLink "MeasureRows$Groups" 15 "MeasureRows$Groups" "inside" "[I") mw_25) (fun _ h9 => h9) rfl d_G_insideOf_8 ?_
    refine lv_iload_n hx hb d_G_insideOf_11 rfl (lv_at hl 1 rfl) ?_
    refine lv_bipush (v := 16) hx hb d_G_insideOf_12 (by decide) ?_
    refine lv_isub hx hb d_G_insideOf_14 ?_
    refine va_iald (D := (dC, dI)) hx hb hK hP 1 0 rfl rfl (i := a0 - 16) (mr_gi c_3) d_G_insideOf_15 ?_
    refine lv_goto (tgt := 20) hx hb d_G_insideOf_16 (by decide) ?_
    exact W.iret (v := fi (a0 - 16).toNatClampNeg) hx hb hr (fun t ht _ => ⟨_, rfl, by unfold mv_G_insideOf; rw [if_neg c_3], ht⟩) (fun _ h => nomatch h) d_G_insideOf_20
def mv_G_wouldRing (fi : Nat → Int32) (a0 : Int32) (a1 : Int32) : Int32 := if a1 = a0 then 1 else if (mv_M_hasBit (mv_G_insideOf fi a1) a0) = 0 then 0 else 1
theorem mv_G_wouldRing_b (fi : Nat → Int32) (a0 : Int32) (a1 : Int32) : mr_b01 (mv_G_wouldRing fi a0 a1) := (mr_bi mr_b1 (mr_bi mr_b0 mr_b1))
set_option maxHeartbeats 4000000 in
set_option maxRecDepth 100000 in
theorem mc_G_wouldRing (l : Launch) (s0 : State) (dC : Nat → ClassId) (dI : Nat → Nat → Nat) (cI cR cL cZ : ClassId) (q gm gi : Nat) (fi : Nat → Int32) (a0 : Int32) (a1 : Int32) : Met l y_G_wouldRing [Cond.code y_G_wouldRing b_G_wouldRing 3 (some .boolean)] ({ frames := 2, cells := 0, slots := 0, locals := 41 }) (mr_PW s0 (dC, dI) [(cI, .int), (cR, .object "MeasureRows$Row"), (cL, .long), (cZ, .boolean)] [.ref q, .int a0, .int a1] [(q, .inr (1, [.ref gm, .ref gi])), (gi, .inl (cI, 8, .inl fi))]) (vp_Si (fun r => r = mv_G_wouldRing fi a0 a1)) 0 0 (fun _ => False) := by
  refine Met.ofW (cc := b_G_wouldRing) (maxL := 3) (ret := (some .boolean)) (by decide) rfl ?_
  intro p e s m args below meth c s₁ B hml hv
  obtain ⟨rfl, hB, hK, hP⟩ := hv
  have hBH := hB.here
  have hx := B.exec
  have hb := B.bytes
  have hr := B.returns
  have hlocks := B.notSynchronized
  have hts : ∀ w ∈ lw_tbl, w.before [.ref q, .int a0, .int a1].toArray s = true := hB.hts _
  have hown : s.vm.findClass "MeasureRows$Groups" = some m.cls := findClass_of_methodNamed B.named
  have hl := lv_entry ([.ref q, .int a0, .int a1]) (n := 3) (Nat.le_of_ble_eq_true rfl)
  rw [lg_entry_eq]
  generalize (lg_sl ([.ref q, .int a0, .int a1]) ++ List.replicate (3 - (lg_sl ([.ref q, .int a0, .int a1])).length) Slot.unset).toArray = ls at hl ⊢
  have hl : lv_has ls 3 [(0, .ref q), (1, .int a0), (2, .int a1)] := hl
  refine lv_iload_n hx hb d_G_wouldRing_0 rfl (lv_at hl 2 rfl) ?_
  refine lv_iload_n hx hb d_G_wouldRing_1 rfl (lv_at hl 1 rfl) ?_
  refine lv_icmp_eq (tgt := 17) hx hb d_G_wouldRing_2 (by decide) (fun c_1 => ?_) (fun c_1 => ?_)
  · refine lv_iconst (v := 1) hx hb d_G_wouldRing_17 (by decide) ?_
    refine lv_goto (tgt := 22) hx hb d_G_wouldRing_18 (by decide) ?_
    exact W.zret (v := 1) hx hb hr (mr_narz mr_b1) (fun t ht _ => ⟨_, rfl, by unfold mv_G_wouldRing; rw [if_pos c_1], ht⟩) (fun _ h => nomatch h) d_G_wouldRing_22
  · refine lv_aload_n hx hb d_G_wouldRing_5 rfl (lv_at hl 0 rfl) ?_
    refine lv_iload_n hx hb d_G_wouldRing_6 rfl (lv_at hl 2 rfl) ?_
    refine vp_callSi (va_Run.run (va_runV (As := [.int a1]) (rest := []) (C := R_G) ⟨hx, hb, hml, hown, hts⟩ (mc_G_insideOf l s0 dC dI cI cR cL cZ q gm gi fi a1) ⟨(mr_cB 1 (hts (Cond.code y_G_insideOf b_G_insideOf 2 (some .int)) mw_26) (hts (Cond.initialized y_G_insideOf.cls) mw_27) (hts (Cond.methodLink "MeasureRows$Groups" 29 y_G_insideOf) mw_28) rfl rfl (by decide +kernel) ⟨Nat.le_of_ble_eq_true rfl, Nat.le_of_ble_eq_true rfl⟩), (hts (Cond.instanceMethod y_G_insideOf) mw_29), (hts (Cond.selects "MeasureRows$Groups" y_G_insideOf y_G_insideOf) mw_30)⟩ (mr_preV hBH hK (hP.sub (ws' := [(q, .inr (1, [.ref gm, .ref gi])), (gi, .inl (cI, 8, .inl fi))]) [0, 1] rfl) (ci := 1) (q0 := 0) rfl rfl) rfl rfl hl.1 rfl (lv_room (Nat.le_of_ble_eq_true rfl)) d_G_wouldRing_7 ⟨Nat.le_of_ble_eq_true rfl, Nat.le_of_ble_eq_true rfl⟩)) (fun r_2 h_3 => ?_)
    subst h_3
    refine lv_iload_n hx hb d_G_wouldRing_10 rfl (lv_at hl 1 rfl) ?_
    refine vp_callSi (va_Run.run (va_runSN (As := [.int (mv_G_insideOf fi a1), .int a0]) (rest := []) ⟨hx, hb, hml, hown, hts⟩ (mc_M_hasBit l s0 (mv_G_insideOf fi a1) a0) ⟨(mr_cN 2 (hts (Cond.code y_M_hasBit b_M_hasBit 2 (some .boolean)) mw_31) (hts (Cond.initialized y_M_hasBit.cls) mw_32) (hts (Cond.methodLinkNest "MeasureRows$Groups" 22 y_M_hasBit "MeasureRows") mw_33) rfl rfl (by decide +kernel) ⟨Nat.le_of_ble_eq_true rfl, Nat.le_of_ble_eq_true rfl⟩), (hts (Cond.static y_M_hasBit) mw_34), trivial⟩ (mr_pre0 hBH) rfl rfl hl.1 rfl (lv_room (Nat.le_of_ble_eq_true rfl)) d_G_wouldRing_11 ⟨Nat.le_of_ble_eq_true rfl, Nat.le_of_ble_eq_true rfl⟩)) (fun r_4 h_5 => ?_)
    subst h_5
    refine lv_if_eq (tgt := 21) hx hb d_G_wouldRing_14 (by decide) (fun c_6 => ?_) (fun c_6 => ?_)
    · refine lv_iconst (v := 0) hx hb d_G_wouldRing_21 (by decide) ?_
      exact W.zret (v := 0) hx hb hr (mr_narz mr_b0) (fun t ht _ => ⟨_, rfl, by unfold mv_G_wouldRing; rw [if_neg c_1, if_pos c_6], ht⟩) (fun _ h => nomatch h) d_G_wouldRing_22
    · refine lv_iconst (v := 1) hx hb d_G_wouldRing_17 (by decide) ?_
      refine lv_goto (tgt := 22) hx hb d_G_wouldRing_18 (by decide) ?_
      exact W.zret (v := 1) hx hb hr (mr_narz mr_b1) (fun t ht _ => ⟨_, rfl, by unfold mv_G_wouldRing; rw [if_neg c_1, if_neg c_6], ht⟩) (fun _ h => nomatch h) d_G_wouldRing_22
def mv_G_reaches (fi : Nat → Int32) (a0 : Int32) (a1 : Int32) : Int32 := if a0 = 31 then 1 else if (mv_M_hasBit (mv_G_insideOf fi a0) a1) = 0 then 0 else 1
theorem mv_G_reaches_b (fi : Nat → Int32) (a0 : Int32) (a1 : Int32) : mr_b01 (mv_G_reaches fi a0 a1) := (mr_bi mr_b1 (mr_bi mr_b0 mr_b1))
set_option maxHeartbeats 4000000 in
set_option maxRecDepth 100000 in
theorem mc_G_reaches (l : Launch) (s0 : State) (dC : Nat → ClassId) (dI : Nat → Nat → Nat) (cI cR cL cZ : ClassId) (q gm gi : Nat) (fi : Nat → Int32) (a0 : Int32) (a1 : Int32) : Met l y_G_reaches [Cond.code y_G_reaches b_G_reaches 3 (some .boolean)] ({ frames := 2, cells := 0, slots := 0, locals := 41 }) (mr_PW s0 (dC, dI) [(cI, .int), (cR, .object "MeasureRows$Row"), (cL, .long), (cZ, .boolean)] [.ref q, .int a0, .int a1] [(q, .inr (1, [.ref gm, .ref gi])), (gi, .inl (cI, 8, .inl fi))]) (vp_Si (fun r => r = mv_G_reaches fi a0 a1)) 0 0 (fun _ => False) := by
  refine Met.ofW (cc := b_G_reaches) (maxL := 3) (ret := (some .boolean)) (by decide) rfl ?_
  intro p e s m args below meth c s₁ B hml hv
  obtain ⟨rfl, hB, hK, hP⟩ := hv
  have hBH := hB.here
  have hx := B.exec
  have hb := B.bytes
  have hr := B.returns
  have hlocks := B.notSynchronized
  have hts : ∀ w ∈ lw_tbl, w.before [.ref q, .int a0, .int a1].toArray s = true := hB.hts _
  have hown : s.vm.findClass "MeasureRows$Groups" = some m.cls := findClass_of_methodNamed B.named
  have hl := lv_entry ([.ref q, .int a0, .int a1]) (n := 3) (Nat.le_of_ble_eq_true rfl)
  rw [lg_entry_eq]
  generalize (lg_sl ([.ref q, .int a0, .int a1]) ++ List.replicate (3 - (lg_sl ([.ref q, .int a0, .int a1])).length) Slot.unset).toArray = ls at hl ⊢
  have hl : lv_has ls 3 [(0, .ref q), (1, .int a0), (2, .int a1)] := hl
  refine lv_iload_n hx hb d_G_reaches_0 rfl (lv_at hl 1 rfl) ?_
  refine lv_bipush (v := 31) hx hb d_G_reaches_1 (by decide) ?_
  refine lv_icmp_eq (tgt := 18) hx hb d_G_reaches_3 (by decide) (fun c_1 => ?_) (fun c_1 => ?_)
  · refine lv_iconst (v := 1) hx hb d_G_reaches_18 (by decide) ?_
    refine lv_goto (tgt := 23) hx hb d_G_reaches_19 (by decide) ?_
    exact W.zret (v := 1) hx hb hr (mr_narz mr_b1) (fun t ht _ => ⟨_, rfl, by unfold mv_G_reaches; rw [if_pos c_1], ht⟩) (fun _ h => nomatch h) d_G_reaches_23
  · refine lv_aload_n hx hb d_G_reaches_6 rfl (lv_at hl 0 rfl) ?_
    refine lv_iload_n hx hb d_G_reaches_7 rfl (lv_at hl 1 rfl) ?_
    refine vp_callSi (va_Run.run (va_runV (As := [.int a0]) (rest := []) (C := R_G) ⟨hx, hb, hml, hown, hts⟩ (mc_G_insideOf l s0 dC dI cI cR cL cZ q gm gi fi a0) ⟨(mr_cB 1 (hts (Cond.code y_G_insideOf b_G_insideOf 2 (some .int)) mw_26) (hts (Cond.initialized y_G_insideOf.cls) mw_27) (hts (Cond.methodLink "MeasureRows$Groups" 29 y_G_insideOf) mw_28) rfl rfl (by decide +kernel) ⟨Nat.le_of_ble_eq_true rfl, Nat.le_of_ble_eq_true rfl⟩), (hts (Cond.instanceMethod y_G_insideOf) mw_29), (hts (Cond.selects "MeasureRows$Groups" y_G_insideOf y_G_insideOf) mw_30)⟩ (mr_preV hBH hK (hP.sub (ws' := [(q, .inr (1, [.ref gm, .ref gi])), (gi, .inl (cI, 8, .inl fi))]) [0, 1] rfl) (ci := 1) (q0 := 0) rfl rfl) rfl rfl hl.1 rfl (lv_room (Nat.le_of_ble_eq_true rfl)) d_G_reaches_8 ⟨Nat.le_of_ble_eq_true rfl, Nat.le_of_ble_eq_true rfl⟩)) (fun r_2 h_3 => ?_)
    subst h_3
    refine lv_iload_n hx hb d_G_reaches_11 rfl (lv_at hl 2 rfl) ?_
    refine vp_callSi (va_Run.run (va_runSN (As := [.int (mv_G_insideOf fi a0), .int a1]) (rest := []) ⟨hx, hb, hml, hown, hts⟩ (mc_M_hasBit l s0 (mv_G_insideOf fi a0) a1) ⟨(mr_cN 2 (hts (Cond.code y_M_hasBit b_M_hasBit 2 (some .boolean)) mw_31) (hts (Cond.initialized y_M_hasBit.cls) mw_32) (hts (Cond.methodLinkNest "MeasureRows$Groups" 22 y_M_hasBit "MeasureRows") mw_33) rfl rfl (by decide +kernel) ⟨Nat.le_of_ble_eq_true rfl, Nat.le_of_ble_eq_true rfl⟩), (hts (Cond.static y_M_hasBit) mw_34), trivial⟩ (mr_pre0 hBH) rfl rfl hl.1 rfl (lv_room (Nat.le_of_ble_eq_true rfl)) d_G_reaches_12 ⟨Nat.le_of_ble_eq_true rfl, Nat.le_of_ble_eq_true rfl⟩)) (fun r_4 h_5 => ?_)
    subst h_5
    refine lv_if_eq (tgt := 22) hx hb d_G_reaches_15 (by decide) (fun c_6 => ?_) (fun c_6 => ?_)
    · refine lv_iconst (v := 0) hx hb d_G_reaches_22 (by decide) ?_
      exact W.zret (v := 0) hx hb hr (mr_narz mr_b0) (fun t ht _ => ⟨_, rfl, by unfold mv_G_reaches; rw [if_neg c_1, if_pos c_6], ht⟩) (fun _ h => nomatch h) d_G_reaches_23
    · refine lv_iconst (v := 1) hx hb d_G_reaches_18 (by decide) ?_
      refine lv_goto (tgt := 23) hx hb d_G_reaches_19 (by decide) ?_
      exact W.zret (v := 1) hx hb hr (mr_narz mr_b1) (fun t ht _ => ⟨_, rfl, by unfold mv_G_reaches; rw [if_neg c_1, if_neg c_6], ht⟩) (fun _ h => nomatch h) d_G_reaches_23
def mv_G_landsIn (fi : Nat → Int32) (a0 : Int32) : Int32 := (mv_I_bitCount ((mv_G_insideOf fi a0) &&& 65535))
set_option maxHeartbeats 4000000 in
set_option maxRecDepth 100000 in
theorem mc_G_landsIn (l : Launch) (s0 : State) (dC : Nat → ClassId) (dI : Nat → Nat → Nat) (cI cR cL cZ : ClassId) (q gm gi : Nat) (fi : Nat → Int32) (a0 : Int32) : Met l y_G_landsIn [Cond.code y_G_landsIn b_G_landsIn 2 (some .int)] ({ frames := 2, cells := 0, slots := 0, locals := 41 }) (mr_PW s0 (dC, dI) [(cI, .int), (cR, .object "MeasureRows$Row"), (cL, .long), (cZ, .boolean)] [.ref q, .int a0] [(q, .inr (1, [.ref gm, .ref gi])), (gi, .inl (cI, 8, .inl fi))]) (vp_Si (fun r => r = mv_G_landsIn fi a0)) 0 0 (fun _ => False) := by
  refine Met.ofW (cc := b_G_landsIn) (maxL := 2) (ret := (some .int)) (by decide) rfl ?_
  intro p e s m args below meth c s₁ B hml hv
  obtain ⟨rfl, hB, hK, hP⟩ := hv
  have hBH := hB.here
  have hx := B.exec
  have hb := B.bytes
  have hr := B.returns
  have hlocks := B.notSynchronized
  have hts : ∀ w ∈ lw_tbl, w.before [.ref q, .int a0].toArray s = true := hB.hts _
  have hown : s.vm.findClass "MeasureRows$Groups" = some m.cls := findClass_of_methodNamed B.named
  have hl := lv_entry ([.ref q, .int a0]) (n := 2) (Nat.le_of_ble_eq_true rfl)
  rw [lg_entry_eq]
  generalize (lg_sl ([.ref q, .int a0]) ++ List.replicate (2 - (lg_sl ([.ref q, .int a0])).length) Slot.unset).toArray = ls at hl ⊢
  have hl : lv_has ls 2 [(0, .ref q), (1, .int a0)] := hl
  refine lv_aload_n hx hb d_G_landsIn_0 rfl (lv_at hl 0 rfl) ?_
  refine lv_iload_n hx hb d_G_landsIn_1 rfl (lv_at hl 1 rfl) ?_
  refine vp_callSi (va_Run.run (va_runV (As := [.int a0]) (rest := []) (C := R_G) ⟨hx, hb, hml, hown, hts⟩ (mc_G_insideOf l s0 dC dI cI cR cL cZ q gm gi fi a0) ⟨(mr_cB 1 (hts (Cond.code y_G_insideOf b_G_insideOf 2 (some .int)) mw_26) (hts (Cond.initialized y_G_insideOf.cls) mw_27) (hts (Cond.methodLink "MeasureRows$Groups" 29 y_G_insideOf) mw_28) rfl rfl (by decide +kernel) ⟨Nat.le_of_ble_eq_true rfl, Nat.le_of_ble_eq_true rfl⟩), (hts (Cond.instanceMethod y_G_insideOf) mw_29), (hts (Cond.selects "MeasureRows$Groups" y_G_insideOf y_G_insideOf) mw_30)⟩ (mr_preV hBH hK (hP.sub (ws' := [(q, .inr (1, [.ref gm, .ref gi])), (gi, .inl (cI, 8, .inl fi))]) [0, 1] rfl) (ci := 1) (q0 := 0) rfl rfl) rfl rfl hl.1 rfl (lv_room (Nat.le_of_ble_eq_true rfl)) d_G_landsIn_2 ⟨Nat.le_of_ble_eq_true rfl, Nat.le_of_ble_eq_true rfl⟩)) (fun r_1 h_2 => ?_)
  subst h_2
  refine lv_ldc (v := 65535) hx hb hown (hts (Cond.constant "MeasureRows$Groups" 33 65535) mw_35) d_G_landsIn_5 ?_
  refine lv_iand hx hb d_G_landsIn_7 ?_
  refine vp_callSi (va_Run.run (va_runS (As := [.int ((mv_G_insideOf fi a0) &&& 65535)]) (rest := []) ⟨hx, hb, hml, hown, hts⟩ (mc_I_bitCount l s0 ((mv_G_insideOf fi a0) &&& 65535)) ⟨(mr_cB 1 (hts (Cond.code y_I_bitCount b_I_bitCount 1 (some .int)) mw_36) (hts (Cond.initialized y_I_bitCount.cls) mw_37) (hts (Cond.methodLink "MeasureRows$Groups" 34 y_I_bitCount) mw_38) rfl rfl (by decide +kernel) ⟨Nat.le_of_ble_eq_true rfl, Nat.le_of_ble_eq_true rfl⟩), (hts (Cond.static y_I_bitCount) mw_39)⟩ (mr_pre0 hBH) rfl rfl hl.1 rfl (lv_room (Nat.le_of_ble_eq_true rfl)) d_G_landsIn_8 ⟨Nat.le_of_ble_eq_true rfl, Nat.le_of_ble_eq_true rfl⟩)) (fun r_3 h_4 => ?_)
  subst h_4
  exact W.iret (v := mv_I_bitCount ((mv_G_insideOf fi a0) &&& 65535)) hx hb hr (fun t ht _ => ⟨_, rfl, rfl, ht⟩) (fun _ h => nomatch h) d_G_landsIn_11
