/-- the last day as of 'on', with j of the told days gone through: (lastDay, latest) -/
def mv_la (ld kd : Nat → Int32) (on : Int32) : Nat → Int32 × Int32
  | 0 => (-1, -1)
  | j + 1 => if kd j ≤ on ∧ (mv_la ld kd on j).2 ≤ kd j then (ld j, kd j) else mv_la ld kd on j
theorem mv_la_y {ld kd : Nat → Int32} {on : Int32} {j : Nat} (h1 : ¬ on < kd j) (h2 : ¬ kd j < (mv_la ld kd on j).2) : mv_la ld kd on (j + 1) = (ld j, kd j) := by
  show (if kd j ≤ on ∧ (mv_la ld kd on j).2 ≤ kd j then (ld j, kd j) else mv_la ld kd on j) = _
  rw [if_pos ⟨Int32.not_lt.mp h1, Int32.not_lt.mp h2⟩]
theorem mv_la_n1 {ld kd : Nat → Int32} {on : Int32} {j : Nat} (h1 : on < kd j) : mv_la ld kd on (j + 1) = mv_la ld kd on j := by
  show (if kd j ≤ on ∧ (mv_la ld kd on j).2 ≤ kd j then (ld j, kd j) else mv_la ld kd on j) = _
  rw [if_neg (fun h => absurd h.1 (Int32.not_le.mpr h1))]
theorem mv_la_n2 {ld kd : Nat → Int32} {on : Int32} {j : Nat} (h2 : kd j < (mv_la ld kd on j).2) : mv_la ld kd on (j + 1) = mv_la ld kd on j := by
  show (if kd j ≤ on ∧ (mv_la ld kd on j).2 ≤ kd j then (ld j, kd j) else mv_la ld kd on j) = _
  rw [if_neg (fun h => absurd h.2 (Int32.not_le.mpr h2))]
theorem mw_97 : Cond.methodLinkNest "MeasureRows$Row" 50 y_M_hasBit "MeasureRows" ∈ lw_tbl := by decide +kernel
theorem mw_98 : Cond.methodLink "MeasureRows$Row" 53 y_I_bitCount ∈ lw_tbl := by decide +kernel
theorem mw_99 : Cond.code y_M_levelOf b_M_levelOf 1 (some .int) ∈ lw_tbl := by decide +kernel
theorem mw_100 : Cond.initialized y_M_levelOf.cls ∈ lw_tbl := by decide +kernel
theorem mw_101 : Cond.methodLinkNest "MeasureRows$Row" 66 y_M_levelOf "MeasureRows" ∈ lw_tbl := by decide +kernel
theorem mw_102 : Cond.static y_M_levelOf ∈ lw_tbl := by decide +kernel
theorem mw_103 : Cond.code y_R_lastDayAsOf b_R_lastDayAsOf 5 (some .int) ∈ lw_tbl := by decide +kernel
theorem mw_104 : Cond.initialized y_R_lastDayAsOf.cls ∈ lw_tbl := by decide +kernel
theorem mw_105 : Cond.methodLink "MeasureRows$Row" 63 y_R_lastDayAsOf ∈ lw_tbl := by decide +kernel
theorem mw_106 : Cond.instanceMethod y_R_lastDayAsOf ∈ lw_tbl := by decide +kernel
theorem mw_107 : Cond.selects "MeasureRows$Row" y_R_lastDayAsOf y_R_lastDayAsOf ∈ lw_tbl := by decide +kernel
theorem mw_108 : Cond.code y_R_meets b_R_meets 4 (some .boolean) ∈ lw_tbl := by decide +kernel
theorem mw_109 : Cond.initialized y_R_meets.cls ∈ lw_tbl := by decide +kernel
theorem mw_110 : Cond.methodLink "MeasureRows$Row" 59 y_R_meets ∈ lw_tbl := by decide +kernel
theorem mw_111 : Cond.instanceMethod y_R_meets ∈ lw_tbl := by decide +kernel
theorem mw_112 : Cond.selects "MeasureRows$Row" y_R_meets y_R_meets ∈ lw_tbl := by decide +kernel
theorem mw_113 : Cond.code y_R_mayMark b_R_mayMark 2 (some .boolean) ∈ lw_tbl := by decide +kernel
theorem mw_114 : Cond.initialized y_R_mayMark.cls ∈ lw_tbl := by decide +kernel
theorem mw_115 : Cond.methodLink "MeasureRows$Row" 46 y_R_mayMark ∈ lw_tbl := by decide +kernel
theorem mw_116 : Cond.static y_R_mayMark ∈ lw_tbl := by decide +kernel
def mv_R_mayMark (a0 : Int32) (a1 : Int32) : Int32 := if (mv_M_hasBit a0 a1) = 0 then (if 4 ≤ (mv_I_bitCount a0) then 0 else 1) else 0
theorem mv_R_mayMark_b (a0 : Int32) (a1 : Int32) : mr_b01 (mv_R_mayMark a0 a1) := (mr_bi (mr_bi mr_b0 mr_b1) mr_b0)
set_option maxHeartbeats 4000000 in
set_option maxRecDepth 100000 in
theorem mc_R_mayMark (l : Launch) (s0 : State) (a0 : Int32) (a1 : Int32) : Met l y_R_mayMark [Cond.code y_R_mayMark b_R_mayMark 2 (some .boolean)] ({ frames := 1, cells := 0, slots := 0, locals := 21 }) (va_Pc [.int a0, .int a1] (fun U => mr_B s0 U)) (vp_Si (fun r => r = mv_R_mayMark a0 a1)) 0 0 (fun _ => False) := by
  refine Met.ofW (cc := b_R_mayMark) (maxL := 2) (ret := (some .boolean)) (by decide) rfl ?_
  intro p e s m args below meth c s₁ B hml hv
  obtain ⟨rfl, hB⟩ := hv
  have hBH := hB.here
  have hx := B.exec
  have hb := B.bytes
  have hr := B.returns
  have hlocks := B.notSynchronized
  have hts : ∀ w ∈ lw_tbl, w.before [.int a0, .int a1].toArray s = true := hB.hts _
  have hown : s.vm.findClass "MeasureRows$Row" = some m.cls := findClass_of_methodNamed B.named
  have hl := lv_entry ([.int a0, .int a1]) (n := 2) (Nat.le_of_ble_eq_true rfl)
  rw [lg_entry_eq]
  generalize (lg_sl ([.int a0, .int a1]) ++ List.replicate (2 - (lg_sl ([.int a0, .int a1])).length) Slot.unset).toArray = ls at hl ⊢
  have hl : lv_has ls 2 [(0, .int a0), (1, .int a1)] := hl
  refine lv_iload_n hx hb d_R_mayMark_0 rfl (lv_at hl 0 rfl) ?_
  refine lv_iload_n hx hb d_R_mayMark_1 rfl (lv_at hl 1 rfl) ?_
  refine vp_callSi (va_Run.run (va_runSN (As := [.int a0, .int a1]) (rest := []) ⟨hx, hb, hml, hown, hts⟩ (mc_M_hasBit l s0 a0 a1) ⟨(mr_cN 2 (hts (Cond.code y_M_hasBit b_M_hasBit 2 (some .boolean)) mw_31) (hts (Cond.initialized y_M_hasBit.cls) mw_32) (hts (Cond.methodLinkNest "MeasureRows$Row" 50 y_M_hasBit "MeasureRows") mw_97) rfl rfl (by decide +kernel) ⟨Nat.le_of_ble_eq_true rfl, Nat.le_of_ble_eq_true rfl⟩), (hts (Cond.static y_M_hasBit) mw_34), trivial⟩ (mr_pre0 hBH) rfl rfl hl.1 rfl (lv_room (Nat.le_of_ble_eq_true rfl)) d_R_mayMark_2 ⟨Nat.le_of_ble_eq_true rfl, Nat.le_of_ble_eq_true rfl⟩)) (fun r_1 h_2 => ?_)
  subst h_2
  refine lv_if_ne (tgt := 20) hx hb d_R_mayMark_5 (by decide) (fun c_3 => ?_) (fun c_3 => ?_)
  · refine lv_iconst (v := 0) hx hb d_R_mayMark_20 (by decide) ?_
    exact W.zret (v := 0) hx hb hr (mr_narz mr_b0) (fun t ht _ => ⟨_, rfl, by unfold mv_R_mayMark; rw [if_neg c_3], ht⟩) (fun _ h => nomatch h) d_R_mayMark_21
  · refine lv_iload_n hx hb d_R_mayMark_8 rfl (lv_at hl 0 rfl) ?_
    refine vp_callSi (va_Run.run (va_runS (As := [.int a0]) (rest := []) ⟨hx, hb, hml, hown, hts⟩ (mc_I_bitCount l s0 a0) ⟨(mr_cB 1 (hts (Cond.code y_I_bitCount b_I_bitCount 1 (some .int)) mw_36) (hts (Cond.initialized y_I_bitCount.cls) mw_37) (hts (Cond.methodLink "MeasureRows$Row" 53 y_I_bitCount) mw_98) rfl rfl (by decide +kernel) ⟨Nat.le_of_ble_eq_true rfl, Nat.le_of_ble_eq_true rfl⟩), (hts (Cond.static y_I_bitCount) mw_39)⟩ (mr_pre0 hBH) rfl rfl hl.1 rfl (lv_room (Nat.le_of_ble_eq_true rfl)) d_R_mayMark_9 ⟨Nat.le_of_ble_eq_true rfl, Nat.le_of_ble_eq_true rfl⟩)) (fun r_4 h_5 => ?_)
    subst h_5
    refine lv_iconst (v := 4) hx hb d_R_mayMark_12 (by decide) ?_
    refine lv_icmp_ge (tgt := 20) hx hb d_R_mayMark_13 (by decide) (fun c_6 => ?_) (fun c_6 => ?_)
    · refine lv_iconst (v := 0) hx hb d_R_mayMark_20 (by decide) ?_
      exact W.zret (v := 0) hx hb hr (mr_narz mr_b0) (fun t ht _ => ⟨_, rfl, by unfold mv_R_mayMark; rw [if_pos c_3, if_pos c_6], ht⟩) (fun _ h => nomatch h) d_R_mayMark_21
    · refine lv_iconst (v := 1) hx hb d_R_mayMark_16 (by decide) ?_
      refine lv_goto (tgt := 21) hx hb d_R_mayMark_17 (by decide) ?_
      exact W.zret (v := 1) hx hb hr (mr_narz mr_b1) (fun t ht _ => ⟨_, rfl, by unfold mv_R_mayMark; rw [if_pos c_3, if_neg c_6], ht⟩) (fun _ h => nomatch h) d_R_mayMark_21
def mv_R_isAlike (vc vp vk vr : Int32) (a0 : Int32) (a1 : Int32) (a2 : Int32) (a3 : Int32) : Int32 := if vc = a0 then (if vp = a1 then (if vk = a2 then (if vr = a3 then 1 else 0) else 0) else 0) else 0
theorem mv_R_isAlike_b (vc vp vk vr : Int32) (a0 : Int32) (a1 : Int32) (a2 : Int32) (a3 : Int32) : mr_b01 (mv_R_isAlike vc vp vk vr a0 a1 a2 a3) := (mr_bi (mr_bi (mr_bi (mr_bi mr_b1 mr_b0) mr_b0) mr_b0) mr_b0)
set_option maxHeartbeats 4000000 in
set_option maxRecDepth 100000 in
theorem mc_R_isAlike (l : Launch) (s0 : State) (dC : Nat → ClassId) (dI : Nat → Nat → Nat) (cI cR cL cZ : ClassId) (q ql qk : Nat) (vc vp vf vk vr vn ve vw vt : Int32) (a0 : Int32) (a1 : Int32) (a2 : Int32) (a3 : Int32) : Met l y_R_isAlike [Cond.code y_R_isAlike b_R_isAlike 5 (some .boolean)] ({ frames := 0, cells := 0, slots := 0, locals := 0 }) (mr_PW s0 (dC, dI) [(cI, .int), (cR, .object "MeasureRows$Row"), (cL, .long), (cZ, .boolean)] [.ref q, .int a0, .int a1, .int a2, .int a3] [(q, .inr (2, [.int vc, .int vp, .int vf, .int vk, .int vr, .int vn, .int ve, .int vw, .int vt, .ref ql, .ref qk]))]) (vp_Si (fun r => r = mv_R_isAlike vc vp vk vr a0 a1 a2 a3)) 0 0 (fun _ => False) := by
  refine Met.ofW (cc := b_R_isAlike) (maxL := 5) (ret := (some .boolean)) (by decide) rfl ?_
  intro p e s m args below meth c s₁ B hml hv
  obtain ⟨rfl, hB, hK, hP⟩ := hv
  have hBH := hB.here
  have hx := B.exec
  have hb := B.bytes
  have hr := B.returns
  have hlocks := B.notSynchronized
  have hts : ∀ w ∈ lw_tbl, w.before [.ref q, .int a0, .int a1, .int a2, .int a3].toArray s = true := hB.hts _
  have hown : s.vm.findClass "MeasureRows$Row" = some m.cls := findClass_of_methodNamed B.named
  have hl := lv_entry ([.ref q, .int a0, .int a1, .int a2, .int a3]) (n := 5) (Nat.le_of_ble_eq_true rfl)
  rw [lg_entry_eq]
  generalize (lg_sl ([.ref q, .int a0, .int a1, .int a2, .int a3]) ++ List.replicate (5 - (lg_sl ([.ref q, .int a0, .int a1, .int a2, .int a3])).length) Slot.unset).toArray = ls at hl ⊢
  have hl : lv_has ls 5 [(0, .ref q), (1, .int a0), (2, .int a1), (3, .int a2), (4, .int a3)] := hl
  refine lv_aload_n hx hb d_R_isAlike_0 rfl (lv_at hl 0 rfl) ?_
  refine va_get (D := (dC, dI)) (ci := 2) (v := .int vc) (C := R_R) (T := T_R) (N := 11) hx hb hts ti_R hown hK hP 0 rfl rfl 0 (by decide) (hts (Cond.fieldLink "MeasureRows$Row" 9 "MeasureRows$Row" "code" "I") mw_65) (fun _ h9 => h9) rfl d_R_isAlike_1 ?_
  refine lv_iload_n hx hb d_R_isAlike_4 rfl (lv_at hl 1 rfl) ?_
  refine lv_icmp_ne (tgt := 37) hx hb d_R_isAlike_5 (by decide) (fun c_1 => ?_) (fun c_1 => ?_)
  · refine lv_iconst (v := 0) hx hb d_R_isAlike_37 (by decide) ?_
    exact W.zret (v := 0) hx hb hr (mr_narz mr_b0) (fun t ht _ => ⟨_, rfl, by unfold mv_R_isAlike; rw [if_neg c_1], ht⟩) (fun _ h => nomatch h) d_R_isAlike_38
  · refine lv_aload_n hx hb d_R_isAlike_8 rfl (lv_at hl 0 rfl) ?_
    refine va_get (D := (dC, dI)) (ci := 2) (v := .int vp) (C := R_R) (T := T_R) (N := 11) hx hb hts ti_R hown hK hP 0 rfl rfl 1 (by decide) (hts (Cond.fieldLink "MeasureRows$Row" 15 "MeasureRows$Row" "place" "I") mw_66) (fun _ h9 => h9) rfl d_R_isAlike_9 ?_
    refine lv_iload_n hx hb d_R_isAlike_12 rfl (lv_at hl 2 rfl) ?_
    refine lv_icmp_ne (tgt := 37) hx hb d_R_isAlike_13 (by decide) (fun c_2 => ?_) (fun c_2 => ?_)
    · refine lv_iconst (v := 0) hx hb d_R_isAlike_37 (by decide) ?_
      exact W.zret (v := 0) hx hb hr (mr_narz mr_b0) (fun t ht _ => ⟨_, rfl, by unfold mv_R_isAlike; rw [if_pos c_1, if_neg c_2], ht⟩) (fun _ h => nomatch h) d_R_isAlike_38
    · refine lv_aload_n hx hb d_R_isAlike_16 rfl (lv_at hl 0 rfl) ?_
      refine va_get (D := (dC, dI)) (ci := 2) (v := .int vk) (C := R_R) (T := T_R) (N := 11) hx hb hts ti_R hown hK hP 0 rfl rfl 3 (by decide) (hts (Cond.fieldLink "MeasureRows$Row" 21 "MeasureRows$Row" "kind" "I") mw_68) (fun _ h9 => h9) rfl d_R_isAlike_17 ?_
      refine lv_iload_n hx hb d_R_isAlike_20 rfl (lv_at hl 3 rfl) ?_
      refine lv_icmp_ne (tgt := 37) hx hb d_R_isAlike_21 (by decide) (fun c_3 => ?_) (fun c_3 => ?_)
      · refine lv_iconst (v := 0) hx hb d_R_isAlike_37 (by decide) ?_
        exact W.zret (v := 0) hx hb hr (mr_narz mr_b0) (fun t ht _ => ⟨_, rfl, by unfold mv_R_isAlike; rw [if_pos c_1, if_pos c_2, if_neg c_3], ht⟩) (fun _ h => nomatch h) d_R_isAlike_38
      · refine lv_aload_n hx hb d_R_isAlike_24 rfl (lv_at hl 0 rfl) ?_
        refine va_get (D := (dC, dI)) (ci := 2) (v := .int vr) (C := R_R) (T := T_R) (N := 11) hx hb hts ti_R hown hK hP 0 rfl rfl 4 (by decide) (hts (Cond.fieldLink "MeasureRows$Row" 24 "MeasureRows$Row" "rank" "I") mw_69) (fun _ h9 => h9) rfl d_R_isAlike_25 ?_
        refine lv_iload hx hb d_R_isAlike_28 (lv_at hl 4 rfl) ?_
        refine lv_icmp_ne (tgt := 37) hx hb d_R_isAlike_30 (by decide) (fun c_4 => ?_) (fun c_4 => ?_)
        · refine lv_iconst (v := 0) hx hb d_R_isAlike_37 (by decide) ?_
          exact W.zret (v := 0) hx hb hr (mr_narz mr_b0) (fun t ht _ => ⟨_, rfl, by unfold mv_R_isAlike; rw [if_pos c_1, if_pos c_2, if_pos c_3, if_neg c_4], ht⟩) (fun _ h => nomatch h) d_R_isAlike_38
        · refine lv_iconst (v := 1) hx hb d_R_isAlike_33 (by decide) ?_
          refine lv_goto (tgt := 38) hx hb d_R_isAlike_34 (by decide) ?_
          exact W.zret (v := 1) hx hb hr (mr_narz mr_b1) (fun t ht _ => ⟨_, rfl, by unfold mv_R_isAlike; rw [if_pos c_1, if_pos c_2, if_pos c_3, if_pos c_4], ht⟩) (fun _ h => nomatch h) d_R_isAlike_38
def mv_R_leavesOut (ve : Int32) (a0 : Int32) : Int32 := (mv_M_hasBit ve a0)
theorem mv_R_leavesOut_b (ve : Int32) (a0 : Int32) : mr_b01 (mv_R_leavesOut ve a0) := (mv_M_hasBit_b ve a0)
set_option maxHeartbeats 4000000 in
set_option maxRecDepth 100000 in
theorem mc_R_leavesOut (l : Launch) (s0 : State) (dC : Nat → ClassId) (dI : Nat → Nat → Nat) (cI cR cL cZ : ClassId) (q ql qk : Nat) (vc vp vf vk vr vn ve vw vt : Int32) (a0 : Int32) : Met l y_R_leavesOut [Cond.code y_R_leavesOut b_R_leavesOut 2 (some .boolean)] ({ frames := 1, cells := 0, slots := 0, locals := 21 }) (mr_PW s0 (dC, dI) [(cI, .int), (cR, .object "MeasureRows$Row"), (cL, .long), (cZ, .boolean)] [.ref q, .int a0] [(q, .inr (2, [.int vc, .int vp, .int vf, .int vk, .int vr, .int vn, .int ve, .int vw, .int vt, .ref ql, .ref qk]))]) (vp_Si (fun r => r = mv_R_leavesOut ve a0)) 0 0 (fun _ => False) := by
  refine Met.ofW (cc := b_R_leavesOut) (maxL := 2) (ret := (some .boolean)) (by decide) rfl ?_
  intro p e s m args below meth c s₁ B hml hv
  obtain ⟨rfl, hB, hK, hP⟩ := hv
  have hBH := hB.here
  have hx := B.exec
  have hb := B.bytes
  have hr := B.returns
  have hlocks := B.notSynchronized
  have hts : ∀ w ∈ lw_tbl, w.before [.ref q, .int a0].toArray s = true := hB.hts _
  have hown : s.vm.findClass "MeasureRows$Row" = some m.cls := findClass_of_methodNamed B.named
  have hl := lv_entry ([.ref q, .int a0]) (n := 2) (Nat.le_of_ble_eq_true rfl)
  rw [lg_entry_eq]
  generalize (lg_sl ([.ref q, .int a0]) ++ List.replicate (2 - (lg_sl ([.ref q, .int a0])).length) Slot.unset).toArray = ls at hl ⊢
  have hl : lv_has ls 2 [(0, .ref q), (1, .int a0)] := hl
  refine lv_aload_n hx hb d_R_leavesOut_0 rfl (lv_at hl 0 rfl) ?_
  refine va_get (D := (dC, dI)) (ci := 2) (v := .int ve) (C := R_R) (T := T_R) (N := 11) hx hb hts ti_R hown hK hP 0 rfl rfl 6 (by decide) (hts (Cond.fieldLink "MeasureRows$Row" 30 "MeasureRows$Row" "excluded" "I") mw_71) (fun _ h9 => h9) rfl d_R_leavesOut_1 ?_
  refine lv_iload_n hx hb d_R_leavesOut_4 rfl (lv_at hl 1 rfl) ?_
  refine vp_callSi (va_Run.run (va_runSN (As := [.int ve, .int a0]) (rest := []) ⟨hx, hb, hml, hown, hts⟩ (mc_M_hasBit l s0 ve a0) ⟨(mr_cN 2 (hts (Cond.code y_M_hasBit b_M_hasBit 2 (some .boolean)) mw_31) (hts (Cond.initialized y_M_hasBit.cls) mw_32) (hts (Cond.methodLinkNest "MeasureRows$Row" 50 y_M_hasBit "MeasureRows") mw_97) rfl rfl (by decide +kernel) ⟨Nat.le_of_ble_eq_true rfl, Nat.le_of_ble_eq_true rfl⟩), (hts (Cond.static y_M_hasBit) mw_34), trivial⟩ (mr_pre0 hBH) rfl rfl hl.1 rfl (lv_room (Nat.le_of_ble_eq_true rfl)) d_R_leavesOut_5 ⟨Nat.le_of_ble_eq_true rfl, Nat.le_of_ble_eq_true rfl⟩)) (fun r_1 h_2 => ?_)
  subst h_2
  exact W.zret (v := mv_M_hasBit ve a0) hx hb hr (mr_narz (mv_M_hasBit_b ve a0)) (fun t ht _ => ⟨_, rfl, rfl, ht⟩) (fun _ h => nomatch h) d_R_leavesOut_8
def mv_R_isContentWith (vw : Int32) (a0 : Int32) : Int32 := if vw = 0 then 1 else if (vw &&& a0) = 0 then 0 else 1
theorem mv_R_isContentWith_b (vw : Int32) (a0 : Int32) : mr_b01 (mv_R_isContentWith vw a0) := (mr_bi mr_b1 (mr_bi mr_b0 mr_b1))
set_option maxHeartbeats 4000000 in
set_option maxRecDepth 100000 in
theorem mc_R_isContentWith (l : Launch) (s0 : State) (dC : Nat → ClassId) (dI : Nat → Nat → Nat) (cI cR cL cZ : ClassId) (q ql qk : Nat) (vc vp vf vk vr vn ve vw vt : Int32) (a0 : Int32) : Met l y_R_isContentWith [Cond.code y_R_isContentWith b_R_isContentWith 2 (some .boolean)] ({ frames := 0, cells := 0, slots := 0, locals := 0 }) (mr_PW s0 (dC, dI) [(cI, .int), (cR, .object "MeasureRows$Row"), (cL, .long), (cZ, .boolean)] [.ref q, .int a0] [(q, .inr (2, [.int vc, .int vp, .int vf, .int vk, .int vr, .int vn, .int ve, .int vw, .int vt, .ref ql, .ref qk]))]) (vp_Si (fun r => r = mv_R_isContentWith vw a0)) 0 0 (fun _ => False) := by
  refine Met.ofW (cc := b_R_isContentWith) (maxL := 2) (ret := (some .boolean)) (by decide) rfl ?_
  intro p e s m args below meth c s₁ B hml hv
  obtain ⟨rfl, hB, hK, hP⟩ := hv
  have hBH := hB.here
  have hx := B.exec
  have hb := B.bytes
  have hr := B.returns
  have hlocks := B.notSynchronized
  have hts : ∀ w ∈ lw_tbl, w.before [.ref q, .int a0].toArray s = true := hB.hts _
  have hown : s.vm.findClass "MeasureRows$Row" = some m.cls := findClass_of_methodNamed B.named
  have hl := lv_entry ([.ref q, .int a0]) (n := 2) (Nat.le_of_ble_eq_true rfl)
  rw [lg_entry_eq]
  generalize (lg_sl ([.ref q, .int a0]) ++ List.replicate (2 - (lg_sl ([.ref q, .int a0])).length) Slot.unset).toArray = ls at hl ⊢
  have hl : lv_has ls 2 [(0, .ref q), (1, .int a0)] := hl
  refine lv_aload_n hx hb d_R_isContentWith_0 rfl (lv_at hl 0 rfl) ?_
  refine va_get (D := (dC, dI)) (ci := 2) (v := .int vw) (C := R_R) (T := T_R) (N := 11) hx hb hts ti_R hown hK hP 0 rfl rfl 7 (by decide) (hts (Cond.fieldLink "MeasureRows$Row" 33 "MeasureRows$Row" "wanted" "I") mw_72) (fun _ h9 => h9) rfl d_R_isContentWith_1 ?_
  refine lv_if_eq (tgt := 16) hx hb d_R_isContentWith_4 (by decide) (fun c_1 => ?_) (fun c_1 => ?_)
  · refine lv_iconst (v := 1) hx hb d_R_isContentWith_16 (by decide) ?_
    refine lv_goto (tgt := 21) hx hb d_R_isContentWith_17 (by decide) ?_
    exact W.zret (v := 1) hx hb hr (mr_narz mr_b1) (fun t ht _ => ⟨_, rfl, by unfold mv_R_isContentWith; rw [if_pos c_1], ht⟩) (fun _ h => nomatch h) d_R_isContentWith_21
  · refine lv_aload_n hx hb d_R_isContentWith_7 rfl (lv_at hl 0 rfl) ?_
    refine va_get (D := (dC, dI)) (ci := 2) (v := .int vw) (C := R_R) (T := T_R) (N := 11) hx hb hts ti_R hown hK hP 0 rfl rfl 7 (by decide) (hts (Cond.fieldLink "MeasureRows$Row" 33 "MeasureRows$Row" "wanted" "I") mw_72) (fun _ h9 => h9) rfl d_R_isContentWith_8 ?_
    refine lv_iload_n hx hb d_R_isContentWith_11 rfl (lv_at hl 1 rfl) ?_
    refine lv_iand hx hb d_R_isContentWith_12 ?_
    refine lv_if_eq (tgt := 20) hx hb d_R_isContentWith_13 (by decide) (fun c_2 => ?_) (fun c_2 => ?_)
    · refine lv_iconst (v := 0) hx hb d_R_isContentWith_20 (by decide) ?_
      exact W.zret (v := 0) hx hb hr (mr_narz mr_b0) (fun t ht _ => ⟨_, rfl, by unfold mv_R_isContentWith; rw [if_neg c_1, if_pos c_2], ht⟩) (fun _ h => nomatch h) d_R_isContentWith_21
    · refine lv_iconst (v := 1) hx hb d_R_isContentWith_16 (by decide) ?_
      refine lv_goto (tgt := 21) hx hb d_R_isContentWith_17 (by decide) ?_
      exact W.zret (v := 1) hx hb hr (mr_narz mr_b1) (fun t ht _ => ⟨_, rfl, by unfold mv_R_isContentWith; rw [if_neg c_1, if_neg c_2], ht⟩) (fun _ h => nomatch h) d_R_isContentWith_21
def mv_R_weight (vc vr : Int32) : Int32 := (((mv_M_levelOf vc) * 10) + vr)
set_option maxHeartbeats 4000000 in
set_option maxRecDepth 100000 in
theorem mc_R_weight (l : Launch) (s0 : State) (dC : Nat → ClassId) (dI : Nat → Nat → Nat) (cI cR cL cZ : ClassId) (q ql qk : Nat) (vc vp vf vk vr vn ve vw vt : Int32)  : Met l y_R_weight [Cond.code y_R_weight b_R_weight 1 (some .int)] ({ frames := 1, cells := 0, slots := 0, locals := 20 }) (mr_PW s0 (dC, dI) [(cI, .int), (cR, .object "MeasureRows$Row"), (cL, .long), (cZ, .boolean)] [.ref q] [(q, .inr (2, [.int vc, .int vp, .int vf, .int vk, .int vr, .int vn, .int ve, .int vw, .int vt, .ref ql, .ref qk]))]) (vp_Si (fun r => r = mv_R_weight vc vr )) 0 0 (fun _ => False) := by
  refine Met.ofW (cc := b_R_weight) (maxL := 1) (ret := (some .int)) (by decide) rfl ?_
  intro p e s m args below meth c s₁ B hml hv
  obtain ⟨rfl, hB, hK, hP⟩ := hv
  have hBH := hB.here
  have hx := B.exec
  have hb := B.bytes
  have hr := B.returns
  have hlocks := B.notSynchronized
  have hts : ∀ w ∈ lw_tbl, w.before [.ref q].toArray s = true := hB.hts _
  have hown : s.vm.findClass "MeasureRows$Row" = some m.cls := findClass_of_methodNamed B.named
  have hl := lv_entry ([.ref q]) (n := 1) (Nat.le_of_ble_eq_true rfl)
  rw [lg_entry_eq]
  generalize (lg_sl ([.ref q]) ++ List.replicate (1 - (lg_sl ([.ref q])).length) Slot.unset).toArray = ls at hl ⊢
  have hl : lv_has ls 1 [(0, .ref q)] := hl
  refine lv_aload_n hx hb d_R_weight_0 rfl (lv_at hl 0 rfl) ?_
  refine va_get (D := (dC, dI)) (ci := 2) (v := .int vc) (C := R_R) (T := T_R) (N := 11) hx hb hts ti_R hown hK hP 0 rfl rfl 0 (by decide) (hts (Cond.fieldLink "MeasureRows$Row" 9 "MeasureRows$Row" "code" "I") mw_65) (fun _ h9 => h9) rfl d_R_weight_1 ?_
  refine vp_callSi (va_Run.run (va_runSN (As := [.int vc]) (rest := []) ⟨hx, hb, hml, hown, hts⟩ (mc_M_levelOf l s0 vc) ⟨(mr_cN 1 (hts (Cond.code y_M_levelOf b_M_levelOf 1 (some .int)) mw_99) (hts (Cond.initialized y_M_levelOf.cls) mw_100) (hts (Cond.methodLinkNest "MeasureRows$Row" 66 y_M_levelOf "MeasureRows") mw_101) rfl rfl (by decide +kernel) ⟨Nat.le_of_ble_eq_true rfl, Nat.le_of_ble_eq_true rfl⟩), (hts (Cond.static y_M_levelOf) mw_102), trivial⟩ (mr_pre0 hBH) rfl rfl hl.1 rfl (lv_room (Nat.le_of_ble_eq_true rfl)) d_R_weight_4 ⟨Nat.le_of_ble_eq_true rfl, Nat.le_of_ble_eq_true rfl⟩)) (fun r_1 h_2 => ?_)
  subst h_2
  refine lv_bipush (v := 10) hx hb d_R_weight_7 (by decide) ?_
  refine lv_imul hx hb d_R_weight_9 ?_
  refine lv_aload_n hx hb d_R_weight_10 rfl (lv_at hl 0 rfl) ?_
  refine va_get (D := (dC, dI)) (ci := 2) (v := .int vr) (C := R_R) (T := T_R) (N := 11) hx hb hts ti_R hown hK hP 0 rfl rfl 4 (by decide) (hts (Cond.fieldLink "MeasureRows$Row" 24 "MeasureRows$Row" "rank" "I") mw_69) (fun _ h9 => h9) rfl d_R_weight_11 ?_
  refine lv_iadd hx hb d_R_weight_14 ?_
  exact W.iret (v := ((mv_M_levelOf vc) * 10) + vr) hx hb hr (fun t ht _ => ⟨_, rfl, rfl, ht⟩) (fun _ h => nomatch h) d_R_weight_15
def mv_R_lastDayAsOf (t : Nat) (ld kd : Nat → Int32) (a0 : Int32) : Int32 := (mv_la ld kd a0 t).1
set_option maxHeartbeats 4000000 in
set_option maxRecDepth 100000 in
theorem mc_R_lastDayAsOf (l : Launch) (s0 : State) (dC : Nat → ClassId) (dI : Nat → Nat → Nat) (cI cR cL cZ : ClassId) (q ql qk : Nat) (vc vp vf vk vr vn ve vw : Int32) (t : Nat) (ld kd : Nat → Int32) (a0 : Int32) (ht : t ≤ 8) : Met l y_R_lastDayAsOf [Cond.code y_R_lastDayAsOf b_R_lastDayAsOf 5 (some .int)] ({ frames := 0, cells := 0, slots := 0, locals := 0 }) (mr_PW s0 (dC, dI) [(cI, .int), (cR, .object "MeasureRows$Row"), (cL, .long), (cZ, .boolean)] [.ref q, .int a0] [(q, .inr (2, [.int vc, .int vp, .int vf, .int vk, .int vr, .int vn, .int ve, .int vw, .int (nI t), .ref ql, .ref qk])), (ql, .inl (cI, 8, .inl ld)), (qk, .inl (cI, 8, .inl kd))]) (vp_Si (fun r => r = mv_R_lastDayAsOf t ld kd a0)) 0 0 (fun _ => False) := by
  refine Met.ofW (cc := b_R_lastDayAsOf) (maxL := 5) (ret := (some .int)) (by decide) rfl ?_
  intro p e s m args below meth c s₁ B hml hv
  obtain ⟨rfl, hB, hK, hP⟩ := hv
  have hBH := hB.here
  have hx := B.exec
  have hb := B.bytes
  have hr := B.returns
  have hlocks := B.notSynchronized
  have hts : ∀ w ∈ lw_tbl, w.before [.ref q, .int a0].toArray s = true := hB.hts _
  have hown : s.vm.findClass "MeasureRows$Row" = some m.cls := findClass_of_methodNamed B.named
  have hl := lv_entry ([.ref q, .int a0]) (n := 5) (Nat.le_of_ble_eq_true rfl)
  rw [lg_entry_eq]
  generalize (lg_sl ([.ref q, .int a0]) ++ List.replicate (5 - (lg_sl ([.ref q, .int a0])).length) Slot.unset).toArray = ls at hl ⊢
  have hl : lv_has ls 5 [(0, .ref q), (1, .int a0)] := hl
  refine lv_iconst (v := (-1)) hx hb d_R_lastDayAsOf_0 (by decide) ?_
  refine lv_istore_n (lv' := [(2, .int (-1)), (0, .ref q), (1, .int a0)]) hx hb d_R_lastDayAsOf_1 rfl hl (by decide) rfl (fun ls hl => ?_)
  refine lv_iconst (v := (-1)) hx hb d_R_lastDayAsOf_2 (by decide) ?_
  refine lv_istore_n (lv' := [(3, .int (-1)), (2, .int (-1)), (0, .ref q), (1, .int a0)]) hx hb d_R_lastDayAsOf_3 rfl hl (by decide) rfl (fun ls hl => ?_)
  refine lv_iconst (v := 0) hx hb d_R_lastDayAsOf_4 (by decide) ?_
  refine lv_istore (lv' := [(4, .int 0), (3, .int (-1)), (2, .int (-1)), (0, .ref q), (1, .int a0)]) hx hb d_R_lastDayAsOf_5 hl (by decide) rfl (fun ls hl => ?_)
  refine mr_loop (N := t) (I := fun j H locs ls => H = s.heap ∧ locs = [] ∧ lv_has ls 5 [(4, .int (nI j)), (2, .int ((mv_la ld kd a0 j).1)), (3, .int ((mv_la ld kd a0 j).2)), (0, .ref q), (1, .int a0)]) (fun j H locs ls hj hI ih => ?_) (fun H locs ls hI => ?_) 0 _ _ _ (Nat.zero_le _) ⟨rfl, rfl, (lv_sub hl [0, 2, 1, 3, 4] rfl)⟩
  · obtain ⟨rfl, rfl, hl⟩ := hI
    refine lv_iload hx hb d_R_lastDayAsOf_7 (lv_at hl 0 rfl) ?_
    refine lv_aload_n hx hb d_R_lastDayAsOf_9 rfl (lv_at hl 3 rfl) ?_
    refine va_get (D := (dC, dI)) (ci := 2) (v := .int (nI t)) (C := R_R) (T := T_R) (N := 11) hx hb hts ti_R hown hK hP 0 rfl rfl 8 (by decide) (hts (Cond.fieldLink "MeasureRows$Row" 43 "MeasureRows$Row" "told" "I") mw_75) (fun _ h9 => h9) rfl d_R_lastDayAsOf_10 ?_
    refine lv_icmp_ge (tgt := 60) hx hb d_R_lastDayAsOf_13 (by decide) (fun c_1 => absurd c_1 (nI_ge hj (by omega))) (fun _ => ?_)
    refine lv_aload_n hx hb d_R_lastDayAsOf_16 rfl (lv_at hl 3 rfl) ?_
    refine va_get (D := (dC, dI)) (ci := 2) (v := .ref qk) (C := R_R) (T := T_R) (N := 11) hx hb hts ti_R hown hK hP 0 rfl rfl 10 (by decide) (hts (Cond.fieldLink "MeasureRows$Row" 40 "MeasureRows$Row" "knownDays" "[I") mw_74) (fun _ h9 => h9) rfl d_R_lastDayAsOf_17 ?_
    refine lv_iload hx hb d_R_lastDayAsOf_20 (lv_at hl 0 rfl) ?_
    refine va_iald (D := (dC, dI)) hx hb hK hP 2 0 rfl rfl (i := nI j) (nI_in (Nat.lt_of_lt_of_le hj ht) (by decide)) d_R_lastDayAsOf_22 ?_
    refine mr_top (show kd (nI j).toNatClampNeg = kd j by rw [nI_clamp (by omega)]) ?_
    refine lv_iload_n hx hb d_R_lastDayAsOf_23 rfl (lv_at hl 4 rfl) ?_
    refine lv_icmp_gt (tgt := 54) hx hb d_R_lastDayAsOf_24 (by decide) (fun c_2 => ?_) (fun c_2 => ?_)
    · refine lv_iinc (v := nI (j + 1)) (lv' := [(4, .int (nI (j + 1))), (2, .int ((mv_la ld kd a0 j).1)), (3, .int ((mv_la ld kd a0 j).2)), (0, .ref q), (1, .int a0)]) hx hb d_R_lastDayAsOf_54 hl (k := 0) rfl ((nI_succ j).symm) (by decide) rfl (fun ls hl => ?_)
      refine lv_goto (tgt := 7) hx hb d_R_lastDayAsOf_57 (by decide) ?_
      have e9 := mv_la_n1 (ld := ld) c_2
      exact ih _ _ _ ⟨rfl, rfl, by rw [e9]; exact lv_sub hl [0, 1, 2, 3, 4] rfl⟩
    · refine lv_aload_n hx hb d_R_lastDayAsOf_27 rfl (lv_at hl 3 rfl) ?_
      refine va_get (D := (dC, dI)) (ci := 2) (v := .ref qk) (C := R_R) (T := T_R) (N := 11) hx hb hts ti_R hown hK hP 0 rfl rfl 10 (by decide) (hts (Cond.fieldLink "MeasureRows$Row" 40 "MeasureRows$Row" "knownDays" "[I") mw_74) (fun _ h9 => h9) rfl d_R_lastDayAsOf_28 ?_
      refine lv_iload hx hb d_R_lastDayAsOf_31 (lv_at hl 0 rfl) ?_
      refine va_iald (D := (dC, dI)) hx hb hK hP 2 0 rfl rfl (i := nI j) (nI_in (Nat.lt_of_lt_of_le hj ht) (by decide)) d_R_lastDayAsOf_33 ?_
      refine mr_top (show kd (nI j).toNatClampNeg = kd j by rw [nI_clamp (by omega)]) ?_
      refine lv_iload_n hx hb d_R_lastDayAsOf_34 rfl (lv_at hl 2 rfl) ?_
      refine lv_icmp_lt (tgt := 54) hx hb d_R_lastDayAsOf_35 (by decide) (fun c_3 => ?_) (fun c_3 => ?_)
      · refine lv_iinc (v := nI (j + 1)) (lv' := [(4, .int (nI (j + 1))), (2, .int ((mv_la ld kd a0 j).1)), (3, .int ((mv_la ld kd a0 j).2)), (0, .ref q), (1, .int a0)]) hx hb d_R_lastDayAsOf_54 hl (k := 0) rfl ((nI_succ j).symm) (by decide) rfl (fun ls hl => ?_)
        refine lv_goto (tgt := 7) hx hb d_R_lastDayAsOf_57 (by decide) ?_
        have e9 := mv_la_n2 (ld := ld) c_3
        exact ih _ _ _ ⟨rfl, rfl, by rw [e9]; exact lv_sub hl [0, 1, 2, 3, 4] rfl⟩
      · refine lv_aload_n hx hb d_R_lastDayAsOf_38 rfl (lv_at hl 3 rfl) ?_
        refine va_get (D := (dC, dI)) (ci := 2) (v := .ref qk) (C := R_R) (T := T_R) (N := 11) hx hb hts ti_R hown hK hP 0 rfl rfl 10 (by decide) (hts (Cond.fieldLink "MeasureRows$Row" 40 "MeasureRows$Row" "knownDays" "[I") mw_74) (fun _ h9 => h9) rfl d_R_lastDayAsOf_39 ?_
        refine lv_iload hx hb d_R_lastDayAsOf_42 (lv_at hl 0 rfl) ?_
        refine va_iald (D := (dC, dI)) hx hb hK hP 2 0 rfl rfl (i := nI j) (nI_in (Nat.lt_of_lt_of_le hj ht) (by decide)) d_R_lastDayAsOf_44 ?_
        refine mr_top (show kd (nI j).toNatClampNeg = kd j by rw [nI_clamp (by omega)]) ?_
        refine lv_istore_n (lv' := [(3, .int (kd j)), (4, .int (nI j)), (2, .int ((mv_la ld kd a0 j).1)), (0, .ref q), (1, .int a0)]) hx hb d_R_lastDayAsOf_45 rfl hl (by decide) rfl (fun ls hl => ?_)
        refine lv_aload_n hx hb d_R_lastDayAsOf_46 rfl (lv_at hl 3 rfl) ?_
        refine va_get (D := (dC, dI)) (ci := 2) (v := .ref ql) (C := R_R) (T := T_R) (N := 11) hx hb hts ti_R hown hK hP 0 rfl rfl 9 (by decide) (hts (Cond.fieldLink "MeasureRows$Row" 36 "MeasureRows$Row" "lastDays" "[I") mw_73) (fun _ h9 => h9) rfl d_R_lastDayAsOf_47 ?_
        refine lv_iload hx hb d_R_lastDayAsOf_50 (lv_at hl 1 rfl) ?_
        refine va_iald (D := (dC, dI)) hx hb hK hP 1 0 rfl rfl (i := nI j) (nI_in (Nat.lt_of_lt_of_le hj ht) (by decide)) d_R_lastDayAsOf_52 ?_
        refine mr_top (show ld (nI j).toNatClampNeg = ld j by rw [nI_clamp (by omega)]) ?_
        refine lv_istore_n (lv' := [(2, .int (ld j)), (3, .int (kd j)), (4, .int (nI j)), (0, .ref q), (1, .int a0)]) hx hb d_R_lastDayAsOf_53 rfl hl (by decide) rfl (fun ls hl => ?_)
        refine lv_iinc (v := nI (j + 1)) (lv' := [(4, .int (nI (j + 1))), (2, .int (ld j)), (3, .int (kd j)), (0, .ref q), (1, .int a0)]) hx hb d_R_lastDayAsOf_54 hl (k := 2) rfl ((nI_succ j).symm) (by decide) rfl (fun ls hl => ?_)
        refine lv_goto (tgt := 7) hx hb d_R_lastDayAsOf_57 (by decide) ?_
        have e9 := mv_la_y (ld := ld) c_2 c_3
        exact ih _ _ _ ⟨rfl, rfl, by rw [e9]; exact lv_sub hl [0, 1, 2, 3, 4] rfl⟩
  · obtain ⟨rfl, rfl, hl⟩ := hI
    refine lv_iload hx hb d_R_lastDayAsOf_7 (lv_at hl 0 rfl) ?_
    refine lv_aload_n hx hb d_R_lastDayAsOf_9 rfl (lv_at hl 3 rfl) ?_
    refine va_get (D := (dC, dI)) (ci := 2) (v := .int (nI t)) (C := R_R) (T := T_R) (N := 11) hx hb hts ti_R hown hK hP 0 rfl rfl 8 (by decide) (hts (Cond.fieldLink "MeasureRows$Row" 43 "MeasureRows$Row" "told" "I") mw_75) (fun _ h9 => h9) rfl d_R_lastDayAsOf_10 ?_
    refine lv_icmp_ge (tgt := 60) hx hb d_R_lastDayAsOf_13 (by decide) (fun _ => ?_) (fun c_4 => absurd (Int32.le_refl _) c_4)
    refine lv_iload_n hx hb d_R_lastDayAsOf_60 rfl (lv_at hl 1 rfl) ?_
    exact W.iret (v := (mv_la ld kd a0 t).1) hx hb hr (fun t ht _ => ⟨_, rfl, rfl, ht⟩) (fun _ h => nomatch h) d_R_lastDayAsOf_61
def mv_R_meets (vf : Int32) (t : Nat) (ld kd : Nat → Int32) (a0 : Int32) (a1 : Int32) (a2 : Int32) : Int32 := if a1 < vf then 0 else if (mv_R_lastDayAsOf t ld kd a2) < a0 then 0 else 1
theorem mv_R_meets_b (vf : Int32) (t : Nat) (ld kd : Nat → Int32) (a0 : Int32) (a1 : Int32) (a2 : Int32) : mr_b01 (mv_R_meets vf t ld kd a0 a1 a2) := (mr_bi mr_b0 (mr_bi mr_b0 mr_b1))
set_option maxHeartbeats 4000000 in
set_option maxRecDepth 100000 in
theorem mc_R_meets (l : Launch) (s0 : State) (dC : Nat → ClassId) (dI : Nat → Nat → Nat) (cI cR cL cZ : ClassId) (q ql qk : Nat) (vc vp vf vk vr vn ve vw : Int32) (t : Nat) (ld kd : Nat → Int32) (a0 : Int32) (a1 : Int32) (a2 : Int32) (ht : t ≤ 8) : Met l y_R_meets [Cond.code y_R_meets b_R_meets 4 (some .boolean)] ({ frames := 1, cells := 0, slots := 0, locals := 24 }) (mr_PW s0 (dC, dI) [(cI, .int), (cR, .object "MeasureRows$Row"), (cL, .long), (cZ, .boolean)] [.ref q, .int a0, .int a1, .int a2] [(q, .inr (2, [.int vc, .int vp, .int vf, .int vk, .int vr, .int vn, .int ve, .int vw, .int (nI t), .ref ql, .ref qk])), (ql, .inl (cI, 8, .inl ld)), (qk, .inl (cI, 8, .inl kd))]) (vp_Si (fun r => r = mv_R_meets vf t ld kd a0 a1 a2)) 0 0 (fun _ => False) := by
  refine Met.ofW (cc := b_R_meets) (maxL := 4) (ret := (some .boolean)) (by decide) rfl ?_
  intro p e s m args below meth c s₁ B hml hv
  obtain ⟨rfl, hB, hK, hP⟩ := hv
  have hBH := hB.here
  have hx := B.exec
  have hb := B.bytes
  have hr := B.returns
  have hlocks := B.notSynchronized
  have hts : ∀ w ∈ lw_tbl, w.before [.ref q, .int a0, .int a1, .int a2].toArray s = true := hB.hts _
  have hown : s.vm.findClass "MeasureRows$Row" = some m.cls := findClass_of_methodNamed B.named
  have hl := lv_entry ([.ref q, .int a0, .int a1, .int a2]) (n := 4) (Nat.le_of_ble_eq_true rfl)
  rw [lg_entry_eq]
  generalize (lg_sl ([.ref q, .int a0, .int a1, .int a2]) ++ List.replicate (4 - (lg_sl ([.ref q, .int a0, .int a1, .int a2])).length) Slot.unset).toArray = ls at hl ⊢
  have hl : lv_has ls 4 [(0, .ref q), (1, .int a0), (2, .int a1), (3, .int a2)] := hl
  refine lv_aload_n hx hb d_R_meets_0 rfl (lv_at hl 0 rfl) ?_
  refine va_get (D := (dC, dI)) (ci := 2) (v := .int vf) (C := R_R) (T := T_R) (N := 11) hx hb hts ti_R hown hK hP 0 rfl rfl 2 (by decide) (hts (Cond.fieldLink "MeasureRows$Row" 18 "MeasureRows$Row" "first" "I") mw_67) (fun _ h9 => h9) rfl d_R_meets_1 ?_
  refine lv_iload_n hx hb d_R_meets_4 rfl (lv_at hl 2 rfl) ?_
  refine lv_icmp_gt (tgt := 21) hx hb d_R_meets_5 (by decide) (fun c_1 => ?_) (fun c_1 => ?_)
  · refine lv_iconst (v := 0) hx hb d_R_meets_21 (by decide) ?_
    exact W.zret (v := 0) hx hb hr (mr_narz mr_b0) (fun t ht _ => ⟨_, rfl, by unfold mv_R_meets; rw [if_pos c_1], ht⟩) (fun _ h => nomatch h) d_R_meets_22
  · refine lv_iload_n hx hb d_R_meets_8 rfl (lv_at hl 1 rfl) ?_
    refine lv_aload_n hx hb d_R_meets_9 rfl (lv_at hl 0 rfl) ?_
    refine lv_iload_n hx hb d_R_meets_10 rfl (lv_at hl 3 rfl) ?_
    refine vp_callSi (va_Run.run (va_runV (As := [.int a2]) (rest := [.int a0]) (C := R_R) ⟨hx, hb, hml, hown, hts⟩ (mc_R_lastDayAsOf l s0 dC dI cI cR cL cZ q ql qk vc vp vf vk vr vn ve vw t ld kd a2 ht) ⟨(mr_cB 1 (hts (Cond.code y_R_lastDayAsOf b_R_lastDayAsOf 5 (some .int)) mw_103) (hts (Cond.initialized y_R_lastDayAsOf.cls) mw_104) (hts (Cond.methodLink "MeasureRows$Row" 63 y_R_lastDayAsOf) mw_105) rfl rfl (by decide +kernel) ⟨Nat.le_of_ble_eq_true rfl, Nat.le_of_ble_eq_true rfl⟩), (hts (Cond.instanceMethod y_R_lastDayAsOf) mw_106), (hts (Cond.selects "MeasureRows$Row" y_R_lastDayAsOf y_R_lastDayAsOf) mw_107)⟩ (mr_preV hBH hK (hP.sub (ws' := [(q, .inr (2, [.int vc, .int vp, .int vf, .int vk, .int vr, .int vn, .int ve, .int vw, .int (nI t), .ref ql, .ref qk])), (ql, .inl (cI, 8, .inl ld)), (qk, .inl (cI, 8, .inl kd))]) [0, 1, 2] rfl) (ci := 2) (q0 := 0) rfl rfl) rfl rfl hl.1 rfl (lv_room (Nat.le_of_ble_eq_true rfl)) d_R_meets_11 ⟨Nat.le_of_ble_eq_true rfl, Nat.le_of_ble_eq_true rfl⟩)) (fun r_2 h_3 => ?_)
    subst h_3
    refine lv_icmp_gt (tgt := 21) hx hb d_R_meets_14 (by decide) (fun c_4 => ?_) (fun c_4 => ?_)
    · refine lv_iconst (v := 0) hx hb d_R_meets_21 (by decide) ?_
      exact W.zret (v := 0) hx hb hr (mr_narz mr_b0) (fun t ht _ => ⟨_, rfl, by unfold mv_R_meets; rw [if_neg c_1, if_pos c_4], ht⟩) (fun _ h => nomatch h) d_R_meets_22
    · refine lv_iconst (v := 1) hx hb d_R_meets_17 (by decide) ?_
      refine lv_goto (tgt := 22) hx hb d_R_meets_18 (by decide) ?_
      exact W.zret (v := 1) hx hb hr (mr_narz mr_b1) (fun t ht _ => ⟨_, rfl, by unfold mv_R_meets; rw [if_neg c_1, if_neg c_4], ht⟩) (fun _ h => nomatch h) d_R_meets_22
def mv_R_lastsOn (vf : Int32) (t : Nat) (ld kd : Nat → Int32) (a0 : Int32) (a1 : Int32) : Int32 := (mv_R_meets vf t ld kd a0 a0 a1)
theorem mv_R_lastsOn_b (vf : Int32) (t : Nat) (ld kd : Nat → Int32) (a0 : Int32) (a1 : Int32) : mr_b01 (mv_R_lastsOn vf t ld kd a0 a1) := (mv_R_meets_b vf t ld kd a0 a0 a1)
set_option maxHeartbeats 4000000 in
set_option maxRecDepth 100000 in
theorem mc_R_lastsOn (l : Launch) (s0 : State) (dC : Nat → ClassId) (dI : Nat → Nat → Nat) (cI cR cL cZ : ClassId) (q ql qk : Nat) (vc vp vf vk vr vn ve vw : Int32) (t : Nat) (ld kd : Nat → Int32) (a0 : Int32) (a1 : Int32) (ht : t ≤ 8) : Met l y_R_lastsOn [Cond.code y_R_lastsOn b_R_lastsOn 3 (some .boolean)] ({ frames := 2, cells := 0, slots := 0, locals := 47 }) (mr_PW s0 (dC, dI) [(cI, .int), (cR, .object "MeasureRows$Row"), (cL, .long), (cZ, .boolean)] [.ref q, .int a0, .int a1] [(q, .inr (2, [.int vc, .int vp, .int vf, .int vk, .int vr, .int vn, .int ve, .int vw, .int (nI t), .ref ql, .ref qk])), (ql, .inl (cI, 8, .inl ld)), (qk, .inl (cI, 8, .inl kd))]) (vp_Si (fun r => r = mv_R_lastsOn vf t ld kd a0 a1)) 0 0 (fun _ => False) := by
  refine Met.ofW (cc := b_R_lastsOn) (maxL := 3) (ret := (some .boolean)) (by decide) rfl ?_
  intro p e s m args below meth c s₁ B hml hv
  obtain ⟨rfl, hB, hK, hP⟩ := hv
  have hBH := hB.here
  have hx := B.exec
  have hb := B.bytes
  have hr := B.returns
  have hlocks := B.notSynchronized
  have hts : ∀ w ∈ lw_tbl, w.before [.ref q, .int a0, .int a1].toArray s = true := hB.hts _
  have hown : s.vm.findClass "MeasureRows$Row" = some m.cls := findClass_of_methodNamed B.named
  have hl := lv_entry ([.ref q, .int a0, .int a1]) (n := 3) (Nat.le_of_ble_eq_true rfl)
  rw [lg_entry_eq]
  generalize (lg_sl ([.ref q, .int a0, .int a1]) ++ List.replicate (3 - (lg_sl ([.ref q, .int a0, .int a1])).length) Slot.unset).toArray = ls at hl ⊢
  have hl : lv_has ls 3 [(0, .ref q), (1, .int a0), (2, .int a1)] := hl
  refine lv_aload_n hx hb d_R_lastsOn_0 rfl (lv_at hl 0 rfl) ?_
  refine lv_iload_n hx hb d_R_lastsOn_1 rfl (lv_at hl 1 rfl) ?_
  refine lv_iload_n hx hb d_R_lastsOn_2 rfl (lv_at hl 1 rfl) ?_
  refine lv_iload_n hx hb d_R_lastsOn_3 rfl (lv_at hl 2 rfl) ?_
  refine vp_callSi (va_Run.run (va_runV (As := [.int a0, .int a0, .int a1]) (rest := []) (C := R_R) ⟨hx, hb, hml, hown, hts⟩ (mc_R_meets l s0 dC dI cI cR cL cZ q ql qk vc vp vf vk vr vn ve vw t ld kd a0 a0 a1 ht) ⟨(mr_cB 3 (hts (Cond.code y_R_meets b_R_meets 4 (some .boolean)) mw_108) (hts (Cond.initialized y_R_meets.cls) mw_109) (hts (Cond.methodLink "MeasureRows$Row" 59 y_R_meets) mw_110) rfl rfl (by decide +kernel) ⟨Nat.le_of_ble_eq_true rfl, Nat.le_of_ble_eq_true rfl⟩), (hts (Cond.instanceMethod y_R_meets) mw_111), (hts (Cond.selects "MeasureRows$Row" y_R_meets y_R_meets) mw_112)⟩ (mr_preV hBH hK (hP.sub (ws' := [(q, .inr (2, [.int vc, .int vp, .int vf, .int vk, .int vr, .int vn, .int ve, .int vw, .int (nI t), .ref ql, .ref qk])), (ql, .inl (cI, 8, .inl ld)), (qk, .inl (cI, 8, .inl kd))]) [0, 1, 2] rfl) (ci := 2) (q0 := 0) rfl rfl) rfl rfl hl.1 rfl (lv_room (Nat.le_of_ble_eq_true rfl)) d_R_lastsOn_4 ⟨Nat.le_of_ble_eq_true rfl, Nat.le_of_ble_eq_true rfl⟩)) (fun r_1 h_2 => ?_)
  subst h_2
  exact W.zret (v := mv_R_meets vf t ld kd a0 a0 a1) hx hb hr (mr_narz (mv_R_meets_b vf t ld kd a0 a0 a1)) (fun t ht _ => ⟨_, rfl, rfl, ht⟩) (fun _ h => nomatch h) d_R_lastsOn_7
def mv_R_leaveOut (ve a0 : Int32) : Int32 := if (mv_R_mayMark ve a0) = 0 then 0 else 1
def mv_R_leaveOutN (ve a0 : Int32) : Int32 := if (mv_R_mayMark ve a0) = 0 then ve else (ve ||| (1 <<< (a0 &&& 31)))
set_option maxHeartbeats 4000000 in
set_option maxRecDepth 100000 in
theorem mc_R_leaveOut (l : Launch) (s0 : State) (dC : Nat → ClassId) (dI : Nat → Nat → Nat) (cI cR cL cZ : ClassId) (q ql qk : Nat) (vc vp vf vk vr vn ve vw vt : Int32) (sz : Nat) (a0 : Int32)  : Met l y_R_leaveOut [Cond.code y_R_leaveOut b_R_leaveOut 2 (some .boolean)] ({ frames := 2, cells := 0, slots := 0, locals := 42 }) (mr_PC s0 (dC, dI) [(cI, .int), (cR, .object "MeasureRows$Row"), (cL, .long), (cZ, .boolean)] [.ref q, .int a0] [(q, .inr (2, [.int vc, .int vp, .int vf, .int vk, .int vr, .int vn, .int ve, .int vw, .int vt, .ref ql, .ref qk]))] sz) (va_Qi (fun rr u => rr = mv_R_leaveOut ve a0 ∧ u = mv_R_leaveOutN ve a0) (fun (u : Int32) t => mr_W (dC, dI) [(cI, .int), (cR, .object "MeasureRows$Row"), (cL, .long), (cZ, .boolean)] (va_A [(q, .inr (2, [.int vc, .int vp, .int vf, .int vk, .int vr, .int vn, .int ve, .int vw, .int vt, .ref ql, .ref qk]))] sz) [(q, .inr (2, [.int vc, .int vp, .int vf, .int vk, .int vr, .int vn, .int u, .int vw, .int vt, .ref ql, .ref qk]))] t) (va_A [(q, .inr (2, [.int vc, .int vp, .int vf, .int vk, .int vr, .int vn, .int ve, .int vw, .int vt, .ref ql, .ref qk]))] sz)) 0 0 (va_A [(q, .inr (2, [.int vc, .int vp, .int vf, .int vk, .int vr, .int vn, .int ve, .int vw, .int vt, .ref ql, .ref qk]))] sz) := by
  refine Met.ofW (cc := b_R_leaveOut) (maxL := 2) (ret := (some .boolean)) (by decide) rfl ?_
  intro p e s m args below meth c s₁ B hml hv
  obtain ⟨rfl, hsz, hB, hK, hP, hD0⟩ := hv
  subst hsz
  have hA0 := mr_A hB hD0
  have hD := hD0.self (sz := s.heap.size)
  generalize hAe : va_A [(q, .inr (2, [.int vc, .int vp, .int vf, .int vk, .int vr, .int vn, .int ve, .int vw, .int vt, .ref ql, .ref qk]))] s.heap.size = A at hD hA0 ⊢
  have hA : ∀ q : Nat, s.heap.size ≤ q → A q := fun q h => by rw [← hAe]; exact Or.inr h
  have hS : va_S A s.heap s.heap [] := va_S.rf
  have hP : va_P (dC, dI) mr_cl [(q, .inr (2, [.int vc, .int vp, .int vf, .int vk, .int vr, .int vn, .int ve, .int vw, .int vt, .ref ql, .ref qk]))] s.heap := hP
  have hBH := hB.at hS hA0
  have hx := B.exec
  have hb := B.bytes
  have hr := B.returns
  have hlocks := B.notSynchronized
  have hts : ∀ w ∈ lw_tbl, w.before [.ref q, .int a0].toArray s = true := hB.hts _
  have hown : s.vm.findClass "MeasureRows$Row" = some m.cls := findClass_of_methodNamed B.named
  have hl := lv_entry ([.ref q, .int a0]) (n := 2) (Nat.le_of_ble_eq_true rfl)
  rw [lg_entry_eq]
  generalize (lg_sl ([.ref q, .int a0]) ++ List.replicate (2 - (lg_sl ([.ref q, .int a0])).length) Slot.unset).toArray = ls at hl ⊢
  have hl : lv_has ls 2 [(0, .ref q), (1, .int a0)] := hl
  refine lv_aload_n hx hb d_R_leaveOut_0 rfl (lv_at hl 0 rfl) ?_
  refine va_get (D := (dC, dI)) (ci := 2) (v := .int ve) (C := R_R) (T := T_R) (N := 11) hx hb hts ti_R hown hK hP 0 rfl rfl 6 (by decide) (hts (Cond.fieldLink "MeasureRows$Row" 30 "MeasureRows$Row" "excluded" "I") mw_71) (fun _ h9 => h9) rfl d_R_leaveOut_1 ?_
  refine lv_iload_n hx hb d_R_leaveOut_4 rfl (lv_at hl 1 rfl) ?_
  refine vp_callSi (va_Run.run (va_runS (As := [.int ve, .int a0]) (rest := []) ⟨hx, hb, hml, hown, hts⟩ (mc_R_mayMark l s0 ve a0) ⟨(mr_cB 2 (hts (Cond.code y_R_mayMark b_R_mayMark 2 (some .boolean)) mw_113) (hts (Cond.initialized y_R_mayMark.cls) mw_114) (hts (Cond.methodLink "MeasureRows$Row" 46 y_R_mayMark) mw_115) rfl rfl (by decide +kernel) ⟨Nat.le_of_ble_eq_true rfl, Nat.le_of_ble_eq_true rfl⟩), (hts (Cond.static y_R_mayMark) mw_116)⟩ (mr_pre0 hBH) rfl rfl hl.1 rfl (lv_room (Nat.le_of_ble_eq_true rfl)) d_R_leaveOut_5 ⟨Nat.le_of_ble_eq_true rfl, Nat.le_of_ble_eq_true rfl⟩)) (fun r_1 h_2 => ?_)
  subst h_2
  refine lv_if_ne (tgt := 13) hx hb d_R_leaveOut_8 (by decide) (fun c_3 => ?_) (fun c_3 => ?_)
  · refine lv_aload_n hx hb d_R_leaveOut_13 rfl (lv_at hl 0 rfl) ?_
    refine lv_dup hx hb d_R_leaveOut_14 rfl ?_
    refine va_get (D := (dC, dI)) (ci := 2) (v := .int ve) (C := R_R) (T := T_R) (N := 11) hx hb hts ti_R hown hK hP 0 rfl rfl 6 (by decide) (hts (Cond.fieldLink "MeasureRows$Row" 30 "MeasureRows$Row" "excluded" "I") mw_71) (fun _ h9 => h9) rfl d_R_leaveOut_15 ?_
    refine lv_iconst (v := 1) hx hb d_R_leaveOut_18 (by decide) ?_
    refine lv_iload_n hx hb d_R_leaveOut_19 rfl (lv_at hl 1 rfl) ?_
    refine lv_ishl hx hb d_R_leaveOut_20 ?_
    refine lv_ior hx hb d_R_leaveOut_21 ?_
    refine va_put (D := (dC, dI)) (ci := 2) (v := .int (ve ||| (1 <<< (a0 &&& 31)))) (ty := .int) (C := R_R) (T := T_R) (N := 11) hx hb hts ti_R t_R to_R tn_R hown hK hP hD hS 0 rfl rfl 6 (by decide) (hts (Cond.fieldLink "MeasureRows$Row" 30 "MeasureRows$Row" "excluded" "I") mw_71) (fun _ h9 => h9) rfl (by decide +kernel) rfl rfl (Nat.le_of_ble_eq_true rfl) d_R_leaveOut_22 (fun H locs hP hD hS => ?_)
    have hP : va_P (dC, dI) mr_cl [(q, .inr (2, [.int vc, .int vp, .int vf, .int vk, .int vr, .int vn, .int (ve ||| (1 <<< (a0 &&& 31))), .int vw, .int vt, .ref ql, .ref qk]))] H := hP
    have hD : va_D A [(q, .inr (2, [.int vc, .int vp, .int vf, .int vk, .int vr, .int vn, .int (ve ||| (1 <<< (a0 &&& 31))), .int vw, .int vt, .ref ql, .ref qk]))] := hD
    have hBH := hB.at hS hA0
    refine lv_iconst (v := 1) hx hb d_R_leaveOut_25 (by decide) ?_
    have hP9 := hP.sub (ws' := [(q, .inr (2, [.int vc, .int vp, .int vf, .int vk, .int vr, .int vn, .int (ve ||| (1 <<< (a0 &&& 31))), .int vw, .int vt, .ref ql, .ref qk]))]) [0] rfl
    have hD9 := hD.sub (ws' := [(q, .inr (2, [.int vc, .int vp, .int vf, .int vk, .int vr, .int vn, .int (ve ||| (1 <<< (a0 &&& 31))), .int vw, .int vt, .ref ql, .ref qk]))]) [0] (by decide) rfl
    exact W.zret (v := 1) hx hb hr (mr_narz mr_b1) (fun t ht hW => ⟨⟨_, (ve ||| (1 <<< (a0 &&& 31))), rfl, ⟨by unfold mv_R_leaveOut; rw [if_neg c_3], by unfold mv_R_leaveOutN; rw [if_neg c_3]⟩, by rw [ht]; exact hP9, va_K.moved hW.alike hK, hD9⟩, hS.F ht⟩) hS.2.2 d_R_leaveOut_26
  · refine lv_iconst (v := 0) hx hb d_R_leaveOut_11 (by decide) ?_
    have hP9 := hP.sub (ws' := [(q, .inr (2, [.int vc, .int vp, .int vf, .int vk, .int vr, .int vn, .int ve, .int vw, .int vt, .ref ql, .ref qk]))]) [0] rfl
    have hD9 := hD.sub (ws' := [(q, .inr (2, [.int vc, .int vp, .int vf, .int vk, .int vr, .int vn, .int ve, .int vw, .int vt, .ref ql, .ref qk]))]) [0] (by decide) rfl
    exact W.zret (v := 0) hx hb hr (mr_narz mr_b0) (fun t ht hW => ⟨⟨_, ve, rfl, ⟨by unfold mv_R_leaveOut; rw [if_pos c_3], by unfold mv_R_leaveOutN; rw [if_pos c_3]⟩, by rw [ht]; exact hP9, va_K.moved hW.alike hK, hD9⟩, hS.F ht⟩) hS.2.2 d_R_leaveOut_12
theorem mv_R_leaveOut_b (ve a0 : Int32) : mr_b01 (mv_R_leaveOut ve a0) := (mr_bi mr_b0 mr_b1)
def mv_R_want (vw a0 : Int32) : Int32 := if (mv_R_mayMark vw a0) = 0 then 0 else 1
def mv_R_wantN (vw a0 : Int32) : Int32 := if (mv_R_mayMark vw a0) = 0 then vw else (vw ||| (1 <<< (a0 &&& 31)))
set_option maxHeartbeats 4000000 in
set_option maxRecDepth 100000 in
theorem mc_R_want (l : Launch) (s0 : State) (dC : Nat → ClassId) (dI : Nat → Nat → Nat) (cI cR cL cZ : ClassId) (q ql qk : Nat) (vc vp vf vk vr vn ve vw vt : Int32) (sz : Nat) (a0 : Int32)  : Met l y_R_want [Cond.code y_R_want b_R_want 2 (some .boolean)] ({ frames := 2, cells := 0, slots := 0, locals := 42 }) (mr_PC s0 (dC, dI) [(cI, .int), (cR, .object "MeasureRows$Row"), (cL, .long), (cZ, .boolean)] [.ref q, .int a0] [(q, .inr (2, [.int vc, .int vp, .int vf, .int vk, .int vr, .int vn, .int ve, .int vw, .int vt, .ref ql, .ref qk]))] sz) (va_Qi (fun rr u => rr = mv_R_want vw a0 ∧ u = mv_R_wantN vw a0) (fun (u : Int32) t => mr_W (dC, dI) [(cI, .int), (cR, .object "MeasureRows$Row"), (cL, .long), (cZ, .boolean)] (va_A [(q, .inr (2, [.int vc, .int vp, .int vf, .int vk, .int vr, .int vn, .int ve, .int vw, .int vt, .ref ql, .ref qk]))] sz) [(q, .inr (2, [.int vc, .int vp, .int vf, .int vk, .int vr, .int vn, .int ve, .int u, .int vt, .ref ql, .ref qk]))] t) (va_A [(q, .inr (2, [.int vc, .int vp, .int vf, .int vk, .int vr, .int vn, .int ve, .int vw, .int vt, .ref ql, .ref qk]))] sz)) 0 0 (va_A [(q, .inr (2, [.int vc, .int vp, .int vf, .int vk, .int vr, .int vn, .int ve, .int vw, .int vt, .ref ql, .ref qk]))] sz) := by
  refine Met.ofW (cc := b_R_want) (maxL := 2) (ret := (some .boolean)) (by decide) rfl ?_
  intro p e s m args below meth c s₁ B hml hv
  obtain ⟨rfl, hsz, hB, hK, hP, hD0⟩ := hv
  subst hsz
  have hA0 := mr_A hB hD0
  have hD := hD0.self (sz := s.heap.size)
  generalize hAe : va_A [(q, .inr (2, [.int vc, .int vp, .int vf, .int vk, .int vr, .int vn, .int ve, .int vw, .int vt, .ref ql, .ref qk]))] s.heap.size = A at hD hA0 ⊢
  have hA : ∀ q : Nat, s.heap.size ≤ q → A q := fun q h => by rw [← hAe]; exact Or.inr h
  have hS : va_S A s.heap s.heap [] := va_S.rf
  have hP : va_P (dC, dI) mr_cl [(q, .inr (2, [.int vc, .int vp, .int vf, .int vk, .int vr, .int vn, .int ve, .int vw, .int vt, .ref ql, .ref qk]))] s.heap := hP
  have hBH := hB.at hS hA0
  have hx := B.exec
  have hb := B.bytes
  have hr := B.returns
  have hlocks := B.notSynchronized
  have hts : ∀ w ∈ lw_tbl, w.before [.ref q, .int a0].toArray s = true := hB.hts _
  have hown : s.vm.findClass "MeasureRows$Row" = some m.cls := findClass_of_methodNamed B.named
  have hl := lv_entry ([.ref q, .int a0]) (n := 2) (Nat.le_of_ble_eq_true rfl)
  rw [lg_entry_eq]
  generalize (lg_sl ([.ref q, .int a0]) ++ List.replicate (2 - (lg_sl ([.ref q, .int a0])).length) Slot.unset).toArray = ls at hl ⊢
  have hl : lv_has ls 2 [(0, .ref q), (1, .int a0)] := hl
  refine lv_aload_n hx hb d_R_want_0 rfl (lv_at hl 0 rfl) ?_
  refine va_get (D := (dC, dI)) (ci := 2) (v := .int vw) (C := R_R) (T := T_R) (N := 11) hx hb hts ti_R hown hK hP 0 rfl rfl 7 (by decide) (hts (Cond.fieldLink "MeasureRows$Row" 33 "MeasureRows$Row" "wanted" "I") mw_72) (fun _ h9 => h9) rfl d_R_want_1 ?_
  refine lv_iload_n hx hb d_R_want_4 rfl (lv_at hl 1 rfl) ?_
  refine vp_callSi (va_Run.run (va_runS (As := [.int vw, .int a0]) (rest := []) ⟨hx, hb, hml, hown, hts⟩ (mc_R_mayMark l s0 vw a0) ⟨(mr_cB 2 (hts (Cond.code y_R_mayMark b_R_mayMark 2 (some .boolean)) mw_113) (hts (Cond.initialized y_R_mayMark.cls) mw_114) (hts (Cond.methodLink "MeasureRows$Row" 46 y_R_mayMark) mw_115) rfl rfl (by decide +kernel) ⟨Nat.le_of_ble_eq_true rfl, Nat.le_of_ble_eq_true rfl⟩), (hts (Cond.static y_R_mayMark) mw_116)⟩ (mr_pre0 hBH) rfl rfl hl.1 rfl (lv_room (Nat.le_of_ble_eq_true rfl)) d_R_want_5 ⟨Nat.le_of_ble_eq_true rfl, Nat.le_of_ble_eq_true rfl⟩)) (fun r_1 h_2 => ?_)
  subst h_2
  refine lv_if_ne (tgt := 13) hx hb d_R_want_8 (by decide) (fun c_3 => ?_) (fun c_3 => ?_)
  · refine lv_aload_n hx hb d_R_want_13 rfl (lv_at hl 0 rfl) ?_
    refine lv_dup hx hb d_R_want_14 rfl ?_
    refine va_get (D := (dC, dI)) (ci := 2) (v := .int vw) (C := R_R) (T := T_R) (N := 11) hx hb hts ti_R hown hK hP 0 rfl rfl 7 (by decide) (hts (Cond.fieldLink "MeasureRows$Row" 33 "MeasureRows$Row" "wanted" "I") mw_72) (fun _ h9 => h9) rfl d_R_want_15 ?_
    refine lv_iconst (v := 1) hx hb d_R_want_18 (by decide) ?_
    refine lv_iload_n hx hb d_R_want_19 rfl (lv_at hl 1 rfl) ?_
    refine lv_ishl hx hb d_R_want_20 ?_
    refine lv_ior hx hb d_R_want_21 ?_
    refine va_put (D := (dC, dI)) (ci := 2) (v := .int (vw ||| (1 <<< (a0 &&& 31)))) (ty := .int) (C := R_R) (T := T_R) (N := 11) hx hb hts ti_R t_R to_R tn_R hown hK hP hD hS 0 rfl rfl 7 (by decide) (hts (Cond.fieldLink "MeasureRows$Row" 33 "MeasureRows$Row" "wanted" "I") mw_72) (fun _ h9 => h9) rfl (by decide +kernel) rfl rfl (Nat.le_of_ble_eq_true rfl) d_R_want_22 (fun H locs hP hD hS => ?_)
    have hP : va_P (dC, dI) mr_cl [(q, .inr (2, [.int vc, .int vp, .int vf, .int vk, .int vr, .int vn, .int ve, .int (vw ||| (1 <<< (a0 &&& 31))), .int vt, .ref ql, .ref qk]))] H := hP
    have hD : va_D A [(q, .inr (2, [.int vc, .int vp, .int vf, .int vk, .int vr, .int vn, .int ve, .int (vw ||| (1 <<< (a0 &&& 31))), .int vt, .ref ql, .ref qk]))] := hD
    have hBH := hB.at hS hA0
    refine lv_iconst (v := 1) hx hb d_R_want_25 (by decide) ?_
    have hP9 := hP.sub (ws' := [(q, .inr (2, [.int vc, .int vp, .int vf, .int vk, .int vr, .int vn, .int ve, .int (vw ||| (1 <<< (a0 &&& 31))), .int vt, .ref ql, .ref qk]))]) [0] rfl
    have hD9 := hD.sub (ws' := [(q, .inr (2, [.int vc, .int vp, .int vf, .int vk, .int vr, .int vn, .int ve, .int (vw ||| (1 <<< (a0 &&& 31))), .int vt, .ref ql, .ref qk]))]) [0] (by decide) rfl
    exact W.zret (v := 1) hx hb hr (mr_narz mr_b1) (fun t ht hW => ⟨⟨_, (vw ||| (1 <<< (a0 &&& 31))), rfl, ⟨by unfold mv_R_want; rw [if_neg c_3], by unfold mv_R_wantN; rw [if_neg c_3]⟩, by rw [ht]; exact hP9, va_K.moved hW.alike hK, hD9⟩, hS.F ht⟩) hS.2.2 d_R_want_26
  · refine lv_iconst (v := 0) hx hb d_R_want_11 (by decide) ?_
    have hP9 := hP.sub (ws' := [(q, .inr (2, [.int vc, .int vp, .int vf, .int vk, .int vr, .int vn, .int ve, .int vw, .int vt, .ref ql, .ref qk]))]) [0] rfl
    have hD9 := hD.sub (ws' := [(q, .inr (2, [.int vc, .int vp, .int vf, .int vk, .int vr, .int vn, .int ve, .int vw, .int vt, .ref ql, .ref qk]))]) [0] (by decide) rfl
    exact W.zret (v := 0) hx hb hr (mr_narz mr_b0) (fun t ht hW => ⟨⟨_, vw, rfl, ⟨by unfold mv_R_want; rw [if_pos c_3], by unfold mv_R_wantN; rw [if_pos c_3]⟩, by rw [ht]; exact hP9, va_K.moved hW.alike hK, hD9⟩, hS.F ht⟩) hS.2.2 d_R_want_12
theorem mv_R_want_b (vw a0 : Int32) : mr_b01 (mv_R_want vw a0) := (mr_bi mr_b0 mr_b1)
