theorem mw_128 : Cond.stringRef "MeasureRows" 58 "no such group" ∈ lw_tbl := by decide +kernel
theorem mw_129 : Cond.classLink "MeasureRows" 56 mr_iob ∈ lw_tbl := by decide +kernel
theorem mw_130 : Cond.initialized mr_iob ∈ lw_tbl := by decide +kernel
theorem mw_131 : Cond.methodLink "MeasureRows" 63 y_G_wouldRing ∈ lw_tbl := by decide +kernel
theorem mw_132 : Cond.code y_G_reaches b_G_reaches 3 (some .boolean) ∈ lw_tbl := by decide +kernel
theorem mw_133 : Cond.initialized y_G_reaches.cls ∈ lw_tbl := by decide +kernel
theorem mw_134 : Cond.methodLink "MeasureRows" 68 y_G_reaches ∈ lw_tbl := by decide +kernel
theorem mw_135 : Cond.instanceMethod y_G_reaches ∈ lw_tbl := by decide +kernel
theorem mw_136 : Cond.selects "MeasureRows$Groups" y_G_reaches y_G_reaches ∈ lw_tbl := by decide +kernel
theorem mw_137 : Cond.stringRef "MeasureRows" 66 "no such group or land" ∈ lw_tbl := by decide +kernel
theorem mw_138 : Cond.stringRef "MeasureRows" 89 "no such days" ∈ lw_tbl := by decide +kernel
theorem mw_139 : Cond.classLink "MeasureRows" 78 mr_iae ∈ lw_tbl := by decide +kernel
theorem mw_140 : Cond.initialized mr_iae ∈ lw_tbl := by decide +kernel
theorem mw_141 : Cond.code y_R_lastsOn b_R_lastsOn 3 (some .boolean) ∈ lw_tbl := by decide +kernel
theorem mw_142 : Cond.initialized y_R_lastsOn.cls ∈ lw_tbl := by decide +kernel
theorem mw_143 : Cond.methodLink "MeasureRows" 152 y_R_lastsOn ∈ lw_tbl := by decide +kernel
theorem mw_144 : Cond.instanceMethod y_R_lastsOn ∈ lw_tbl := by decide +kernel
theorem mw_145 : Cond.selects "MeasureRows$Row" y_R_lastsOn y_R_lastsOn ∈ lw_tbl := by decide +kernel
theorem mw_146 : Cond.stringRef "MeasureRows" 121 "no such row" ∈ lw_tbl := by decide +kernel
theorem mw_147 : Cond.fieldLink "MeasureRows" 155 "MeasureRows$Row" "code" "I" ∈ lw_tbl := by decide +kernel
theorem mw_148 : Cond.fieldLink "MeasureRows" 158 "MeasureRows$Row" "place" "I" ∈ lw_tbl := by decide +kernel
theorem mw_149 : Cond.fieldLink "MeasureRows" 128 "MeasureRows$Row" "first" "I" ∈ lw_tbl := by decide +kernel
theorem mw_150 : Cond.methodLink "MeasureRows" 161 y_R_lastDayAsOf ∈ lw_tbl := by decide +kernel
theorem mw_151 : Cond.fieldLink "MeasureRows" 164 "MeasureRows$Row" "kind" "I" ∈ lw_tbl := by decide +kernel
theorem mw_152 : Cond.fieldLink "MeasureRows" 167 "MeasureRows$Row" "rank" "I" ∈ lw_tbl := by decide +kernel
theorem mw_153 : Cond.fieldLink "MeasureRows" 170 "MeasureRows$Row" "known" "I" ∈ lw_tbl := by decide +kernel
theorem mw_154 : Cond.fieldLink "MeasureRows" 123 "MeasureRows$Row" "told" "I" ∈ lw_tbl := by decide +kernel
theorem mw_155 : Cond.fieldLink "MeasureRows" 173 "MeasureRows$Row" "excluded" "I" ∈ lw_tbl := by decide +kernel
theorem mw_156 : Cond.methodLink "MeasureRows" 176 y_I_bitCount ∈ lw_tbl := by decide +kernel
theorem mw_157 : Cond.fieldLink "MeasureRows" 181 "MeasureRows$Row" "wanted" "I" ∈ lw_tbl := by decide +kernel
theorem mw_158 : Cond.stringRef "MeasureRows" 184 "nothing such to look at" ∈ lw_tbl := by decide +kernel
def mv_M_ring (fi : Nat → Int32) (a0 : Int32) (a1 : Int32) : Int32 := if (mv_M_isGroup a0) = 0 then 0 else if (mv_M_isGroup a1) = 0 then 0 else (mv_G_wouldRing fi a0 a1)
def mk_M_ring (fi : Nat → Int32) (a0 : Int32) (a1 : Int32) : Int32 := if (mv_M_isGroup a0) = 0 then 1 else if (mv_M_isGroup a1) = 0 then 1 else 0
theorem mv_M_ring_b (fi : Nat → Int32) (a0 : Int32) (a1 : Int32) : mr_b01 (mv_M_ring fi a0 a1) := (mr_bi mr_b0 (mr_bi mr_b0 (mv_G_wouldRing_b fi a0 a1)))
set_option maxHeartbeats 4000000 in
set_option maxRecDepth 100000 in
theorem mc_M_ring (l : Launch) (hlt : l.stackTraces = false) (s0 : State) (dC : Nat → ClassId) (dI : Nat → Nat → Nat) (cI cR cL cZ : ClassId) (r : Nat → Nat) (n : Nat) (nw pb lc : Int32) (fm fi : Nat → Int32) (fr : Nat → Option Nat) (fl fc fg : Nat → Int32) (L : List Nat) (f : Nat → va_E) (a0 : Int32) (a1 : Int32) (hR : mr_RI cI n L f fr) : mr_Met l y_M_ring [Cond.code y_M_ring b_M_ring 3 (some .boolean)] ({ frames := 6, cells := 1, slots := 6, locals := 92 }) (mr_PW s0 (dC, dI) [(cI, .int), (cR, .object "MeasureRows$Row"), (cL, .long), (cZ, .boolean)] [.ref (r 0), .int a0, .int a1] ([((r 0), .inr (0, mf_M r (nI n) nw pb lc)), ((r 1), .inr (1, [.ref (r 2), .ref (r 3)])), ((r 2), .inl (cI, 8, .inl fm)), ((r 3), .inl (cI, 8, .inl fi)), ((r 4), .inl (cR, 80, .inr (.inr (.inr (.inr fr))))), ((r 5), .inl (cI, 80, .inl fl)), ((r 6), .inl (cI, 80, .inl fc)), ((r 7), .inl (cI, 8, .inl fg))] ++ va_pl L f)) (vp_Si (fun r => mk_M_ring fi a0 a1 = 0 ∧ r = mv_M_ring fi a0 a1)) (fun E => (E = mr_iob ∧ mk_M_ring fi a0 a1 = 1)) 1 6 (fun _ => False) := by
  refine mr_of (cc := b_M_ring) (maxL := 3) (ret := (some .boolean)) (by decide) rfl ?_
  intro p e s m args below meth c s₁ B hml hno hv
  obtain ⟨rfl, hB, hK, hP⟩ := hv
  have hBH := hB.here
  have hx := B.exec
  have hb := B.bytes
  have hr := B.returns
  have hlocks := B.notSynchronized
  have hts : ∀ w ∈ lw_tbl, w.before [.ref (r 0), .int a0, .int a1].toArray s = true := hB.hts _
  have hown : s.vm.findClass "MeasureRows" = some m.cls := findClass_of_methodNamed B.named
  have hl := lv_entry ([.ref (r 0), .int a0, .int a1]) (n := 3) (Nat.le_of_ble_eq_true rfl)
  rw [lg_entry_eq]
  generalize (lg_sl ([.ref (r 0), .int a0, .int a1]) ++ List.replicate (3 - (lg_sl ([.ref (r 0), .int a0, .int a1])).length) Slot.unset).toArray = ls at hl ⊢
  have hl : lv_has ls 3 [(0, .ref (r 0)), (1, .int a0), (2, .int a1)] := hl
  refine lv_iload_n hx hb d_M_ring_0 rfl (lv_at hl 1 rfl) ?_
  refine vp_callSi (va_Run.run (va_runS (As := [.int a0]) (rest := []) ⟨hx, hb, hml, hown, hts⟩ (mc_M_isGroup l s0 a0) ⟨(mr_cB 1 (hts (Cond.code y_M_isGroup b_M_isGroup 1 (some .boolean)) mw_5) (hts (Cond.initialized y_M_isGroup.cls) mw_6) (hts (Cond.methodLink "MeasureRows" 45 y_M_isGroup) mw_7) rfl rfl (by decide +kernel) ⟨Nat.le_of_ble_eq_true rfl, Nat.le_of_ble_eq_true rfl⟩), (hts (Cond.static y_M_isGroup) mw_8)⟩ (mr_pre0 hBH) rfl rfl hl.1 rfl (lv_room (Nat.le_of_ble_eq_true rfl)) d_M_ring_1 ⟨Nat.le_of_ble_eq_true rfl, Nat.le_of_ble_eq_true rfl⟩)) (fun r_1 h_2 => ?_)
  subst h_2
  refine lv_if_eq (tgt := 14) hx hb d_M_ring_4 (by decide) (fun c_3 => ?_) (fun c_3 => ?_)
  · obtain ⟨sa, hstr⟩ := mr_str (hts (Cond.stringRef "MeasureRows" 58 "no such group") mw_128) hown
    exact mr_throw (names := mr_up) hx hb hlt hown (by decide +kernel) (by decide +kernel) (hts (Cond.classLink "MeasureRows" 56 mr_iob) mw_129) (hts (Cond.initialized mr_iob) mw_130) hstr (hB.own _ mr_a_iob) (hl.1.trans hml.symm) d_M_ring_14 d_M_ring_17 d_M_ring_18 d_M_ring_20 d_M_ring_23 hno (Nat.le_of_ble_eq_true rfl) (Nat.le_of_ble_eq_true rfl) (Nat.le_of_ble_eq_true rfl) (Nat.le_of_ble_eq_true rfl) hlocks ⟨rfl, by unfold mk_M_ring; rw [if_pos c_3]⟩ (Nat.le_of_ble_eq_true rfl) (Nat.le_of_ble_eq_true rfl)
  · refine lv_iload_n hx hb d_M_ring_7 rfl (lv_at hl 2 rfl) ?_
    refine vp_callSi (va_Run.run (va_runS (As := [.int a1]) (rest := []) ⟨hx, hb, hml, hown, hts⟩ (mc_M_isGroup l s0 a1) ⟨(mr_cB 1 (hts (Cond.code y_M_isGroup b_M_isGroup 1 (some .boolean)) mw_5) (hts (Cond.initialized y_M_isGroup.cls) mw_6) (hts (Cond.methodLink "MeasureRows" 45 y_M_isGroup) mw_7) rfl rfl (by decide +kernel) ⟨Nat.le_of_ble_eq_true rfl, Nat.le_of_ble_eq_true rfl⟩), (hts (Cond.static y_M_isGroup) mw_8)⟩ (mr_pre0 hBH) rfl rfl hl.1 rfl (lv_room (Nat.le_of_ble_eq_true rfl)) d_M_ring_8 ⟨Nat.le_of_ble_eq_true rfl, Nat.le_of_ble_eq_true rfl⟩)) (fun r_4 h_5 => ?_)
    subst h_5
    refine lv_if_ne (tgt := 24) hx hb d_M_ring_11 (by decide) (fun c_6 => ?_) (fun c_6 => ?_)
    · refine lv_aload_n hx hb d_M_ring_24 rfl (lv_at hl 0 rfl) ?_
      refine va_get (D := (dC, dI)) (ci := 0) (v := .ref (r 1)) (C := R_M) (T := T_M) (N := 9) hx hb hts ti_M hown hK hP 0 rfl rfl 0 (by decide) (hts (Cond.fieldLink "MeasureRows" 10 "MeasureRows" "groups" "LMeasureRows$Groups;") mw_53) (fun _ h9 => h9) rfl d_M_ring_25 ?_
      refine lv_iload_n hx hb d_M_ring_28 rfl (lv_at hl 1 rfl) ?_
      refine lv_iload_n hx hb d_M_ring_29 rfl (lv_at hl 2 rfl) ?_
      refine vp_callSi (va_Run.run (va_runV (As := [.int a0, .int a1]) (rest := []) (C := R_G) ⟨hx, hb, hml, hown, hts⟩ (mc_G_wouldRing l s0 dC dI cI cR cL cZ (r 1) (r 2) (r 3) fi a0 a1) ⟨(mr_cB 2 (hts (Cond.code y_G_wouldRing b_G_wouldRing 3 (some .boolean)) mw_76) (hts (Cond.initialized y_G_wouldRing.cls) mw_77) (hts (Cond.methodLink "MeasureRows" 63 y_G_wouldRing) mw_131) rfl rfl (by decide +kernel) ⟨Nat.le_of_ble_eq_true rfl, Nat.le_of_ble_eq_true rfl⟩), (hts (Cond.instanceMethod y_G_wouldRing) mw_79), (hts (Cond.selects "MeasureRows$Groups" y_G_wouldRing y_G_wouldRing) mw_80)⟩ (mr_preV hBH hK (hP.sub (ws' := [((r 1), .inr (1, [.ref (r 2), .ref (r 3)])), ((r 3), .inl (cI, 8, .inl fi))]) [1, 3] rfl) (ci := 1) (q0 := 0) rfl rfl) rfl rfl hl.1 rfl (lv_room (Nat.le_of_ble_eq_true rfl)) d_M_ring_30 ⟨Nat.le_of_ble_eq_true rfl, Nat.le_of_ble_eq_true rfl⟩)) (fun r_7 h_8 => ?_)
      subst h_8
      refine mr_ret ?_
      refine W.widen (k := 1) (n := 6) (Nat.le_of_ble_eq_true rfl) (Nat.le_of_ble_eq_true rfl) ?_
      exact W.zret (v := mv_G_wouldRing fi a0 a1) hx hb hr (mr_narz (mv_G_wouldRing_b fi a0 a1)) (fun t ht _ => ⟨_, rfl, ⟨by unfold mk_M_ring; rw [if_neg c_3, if_neg c_6], by unfold mv_M_ring; rw [if_neg c_3, if_neg c_6]⟩, ht⟩) (fun _ h => nomatch h) d_M_ring_33
    · obtain ⟨sa, hstr⟩ := mr_str (hts (Cond.stringRef "MeasureRows" 58 "no such group") mw_128) hown
      exact mr_throw (names := mr_up) hx hb hlt hown (by decide +kernel) (by decide +kernel) (hts (Cond.classLink "MeasureRows" 56 mr_iob) mw_129) (hts (Cond.initialized mr_iob) mw_130) hstr (hB.own _ mr_a_iob) (hl.1.trans hml.symm) d_M_ring_14 d_M_ring_17 d_M_ring_18 d_M_ring_20 d_M_ring_23 hno (Nat.le_of_ble_eq_true rfl) (Nat.le_of_ble_eq_true rfl) (Nat.le_of_ble_eq_true rfl) (Nat.le_of_ble_eq_true rfl) hlocks ⟨rfl, by unfold mk_M_ring; rw [if_neg c_3, if_pos c_6]⟩ (Nat.le_of_ble_eq_true rfl) (Nat.le_of_ble_eq_true rfl)
def mv_M_has (fi : Nat → Int32) (a0 : Int32) (a1 : Int32) : Int32 := if (mv_M_isGroup a0) = 0 then (if a0 = 31 then (if (mv_M_isLand a1) = 0 then 0 else (mv_G_reaches fi a0 a1)) else 0) else if (mv_M_isLand a1) = 0 then 0 else (mv_G_reaches fi a0 a1)
def mk_M_has (fi : Nat → Int32) (a0 : Int32) (a1 : Int32) : Int32 := if (mv_M_isGroup a0) = 0 then (if a0 = 31 then (if (mv_M_isLand a1) = 0 then 1 else 0) else 1) else if (mv_M_isLand a1) = 0 then 1 else 0
theorem mv_M_has_b (fi : Nat → Int32) (a0 : Int32) (a1 : Int32) : mr_b01 (mv_M_has fi a0 a1) := (mr_bi (mr_bi (mr_bi mr_b0 (mv_G_reaches_b fi a0 a1)) mr_b0) (mr_bi mr_b0 (mv_G_reaches_b fi a0 a1)))
set_option maxHeartbeats 4000000 in
set_option maxRecDepth 100000 in
theorem mc_M_has (l : Launch) (hlt : l.stackTraces = false) (s0 : State) (dC : Nat → ClassId) (dI : Nat → Nat → Nat) (cI cR cL cZ : ClassId) (r : Nat → Nat) (n : Nat) (nw pb lc : Int32) (fm fi : Nat → Int32) (fr : Nat → Option Nat) (fl fc fg : Nat → Int32) (L : List Nat) (f : Nat → va_E) (a0 : Int32) (a1 : Int32) (hR : mr_RI cI n L f fr) : mr_Met l y_M_has [Cond.code y_M_has b_M_has 3 (some .boolean)] ({ frames := 6, cells := 1, slots := 6, locals := 92 }) (mr_PW s0 (dC, dI) [(cI, .int), (cR, .object "MeasureRows$Row"), (cL, .long), (cZ, .boolean)] [.ref (r 0), .int a0, .int a1] ([((r 0), .inr (0, mf_M r (nI n) nw pb lc)), ((r 1), .inr (1, [.ref (r 2), .ref (r 3)])), ((r 2), .inl (cI, 8, .inl fm)), ((r 3), .inl (cI, 8, .inl fi)), ((r 4), .inl (cR, 80, .inr (.inr (.inr (.inr fr))))), ((r 5), .inl (cI, 80, .inl fl)), ((r 6), .inl (cI, 80, .inl fc)), ((r 7), .inl (cI, 8, .inl fg))] ++ va_pl L f)) (vp_Si (fun r => mk_M_has fi a0 a1 = 0 ∧ r = mv_M_has fi a0 a1)) (fun E => (E = mr_iob ∧ mk_M_has fi a0 a1 = 1)) 1 6 (fun _ => False) := by
  refine mr_of (cc := b_M_has) (maxL := 3) (ret := (some .boolean)) (by decide) rfl ?_
  intro p e s m args below meth c s₁ B hml hno hv
  obtain ⟨rfl, hB, hK, hP⟩ := hv
  have hBH := hB.here
  have hx := B.exec
  have hb := B.bytes
  have hr := B.returns
  have hlocks := B.notSynchronized
  have hts : ∀ w ∈ lw_tbl, w.before [.ref (r 0), .int a0, .int a1].toArray s = true := hB.hts _
  have hown : s.vm.findClass "MeasureRows" = some m.cls := findClass_of_methodNamed B.named
  have hl := lv_entry ([.ref (r 0), .int a0, .int a1]) (n := 3) (Nat.le_of_ble_eq_true rfl)
  rw [lg_entry_eq]
  generalize (lg_sl ([.ref (r 0), .int a0, .int a1]) ++ List.replicate (3 - (lg_sl ([.ref (r 0), .int a0, .int a1])).length) Slot.unset).toArray = ls at hl ⊢
  have hl : lv_has ls 3 [(0, .ref (r 0)), (1, .int a0), (2, .int a1)] := hl
  refine lv_iload_n hx hb d_M_has_0 rfl (lv_at hl 1 rfl) ?_
  refine vp_callSi (va_Run.run (va_runS (As := [.int a0]) (rest := []) ⟨hx, hb, hml, hown, hts⟩ (mc_M_isGroup l s0 a0) ⟨(mr_cB 1 (hts (Cond.code y_M_isGroup b_M_isGroup 1 (some .boolean)) mw_5) (hts (Cond.initialized y_M_isGroup.cls) mw_6) (hts (Cond.methodLink "MeasureRows" 45 y_M_isGroup) mw_7) rfl rfl (by decide +kernel) ⟨Nat.le_of_ble_eq_true rfl, Nat.le_of_ble_eq_true rfl⟩), (hts (Cond.static y_M_isGroup) mw_8)⟩ (mr_pre0 hBH) rfl rfl hl.1 rfl (lv_room (Nat.le_of_ble_eq_true rfl)) d_M_has_1 ⟨Nat.le_of_ble_eq_true rfl, Nat.le_of_ble_eq_true rfl⟩)) (fun r_1 h_2 => ?_)
  subst h_2
  refine lv_if_ne (tgt := 13) hx hb d_M_has_4 (by decide) (fun c_3 => ?_) (fun c_3 => ?_)
  · refine lv_iload_n hx hb d_M_has_13 rfl (lv_at hl 2 rfl) ?_
    refine vp_callSi (va_Run.run (va_runS (As := [.int a1]) (rest := []) ⟨hx, hb, hml, hown, hts⟩ (mc_M_isLand l s0 a1) ⟨(mr_cB 1 (hts (Cond.code y_M_isLand b_M_isLand 1 (some .boolean)) mw_1) (hts (Cond.initialized y_M_isLand.cls) mw_2) (hts (Cond.methodLink "MeasureRows" 49 y_M_isLand) mw_3) rfl rfl (by decide +kernel) ⟨Nat.le_of_ble_eq_true rfl, Nat.le_of_ble_eq_true rfl⟩), (hts (Cond.static y_M_isLand) mw_4)⟩ (mr_pre0 hBH) rfl rfl hl.1 rfl (lv_room (Nat.le_of_ble_eq_true rfl)) d_M_has_14 ⟨Nat.le_of_ble_eq_true rfl, Nat.le_of_ble_eq_true rfl⟩)) (fun r_4 h_5 => ?_)
    subst h_5
    refine lv_if_ne (tgt := 30) hx hb d_M_has_17 (by decide) (fun c_6 => ?_) (fun c_6 => ?_)
    · refine lv_aload_n hx hb d_M_has_30 rfl (lv_at hl 0 rfl) ?_
      refine va_get (D := (dC, dI)) (ci := 0) (v := .ref (r 1)) (C := R_M) (T := T_M) (N := 9) hx hb hts ti_M hown hK hP 0 rfl rfl 0 (by decide) (hts (Cond.fieldLink "MeasureRows" 10 "MeasureRows" "groups" "LMeasureRows$Groups;") mw_53) (fun _ h9 => h9) rfl d_M_has_31 ?_
      refine lv_iload_n hx hb d_M_has_34 rfl (lv_at hl 1 rfl) ?_
      refine lv_iload_n hx hb d_M_has_35 rfl (lv_at hl 2 rfl) ?_
      refine vp_callSi (va_Run.run (va_runV (As := [.int a0, .int a1]) (rest := []) (C := R_G) ⟨hx, hb, hml, hown, hts⟩ (mc_G_reaches l s0 dC dI cI cR cL cZ (r 1) (r 2) (r 3) fi a0 a1) ⟨(mr_cB 2 (hts (Cond.code y_G_reaches b_G_reaches 3 (some .boolean)) mw_132) (hts (Cond.initialized y_G_reaches.cls) mw_133) (hts (Cond.methodLink "MeasureRows" 68 y_G_reaches) mw_134) rfl rfl (by decide +kernel) ⟨Nat.le_of_ble_eq_true rfl, Nat.le_of_ble_eq_true rfl⟩), (hts (Cond.instanceMethod y_G_reaches) mw_135), (hts (Cond.selects "MeasureRows$Groups" y_G_reaches y_G_reaches) mw_136)⟩ (mr_preV hBH hK (hP.sub (ws' := [((r 1), .inr (1, [.ref (r 2), .ref (r 3)])), ((r 3), .inl (cI, 8, .inl fi))]) [1, 3] rfl) (ci := 1) (q0 := 0) rfl rfl) rfl rfl hl.1 rfl (lv_room (Nat.le_of_ble_eq_true rfl)) d_M_has_36 ⟨Nat.le_of_ble_eq_true rfl, Nat.le_of_ble_eq_true rfl⟩)) (fun r_7 h_8 => ?_)
      subst h_8
      refine mr_ret ?_
      refine W.widen (k := 1) (n := 6) (Nat.le_of_ble_eq_true rfl) (Nat.le_of_ble_eq_true rfl) ?_
      exact W.zret (v := mv_G_reaches fi a0 a1) hx hb hr (mr_narz (mv_G_reaches_b fi a0 a1)) (fun t ht _ => ⟨_, rfl, ⟨by unfold mk_M_has; rw [if_neg c_3, if_neg c_6], by unfold mv_M_has; rw [if_neg c_3, if_neg c_6]⟩, ht⟩) (fun _ h => nomatch h) d_M_has_39
    · obtain ⟨sa, hstr⟩ := mr_str (hts (Cond.stringRef "MeasureRows" 66 "no such group or land") mw_137) hown
      exact mr_throw (names := mr_up) hx hb hlt hown (by decide +kernel) (by decide +kernel) (hts (Cond.classLink "MeasureRows" 56 mr_iob) mw_129) (hts (Cond.initialized mr_iob) mw_130) hstr (hB.own _ mr_a_iob) (hl.1.trans hml.symm) d_M_has_20 d_M_has_23 d_M_has_24 d_M_has_26 d_M_has_29 hno (Nat.le_of_ble_eq_true rfl) (Nat.le_of_ble_eq_true rfl) (Nat.le_of_ble_eq_true rfl) (Nat.le_of_ble_eq_true rfl) hlocks ⟨rfl, by unfold mk_M_has; rw [if_neg c_3, if_pos c_6]⟩ (Nat.le_of_ble_eq_true rfl) (Nat.le_of_ble_eq_true rfl)
  · refine lv_iload_n hx hb d_M_has_7 rfl (lv_at hl 1 rfl) ?_
    refine lv_bipush (v := 31) hx hb d_M_has_8 (by decide) ?_
    refine lv_icmp_ne (tgt := 20) hx hb d_M_has_10 (by decide) (fun c_9 => ?_) (fun c_9 => ?_)
    · obtain ⟨sa, hstr⟩ := mr_str (hts (Cond.stringRef "MeasureRows" 66 "no such group or land") mw_137) hown
      exact mr_throw (names := mr_up) hx hb hlt hown (by decide +kernel) (by decide +kernel) (hts (Cond.classLink "MeasureRows" 56 mr_iob) mw_129) (hts (Cond.initialized mr_iob) mw_130) hstr (hB.own _ mr_a_iob) (hl.1.trans hml.symm) d_M_has_20 d_M_has_23 d_M_has_24 d_M_has_26 d_M_has_29 hno (Nat.le_of_ble_eq_true rfl) (Nat.le_of_ble_eq_true rfl) (Nat.le_of_ble_eq_true rfl) (Nat.le_of_ble_eq_true rfl) hlocks ⟨rfl, by unfold mk_M_has; rw [if_pos c_3, if_neg c_9]⟩ (Nat.le_of_ble_eq_true rfl) (Nat.le_of_ble_eq_true rfl)
    · refine lv_iload_n hx hb d_M_has_13 rfl (lv_at hl 2 rfl) ?_
      refine vp_callSi (va_Run.run (va_runS (As := [.int a1]) (rest := []) ⟨hx, hb, hml, hown, hts⟩ (mc_M_isLand l s0 a1) ⟨(mr_cB 1 (hts (Cond.code y_M_isLand b_M_isLand 1 (some .boolean)) mw_1) (hts (Cond.initialized y_M_isLand.cls) mw_2) (hts (Cond.methodLink "MeasureRows" 49 y_M_isLand) mw_3) rfl rfl (by decide +kernel) ⟨Nat.le_of_ble_eq_true rfl, Nat.le_of_ble_eq_true rfl⟩), (hts (Cond.static y_M_isLand) mw_4)⟩ (mr_pre0 hBH) rfl rfl hl.1 rfl (lv_room (Nat.le_of_ble_eq_true rfl)) d_M_has_14 ⟨Nat.le_of_ble_eq_true rfl, Nat.le_of_ble_eq_true rfl⟩)) (fun r_10 h_11 => ?_)
      subst h_11
      refine lv_if_ne (tgt := 30) hx hb d_M_has_17 (by decide) (fun c_12 => ?_) (fun c_12 => ?_)
      · refine lv_aload_n hx hb d_M_has_30 rfl (lv_at hl 0 rfl) ?_
        refine va_get (D := (dC, dI)) (ci := 0) (v := .ref (r 1)) (C := R_M) (T := T_M) (N := 9) hx hb hts ti_M hown hK hP 0 rfl rfl 0 (by decide) (hts (Cond.fieldLink "MeasureRows" 10 "MeasureRows" "groups" "LMeasureRows$Groups;") mw_53) (fun _ h9 => h9) rfl d_M_has_31 ?_
        refine lv_iload_n hx hb d_M_has_34 rfl (lv_at hl 1 rfl) ?_
        refine lv_iload_n hx hb d_M_has_35 rfl (lv_at hl 2 rfl) ?_
        refine vp_callSi (va_Run.run (va_runV (As := [.int a0, .int a1]) (rest := []) (C := R_G) ⟨hx, hb, hml, hown, hts⟩ (mc_G_reaches l s0 dC dI cI cR cL cZ (r 1) (r 2) (r 3) fi a0 a1) ⟨(mr_cB 2 (hts (Cond.code y_G_reaches b_G_reaches 3 (some .boolean)) mw_132) (hts (Cond.initialized y_G_reaches.cls) mw_133) (hts (Cond.methodLink "MeasureRows" 68 y_G_reaches) mw_134) rfl rfl (by decide +kernel) ⟨Nat.le_of_ble_eq_true rfl, Nat.le_of_ble_eq_true rfl⟩), (hts (Cond.instanceMethod y_G_reaches) mw_135), (hts (Cond.selects "MeasureRows$Groups" y_G_reaches y_G_reaches) mw_136)⟩ (mr_preV hBH hK (hP.sub (ws' := [((r 1), .inr (1, [.ref (r 2), .ref (r 3)])), ((r 3), .inl (cI, 8, .inl fi))]) [1, 3] rfl) (ci := 1) (q0 := 0) rfl rfl) rfl rfl hl.1 rfl (lv_room (Nat.le_of_ble_eq_true rfl)) d_M_has_36 ⟨Nat.le_of_ble_eq_true rfl, Nat.le_of_ble_eq_true rfl⟩)) (fun r_13 h_14 => ?_)
        subst h_14
        refine mr_ret ?_
        refine W.widen (k := 1) (n := 6) (Nat.le_of_ble_eq_true rfl) (Nat.le_of_ble_eq_true rfl) ?_
        exact W.zret (v := mv_G_reaches fi a0 a1) hx hb hr (mr_narz (mv_G_reaches_b fi a0 a1)) (fun t ht _ => ⟨_, rfl, ⟨by unfold mk_M_has; rw [if_pos c_3, if_pos c_9, if_neg c_12], by unfold mv_M_has; rw [if_pos c_3, if_pos c_9, if_neg c_12]⟩, ht⟩) (fun _ h => nomatch h) d_M_has_39
      · obtain ⟨sa, hstr⟩ := mr_str (hts (Cond.stringRef "MeasureRows" 66 "no such group or land") mw_137) hown
        exact mr_throw (names := mr_up) hx hb hlt hown (by decide +kernel) (by decide +kernel) (hts (Cond.classLink "MeasureRows" 56 mr_iob) mw_129) (hts (Cond.initialized mr_iob) mw_130) hstr (hB.own _ mr_a_iob) (hl.1.trans hml.symm) d_M_has_20 d_M_has_23 d_M_has_24 d_M_has_26 d_M_has_29 hno (Nat.le_of_ble_eq_true rfl) (Nat.le_of_ble_eq_true rfl) (Nat.le_of_ble_eq_true rfl) (Nat.le_of_ble_eq_true rfl) hlocks ⟨rfl, by unfold mk_M_has; rw [if_pos c_3, if_pos c_9, if_pos c_12]⟩ (Nat.le_of_ble_eq_true rfl) (Nat.le_of_ble_eq_true rfl)
set_option maxHeartbeats 4000000 in
set_option maxRecDepth 100000 in
theorem mc_M_change (l : Launch) (hlt : l.stackTraces = false) (s0 : State) (dC : Nat → ClassId) (dI : Nat → Nat → Nat) (cI cR cL cZ : ClassId) (r : Nat → Nat) (n : Nat) (nw pb lc : Int32) (fm fi : Nat → Int32) (fr : Nat → Option Nat) (fl fc fg : Nat → Int32) (L : List Nat) (f : Nat → va_E) (a0 : Int32) (a1 : Int32) (a2 : Int32) (hR : mr_RI cI n L f fr) : mr_Met l y_M_change [Cond.code y_M_change b_M_change 7 (some .int)] ({ frames := 6, cells := 1, slots := 6, locals := 92 }) (mr_PW s0 (dC, dI) [(cI, .int), (cR, .object "MeasureRows$Row"), (cL, .long), (cZ, .boolean)] [.ref (r 0), .int a0, .int a1, .int a2] ([((r 0), .inr (0, mf_M r (nI n) nw pb lc)), ((r 1), .inr (1, [.ref (r 2), .ref (r 3)])), ((r 2), .inl (cI, 8, .inl fm)), ((r 3), .inl (cI, 8, .inl fi)), ((r 4), .inl (cR, 80, .inr (.inr (.inr (.inr fr))))), ((r 5), .inl (cI, 80, .inl fl)), ((r 6), .inl (cI, 80, .inl fc)), ((r 7), .inl (cI, 8, .inl fg))] ++ va_pl L f)) (vp_Si (fun r => True)) (fun E => E = mr_iae) 1 6 (fun _ => False) := by
  refine mr_of (cc := b_M_change) (maxL := 7) (ret := (some .int)) (by decide) rfl ?_
  intro p e s m args below meth c s₁ B hml hno hv
  obtain ⟨rfl, hB, hK, hP⟩ := hv
  have hBH := hB.here
  have hx := B.exec
  have hb := B.bytes
  have hr := B.returns
  have hlocks := B.notSynchronized
  have hts : ∀ w ∈ lw_tbl, w.before [.ref (r 0), .int a0, .int a1, .int a2].toArray s = true := hB.hts _
  have hown : s.vm.findClass "MeasureRows" = some m.cls := findClass_of_methodNamed B.named
  have hl := lv_entry ([.ref (r 0), .int a0, .int a1, .int a2]) (n := 7) (Nat.le_of_ble_eq_true rfl)
  rw [lg_entry_eq]
  generalize (lg_sl ([.ref (r 0), .int a0, .int a1, .int a2]) ++ List.replicate (7 - (lg_sl ([.ref (r 0), .int a0, .int a1, .int a2])).length) Slot.unset).toArray = ls at hl ⊢
  have hl : lv_has ls 7 [(0, .ref (r 0)), (1, .int a0), (2, .int a1), (3, .int a2)] := hl
  refine lv_iload_n hx hb d_M_change_0 rfl (lv_at hl 1 rfl) ?_
  refine vp_callSi (va_Run.run (va_runS (As := [.int a0]) (rest := []) ⟨hx, hb, hml, hown, hts⟩ (mc_M_isDay l s0 a0) ⟨(mr_cB 1 (hts (Cond.code y_M_isDay b_M_isDay 1 (some .boolean)) mw_9) (hts (Cond.initialized y_M_isDay.cls) mw_10) (hts (Cond.methodLink "MeasureRows" 83 y_M_isDay) mw_11) rfl rfl (by decide +kernel) ⟨Nat.le_of_ble_eq_true rfl, Nat.le_of_ble_eq_true rfl⟩), (hts (Cond.static y_M_isDay) mw_12)⟩ (mr_pre0 hBH) rfl rfl hl.1 rfl (lv_room (Nat.le_of_ble_eq_true rfl)) d_M_change_1 ⟨Nat.le_of_ble_eq_true rfl, Nat.le_of_ble_eq_true rfl⟩)) (fun r_1 h_2 => ?_)
  subst h_2
  refine lv_if_eq (tgt := 14) hx hb d_M_change_4 (by decide) (fun c_3 => ?_) (fun c_3 => ?_)
  · obtain ⟨sa, hstr⟩ := mr_str (hts (Cond.stringRef "MeasureRows" 89 "no such days") mw_138) hown
    exact mr_throw (names := mr_up) hx hb hlt hown (by decide +kernel) (by decide +kernel) (hts (Cond.classLink "MeasureRows" 78 mr_iae) mw_139) (hts (Cond.initialized mr_iae) mw_140) hstr (hB.own _ mr_a_iae) (hl.1.trans hml.symm) d_M_change_14 d_M_change_17 d_M_change_18 d_M_change_20 d_M_change_23 hno (Nat.le_of_ble_eq_true rfl) (Nat.le_of_ble_eq_true rfl) (Nat.le_of_ble_eq_true rfl) (Nat.le_of_ble_eq_true rfl) hlocks rfl (Nat.le_of_ble_eq_true rfl) (Nat.le_of_ble_eq_true rfl)
  · refine lv_iload_n hx hb d_M_change_7 rfl (lv_at hl 2 rfl) ?_
    refine vp_callSi (va_Run.run (va_runS (As := [.int a1]) (rest := []) ⟨hx, hb, hml, hown, hts⟩ (mc_M_isDay l s0 a1) ⟨(mr_cB 1 (hts (Cond.code y_M_isDay b_M_isDay 1 (some .boolean)) mw_9) (hts (Cond.initialized y_M_isDay.cls) mw_10) (hts (Cond.methodLink "MeasureRows" 83 y_M_isDay) mw_11) rfl rfl (by decide +kernel) ⟨Nat.le_of_ble_eq_true rfl, Nat.le_of_ble_eq_true rfl⟩), (hts (Cond.static y_M_isDay) mw_12)⟩ (mr_pre0 hBH) rfl rfl hl.1 rfl (lv_room (Nat.le_of_ble_eq_true rfl)) d_M_change_8 ⟨Nat.le_of_ble_eq_true rfl, Nat.le_of_ble_eq_true rfl⟩)) (fun r_4 h_5 => ?_)
    subst h_5
    refine lv_if_ne (tgt := 24) hx hb d_M_change_11 (by decide) (fun c_6 => ?_) (fun c_6 => ?_)
    · refine lv_iconst (v := 0) hx hb d_M_change_24 (by decide) ?_
      refine lv_istore (lv' := [(4, .int 0), (0, .ref (r 0)), (1, .int a0), (2, .int a1), (3, .int a2)]) hx hb d_M_change_25 hl (by decide) rfl (fun ls hl => ?_)
      refine lv_iconst (v := 1) hx hb d_M_change_27 (by decide) ?_
      refine lv_istore (lv' := [(5, .int 1), (4, .int 0), (0, .ref (r 0)), (1, .int a0), (2, .int a1), (3, .int a2)]) hx hb d_M_change_28 hl (by decide) rfl (fun ls hl => ?_)
      refine mr_loop (N := n) (I := fun j H locs ls => H = s.heap ∧ locs = [] ∧ ∃ ps : Int32, lv_has ls 7 [(5, .int (nI (j + 1))), (4, .int ps), (0, .ref (r 0)), (1, .int a0), (2, .int a1), (3, .int a2)]) (fun j H locs ls hj hI ih => ?_) (fun H locs ls hI => ?_) 0 _ _ _ (Nat.zero_le _) ⟨rfl, rfl, 0, (lv_sub hl [0, 1, 2, 3, 4, 5] rfl)⟩
      · obtain ⟨rfl, rfl, ps, hl⟩ := hI
        refine lv_iload hx hb d_M_change_30 (lv_at hl 0 rfl) ?_
        refine lv_aload_n hx hb d_M_change_32 rfl (lv_at hl 2 rfl) ?_
        refine va_get (D := (dC, dI)) (ci := 0) (v := .int (nI n)) (C := R_M) (T := T_M) (N := 9) hx hb hts ti_M hown hK hP 0 rfl rfl 2 (by decide) (hts (Cond.fieldLink "MeasureRows" 22 "MeasureRows" "rowCount" "I") mw_57) (fun _ h9 => h9) rfl d_M_change_33 ?_
        refine lv_icmp_gt (tgt := 93) hx hb d_M_change_36 (by decide) (fun c_7 => absurd c_7 (nI_nlt (by omega) (by have := hR.1; omega))) (fun _ => ?_)
        refine lv_aload_n hx hb d_M_change_39 rfl (lv_at hl 2 rfl) ?_
        refine lv_iload hx hb d_M_change_40 (lv_at hl 0 rfl) ?_
        refine va_csq (va_Run.run (va_runV (As := [.int (nI (j + 1))]) (rest := []) (C := R_M) ⟨hx, hb, hml, hown, hts⟩ (mc_M_find l s0 dC dI cI cR cL cZ r n nw pb lc fr (nI (j + 1)) hR.1) ⟨(mr_cB 1 (hts (Cond.code y_M_find b_M_find 2 (some (.object "MeasureRows$Row"))) mw_117) (hts (Cond.initialized y_M_find.cls) mw_118) (hts (Cond.methodLink "MeasureRows" 111 y_M_find) mw_119) rfl rfl (by decide +kernel) ⟨Nat.le_of_ble_eq_true rfl, Nat.le_of_ble_eq_true rfl⟩), (hts (Cond.instanceMethod y_M_find) mw_120), (hts (Cond.selects "MeasureRows" y_M_find y_M_find) mw_121)⟩ (mr_preV hBH hK (hP.sub (ws' := [((r 0), .inr (0, mf_M r (nI n) nw pb lc)), ((r 4), .inl (cR, 80, .inr (.inr (.inr (.inr fr)))))]) [0, 4] rfl) (ci := 0) (q0 := 0) rfl rfl) rfl rfl hl.1 rfl (lv_room (Nat.le_of_ble_eq_true rfl)) d_M_change_42 ⟨Nat.le_of_ble_eq_true rfl, Nat.le_of_ble_eq_true rfl⟩)) (fun r_8 h_9 => ?_)
        subst h_9
        rcases mr_fc hR (nI (j + 1)) with hf_2 | ⟨i_2, hi_2, hxe_2, a_2, ql_2, qk_2, v0_2, v1_2, v2_2, v4_2, v5_2, v6_2, v7_2, k_2, t_2, ld_2, kd_2, hf_2, hfi_2, m1_2, m2_2, m3_2, e1_2, e2_2, e3_2, hk_2, ht_2, ho_2, hne_2⟩
        · refine mr_topv (show va_rf (mv_M_find n fr (nI (j + 1))) = .null by rw [hf_2]; rfl) ?_
          refine lv_astoreN (lv' := [(6, .null), (5, .int (nI (j + 1))), (4, .int ps), (0, .ref (r 0)), (1, .int a0), (2, .int a1), (3, .int a2)]) hx hb d_M_change_45 hl (by decide) rfl (fun ls hl => ?_)
          refine lv_aloadN hx hb d_M_change_47 (lv_at hl 0 rfl) ?_
          refine lv_ifnullN (tgt := 87) hx hb d_M_change_49 (by decide) ?_
          refine lv_iinc (v := nI ((j + 1) + 1)) (lv' := [(5, .int (nI ((j + 1) + 1))), (6, .null), (4, .int ps), (0, .ref (r 0)), (1, .int a0), (2, .int a1), (3, .int a2)]) hx hb d_M_change_87 hl (k := 1) rfl ((nI_succ (j + 1)).symm) (by decide) rfl (fun ls hl => ?_)
          refine lv_goto (tgt := 30) hx hb d_M_change_90 (by decide) ?_
          exact ih _ _ _ ⟨rfl, rfl, ps, lv_sub hl [0, 2, 3, 4, 5, 6] rfl⟩
        · refine mr_topv (show va_rf (mv_M_find n fr (nI (j + 1))) = .ref a_2 by rw [hf_2]; rfl) ?_
          have hPr_2 := mr_row3 (X := [((r 0), .inr (0, mf_M r (nI n) nw pb lc)), ((r 1), .inr (1, [.ref (r 2), .ref (r 3)])), ((r 2), .inl (cI, 8, .inl fm)), ((r 3), .inl (cI, 8, .inl fi)), ((r 4), .inl (cR, 80, .inr (.inr (.inr (.inr fr))))), ((r 5), .inl (cI, 80, .inl fl)), ((r 6), .inl (cI, 80, .inl fc)), ((r 7), .inl (cI, 8, .inl fg))]) hP m1_2 m2_2 m3_2 e1_2 e2_2 e3_2
          refine lv_astore (lv' := [(6, .ref a_2), (5, .int (nI (j + 1))), (4, .int ps), (0, .ref (r 0)), (1, .int a0), (2, .int a1), (3, .int a2)]) hx hb d_M_change_45 hl (by decide) rfl (fun ls hl => ?_)
          refine lv_aload hx hb d_M_change_47 (lv_at hl 0 rfl) ?_
          refine lv_ifnull hx hb d_M_change_49 ?_
          refine lv_aload hx hb d_M_change_52 (lv_at hl 0 rfl) ?_
          refine lv_iload_n hx hb d_M_change_54 rfl (lv_at hl 4 rfl) ?_
          refine lv_aload_n hx hb d_M_change_55 rfl (lv_at hl 3 rfl) ?_
          refine va_get (D := (dC, dI)) (ci := 0) (v := .int nw) (C := R_M) (T := T_M) (N := 9) hx hb hts ti_M hown hK hP 0 rfl rfl 3 (by decide) (hts (Cond.fieldLink "MeasureRows" 26 "MeasureRows" "now" "I") mw_58) (fun _ h9 => h9) rfl d_M_change_56 ?_
          refine vp_callSi (va_Run.run (va_runV (As := [.int a0, .int nw]) (rest := []) (C := R_R) ⟨hx, hb, hml, hown, hts⟩ (mc_R_lastsOn l s0 dC dI cI cR cL cZ a_2 ql_2 qk_2 v0_2 v1_2 v2_2 (nI k_2) v4_2 v5_2 v6_2 v7_2 t_2 ld_2 kd_2 a0 nw ht_2) ⟨(mr_cB 2 (hts (Cond.code y_R_lastsOn b_R_lastsOn 3 (some .boolean)) mw_141) (hts (Cond.initialized y_R_lastsOn.cls) mw_142) (hts (Cond.methodLink "MeasureRows" 152 y_R_lastsOn) mw_143) rfl rfl (by decide +kernel) ⟨Nat.le_of_ble_eq_true rfl, Nat.le_of_ble_eq_true rfl⟩), (hts (Cond.instanceMethod y_R_lastsOn) mw_144), (hts (Cond.selects "MeasureRows$Row" y_R_lastsOn y_R_lastsOn) mw_145)⟩ (mr_preV hBH hK (hPr_2.sub (ws' := [(a_2, .inr (2, [.int v0_2, .int v1_2, .int v2_2, .int (nI k_2), .int v4_2, .int v5_2, .int v6_2, .int v7_2, .int (nI t_2), .ref ql_2, .ref qk_2])), (ql_2, .inl (cI, 8, .inl ld_2)), (qk_2, .inl (cI, 8, .inl kd_2))]) [0, 1, 2] rfl) (ci := 2) (q0 := 0) rfl rfl) rfl rfl hl.1 rfl (lv_room (Nat.le_of_ble_eq_true rfl)) d_M_change_59 ⟨Nat.le_of_ble_eq_true rfl, Nat.le_of_ble_eq_true rfl⟩)) (fun r_10 h_11 => ?_)
          subst h_11
          refine lv_aload hx hb d_M_change_62 (lv_at hl 0 rfl) ?_
          refine lv_iload_n hx hb d_M_change_64 rfl (lv_at hl 5 rfl) ?_
          refine lv_aload_n hx hb d_M_change_65 rfl (lv_at hl 3 rfl) ?_
          refine va_get (D := (dC, dI)) (ci := 0) (v := .int nw) (C := R_M) (T := T_M) (N := 9) hx hb hts ti_M hown hK hP 0 rfl rfl 3 (by decide) (hts (Cond.fieldLink "MeasureRows" 26 "MeasureRows" "now" "I") mw_58) (fun _ h9 => h9) rfl d_M_change_66 ?_
          refine vp_callSi (va_Run.run (va_runV (As := [.int a1, .int nw]) (rest := [.int (mv_R_lastsOn v2_2 t_2 ld_2 kd_2 a0 nw)]) (C := R_R) ⟨hx, hb, hml, hown, hts⟩ (mc_R_lastsOn l s0 dC dI cI cR cL cZ a_2 ql_2 qk_2 v0_2 v1_2 v2_2 (nI k_2) v4_2 v5_2 v6_2 v7_2 t_2 ld_2 kd_2 a1 nw ht_2) ⟨(mr_cB 2 (hts (Cond.code y_R_lastsOn b_R_lastsOn 3 (some .boolean)) mw_141) (hts (Cond.initialized y_R_lastsOn.cls) mw_142) (hts (Cond.methodLink "MeasureRows" 152 y_R_lastsOn) mw_143) rfl rfl (by decide +kernel) ⟨Nat.le_of_ble_eq_true rfl, Nat.le_of_ble_eq_true rfl⟩), (hts (Cond.instanceMethod y_R_lastsOn) mw_144), (hts (Cond.selects "MeasureRows$Row" y_R_lastsOn y_R_lastsOn) mw_145)⟩ (mr_preV hBH hK (hPr_2.sub (ws' := [(a_2, .inr (2, [.int v0_2, .int v1_2, .int v2_2, .int (nI k_2), .int v4_2, .int v5_2, .int v6_2, .int v7_2, .int (nI t_2), .ref ql_2, .ref qk_2])), (ql_2, .inl (cI, 8, .inl ld_2)), (qk_2, .inl (cI, 8, .inl kd_2))]) [0, 1, 2] rfl) (ci := 2) (q0 := 0) rfl rfl) rfl rfl hl.1 rfl (lv_room (Nat.le_of_ble_eq_true rfl)) d_M_change_69 ⟨Nat.le_of_ble_eq_true rfl, Nat.le_of_ble_eq_true rfl⟩)) (fun r_12 h_13 => ?_)
          subst h_13
          refine lv_icmp_eq (tgt := 87) hx hb d_M_change_72 (by decide) (fun c_14 => ?_) (fun c_14 => ?_)
          · refine lv_iinc (v := nI ((j + 1) + 1)) (lv' := [(5, .int (nI ((j + 1) + 1))), (6, .ref a_2), (4, .int ps), (0, .ref (r 0)), (1, .int a0), (2, .int a1), (3, .int a2)]) hx hb d_M_change_87 hl (k := 1) rfl ((nI_succ (j + 1)).symm) (by decide) rfl (fun ls hl => ?_)
            refine lv_goto (tgt := 30) hx hb d_M_change_90 (by decide) ?_
            exact ih _ _ _ ⟨rfl, rfl, ps, lv_sub hl [0, 2, 3, 4, 5, 6] rfl⟩
          · refine lv_iload hx hb d_M_change_75 (lv_at hl 2 rfl) ?_
            refine lv_iload_n hx hb d_M_change_77 rfl (lv_at hl 6 rfl) ?_
            refine lv_icmp_ne (tgt := 84) hx hb d_M_change_78 (by decide) (fun c_15 => ?_) (fun c_15 => ?_)
            · refine lv_iinc (v := ps + 1) (lv' := [(4, .int (ps + 1)), (6, .ref a_2), (5, .int (nI (j + 1))), (0, .ref (r 0)), (1, .int a0), (2, .int a1), (3, .int a2)]) hx hb d_M_change_84 hl (k := 2) rfl (rfl) (by decide) rfl (fun ls hl => ?_)
              refine lv_iinc (v := nI ((j + 1) + 1)) (lv' := [(5, .int (nI ((j + 1) + 1))), (4, .int (ps + 1)), (6, .ref a_2), (0, .ref (r 0)), (1, .int a0), (2, .int a1), (3, .int a2)]) hx hb d_M_change_87 hl (k := 2) rfl ((nI_succ (j + 1)).symm) (by decide) rfl (fun ls hl => ?_)
              refine lv_goto (tgt := 30) hx hb d_M_change_90 (by decide) ?_
              exact ih _ _ _ ⟨rfl, rfl, ps + 1, lv_sub hl [0, 1, 3, 4, 5, 6] rfl⟩
            · refine lv_iload hx hb d_M_change_81 (lv_at hl 1 rfl) ?_
              refine mr_ret ?_
              refine W.widen (k := 1) (n := 6) (Nat.le_of_ble_eq_true rfl) (Nat.le_of_ble_eq_true rfl) ?_
              exact W.iret (v := nI (j + 1)) hx hb hr (fun t ht _ => ⟨_, rfl, trivial, ht⟩) (fun _ h => nomatch h) d_M_change_83
      · obtain ⟨rfl, rfl, ps, hl⟩ := hI
        refine lv_iload hx hb d_M_change_30 (lv_at hl 0 rfl) ?_
        refine lv_aload_n hx hb d_M_change_32 rfl (lv_at hl 2 rfl) ?_
        refine va_get (D := (dC, dI)) (ci := 0) (v := .int (nI n)) (C := R_M) (T := T_M) (N := 9) hx hb hts ti_M hown hK hP 0 rfl rfl 2 (by decide) (hts (Cond.fieldLink "MeasureRows" 22 "MeasureRows" "rowCount" "I") mw_57) (fun _ h9 => h9) rfl d_M_change_33 ?_
        refine lv_icmp_gt (tgt := 93) hx hb d_M_change_36 (by decide) (fun _ => ?_) (fun c_16 => absurd (nI_lt (by omega) (by have := hR.1; omega)) c_16)
        refine lv_iconst (v := (-1)) hx hb d_M_change_93 (by decide) ?_
        refine mr_ret ?_
        refine W.widen (k := 1) (n := 6) (Nat.le_of_ble_eq_true rfl) (Nat.le_of_ble_eq_true rfl) ?_
        exact W.iret (v := (-1)) hx hb hr (fun t ht _ => ⟨_, rfl, trivial, ht⟩) (fun _ h => nomatch h) d_M_change_94
    · obtain ⟨sa, hstr⟩ := mr_str (hts (Cond.stringRef "MeasureRows" 89 "no such days") mw_138) hown
      exact mr_throw (names := mr_up) hx hb hlt hown (by decide +kernel) (by decide +kernel) (hts (Cond.classLink "MeasureRows" 78 mr_iae) mw_139) (hts (Cond.initialized mr_iae) mw_140) hstr (hB.own _ mr_a_iae) (hl.1.trans hml.symm) d_M_change_14 d_M_change_17 d_M_change_18 d_M_change_20 d_M_change_23 hno (Nat.le_of_ble_eq_true rfl) (Nat.le_of_ble_eq_true rfl) (Nat.le_of_ble_eq_true rfl) (Nat.le_of_ble_eq_true rfl) hlocks rfl (Nat.le_of_ble_eq_true rfl) (Nat.le_of_ble_eq_true rfl)
set_option maxHeartbeats 4000000 in
set_option maxRecDepth 100000 in
theorem mc_M_look (l : Launch) (hlt : l.stackTraces = false) (s0 : State) (dC : Nat → ClassId) (dI : Nat → Nat → Nat) (cI cR cL cZ : ClassId) (r : Nat → Nat) (n : Nat) (nw pb lc : Int32) (fm fi : Nat → Int32) (fr : Nat → Option Nat) (fl fc fg : Nat → Int32) (L : List Nat) (f : Nat → va_E) (a0 : Int32) (a1 : Int32) (hR : mr_RI cI n L f fr) : mr_Met l y_M_look [Cond.code y_M_look b_M_look 4 (some .int)] ({ frames := 6, cells := 1, slots := 6, locals := 92 }) (mr_PW s0 (dC, dI) [(cI, .int), (cR, .object "MeasureRows$Row"), (cL, .long), (cZ, .boolean)] [.ref (r 0), .int a0, .int a1] ([((r 0), .inr (0, mf_M r (nI n) nw pb lc)), ((r 1), .inr (1, [.ref (r 2), .ref (r 3)])), ((r 2), .inl (cI, 8, .inl fm)), ((r 3), .inl (cI, 8, .inl fi)), ((r 4), .inl (cR, 80, .inr (.inr (.inr (.inr fr))))), ((r 5), .inl (cI, 80, .inl fl)), ((r 6), .inl (cI, 80, .inl fc)), ((r 7), .inl (cI, 8, .inl fg))] ++ va_pl L f)) (vp_Si (fun r => True)) (fun E => E = mr_iob) 1 6 (fun _ => False) := by
  refine mr_of (cc := b_M_look) (maxL := 4) (ret := (some .int)) (by decide) rfl ?_
  intro p e s m args below meth c s₁ B hml hno hv
  obtain ⟨rfl, hB, hK, hP⟩ := hv
  have hBH := hB.here
  have hx := B.exec
  have hb := B.bytes
  have hr := B.returns
  have hlocks := B.notSynchronized
  have hts : ∀ w ∈ lw_tbl, w.before [.ref (r 0), .int a0, .int a1].toArray s = true := hB.hts _
  have hown : s.vm.findClass "MeasureRows" = some m.cls := findClass_of_methodNamed B.named
  have hl := lv_entry ([.ref (r 0), .int a0, .int a1]) (n := 4) (Nat.le_of_ble_eq_true rfl)
  rw [lg_entry_eq]
  generalize (lg_sl ([.ref (r 0), .int a0, .int a1]) ++ List.replicate (4 - (lg_sl ([.ref (r 0), .int a0, .int a1])).length) Slot.unset).toArray = ls at hl ⊢
  have hl : lv_has ls 4 [(0, .ref (r 0)), (1, .int a0), (2, .int a1)] := hl
  refine lv_aload_n hx hb d_M_look_0 rfl (lv_at hl 0 rfl) ?_
  refine lv_iload_n hx hb d_M_look_1 rfl (lv_at hl 1 rfl) ?_
  refine va_csq (va_Run.run (va_runV (As := [.int a0]) (rest := []) (C := R_M) ⟨hx, hb, hml, hown, hts⟩ (mc_M_find l s0 dC dI cI cR cL cZ r n nw pb lc fr a0 hR.1) ⟨(mr_cB 1 (hts (Cond.code y_M_find b_M_find 2 (some (.object "MeasureRows$Row"))) mw_117) (hts (Cond.initialized y_M_find.cls) mw_118) (hts (Cond.methodLink "MeasureRows" 111 y_M_find) mw_119) rfl rfl (by decide +kernel) ⟨Nat.le_of_ble_eq_true rfl, Nat.le_of_ble_eq_true rfl⟩), (hts (Cond.instanceMethod y_M_find) mw_120), (hts (Cond.selects "MeasureRows" y_M_find y_M_find) mw_121)⟩ (mr_preV hBH hK (hP.sub (ws' := [((r 0), .inr (0, mf_M r (nI n) nw pb lc)), ((r 4), .inl (cR, 80, .inr (.inr (.inr (.inr fr)))))]) [0, 4] rfl) (ci := 0) (q0 := 0) rfl rfl) rfl rfl hl.1 rfl (lv_room (Nat.le_of_ble_eq_true rfl)) d_M_look_2 ⟨Nat.le_of_ble_eq_true rfl, Nat.le_of_ble_eq_true rfl⟩)) (fun r_1 h_2 => ?_)
  subst h_2
  rcases mr_fc hR a0 with hf_3 | ⟨i_3, hi_3, hxe_3, a_3, ql_3, qk_3, v0_3, v1_3, v2_3, v4_3, v5_3, v6_3, v7_3, k_3, t_3, ld_3, kd_3, hf_3, hfi_3, m1_3, m2_3, m3_3, e1_3, e2_3, e3_3, hk_3, ht_3, ho_3, hne_3⟩
  · refine mr_topv (show va_rf (mv_M_find n fr a0) = .null by rw [hf_3]; rfl) ?_
    refine lv_astore_nN (lv' := [(3, .null), (0, .ref (r 0)), (1, .int a0), (2, .int a1)]) hx hb d_M_look_5 rfl hl (by decide) rfl (fun ls hl => ?_)
    refine lv_aload_nN hx hb d_M_look_6 rfl (lv_at hl 0 rfl) ?_
    refine lv_ifnonnullN hx hb d_M_look_7 ?_
    obtain ⟨sa, hstr⟩ := mr_str (hts (Cond.stringRef "MeasureRows" 121 "no such row") mw_146) hown
    exact mr_throw (names := mr_up) hx hb hlt hown (by decide +kernel) (by decide +kernel) (hts (Cond.classLink "MeasureRows" 56 mr_iob) mw_129) (hts (Cond.initialized mr_iob) mw_130) hstr (hB.own _ mr_a_iob) (hl.1.trans hml.symm) d_M_look_10 d_M_look_13 d_M_look_14 d_M_look_16 d_M_look_19 hno (Nat.le_of_ble_eq_true rfl) (Nat.le_of_ble_eq_true rfl) (Nat.le_of_ble_eq_true rfl) (Nat.le_of_ble_eq_true rfl) hlocks rfl (Nat.le_of_ble_eq_true rfl) (Nat.le_of_ble_eq_true rfl)
  · refine mr_topv (show va_rf (mv_M_find n fr a0) = .ref a_3 by rw [hf_3]; rfl) ?_
    have hPr_3 := mr_row3 (X := [((r 0), .inr (0, mf_M r (nI n) nw pb lc)), ((r 1), .inr (1, [.ref (r 2), .ref (r 3)])), ((r 2), .inl (cI, 8, .inl fm)), ((r 3), .inl (cI, 8, .inl fi)), ((r 4), .inl (cR, 80, .inr (.inr (.inr (.inr fr))))), ((r 5), .inl (cI, 80, .inl fl)), ((r 6), .inl (cI, 80, .inl fc)), ((r 7), .inl (cI, 8, .inl fg))]) hP m1_3 m2_3 m3_3 e1_3 e2_3 e3_3
    refine lv_astore_n (lv' := [(3, .ref a_3), (0, .ref (r 0)), (1, .int a0), (2, .int a1)]) hx hb d_M_look_5 rfl hl (by decide) rfl (fun ls hl => ?_)
    refine lv_aload_n hx hb d_M_look_6 rfl (lv_at hl 0 rfl) ?_
    refine lv_ifnonnull (tgt := 20) hx hb d_M_look_7 (by decide) ?_
    refine lv_iload_n hx hb d_M_look_20 rfl (lv_at hl 3 rfl) ?_
    by_cases c_3 : a1 = 0
    · refine lv_tableIn (tgt := 76) hx hb d_M_look_21 (by rw [c_3]; decide) (by rw [c_3]; decide) (by rw [c_3]; rfl) (by decide) ?_
      refine lv_aload_n hx hb d_M_look_76 rfl (lv_at hl 0 rfl) ?_
      refine va_get (D := (dC, dI)) (ci := 2) (v := .int v0_3) (C := R_R) (T := T_R) (N := 11) hx hb hts ti_R hown hK hPr_3 0 rfl rfl 0 (by decide) (hts (Cond.fieldLink "MeasureRows" 155 "MeasureRows$Row" "code" "I") mw_147) (fun _ h9 => h9) rfl d_M_look_77 ?_
      refine mr_ret ?_
      refine W.widen (k := 1) (n := 6) (Nat.le_of_ble_eq_true rfl) (Nat.le_of_ble_eq_true rfl) ?_
      exact W.iret (v := v0_3) hx hb hr (fun t ht _ => ⟨_, rfl, trivial, ht⟩) (fun _ h => nomatch h) d_M_look_80
    · skip
      by_cases c_4 : a1 = 1
      · refine lv_tableIn (tgt := 81) hx hb d_M_look_21 (by rw [c_4]; decide) (by rw [c_4]; decide) (by rw [c_4]; rfl) (by decide) ?_
        refine lv_aload_n hx hb d_M_look_81 rfl (lv_at hl 0 rfl) ?_
        refine va_get (D := (dC, dI)) (ci := 2) (v := .int v1_3) (C := R_R) (T := T_R) (N := 11) hx hb hts ti_R hown hK hPr_3 0 rfl rfl 1 (by decide) (hts (Cond.fieldLink "MeasureRows" 158 "MeasureRows$Row" "place" "I") mw_148) (fun _ h9 => h9) rfl d_M_look_82 ?_
        refine mr_ret ?_
        refine W.widen (k := 1) (n := 6) (Nat.le_of_ble_eq_true rfl) (Nat.le_of_ble_eq_true rfl) ?_
        exact W.iret (v := v1_3) hx hb hr (fun t ht _ => ⟨_, rfl, trivial, ht⟩) (fun _ h => nomatch h) d_M_look_85
      · skip
        by_cases c_5 : a1 = 2
        · refine lv_tableIn (tgt := 86) hx hb d_M_look_21 (by rw [c_5]; decide) (by rw [c_5]; decide) (by rw [c_5]; rfl) (by decide) ?_
          refine lv_aload_n hx hb d_M_look_86 rfl (lv_at hl 0 rfl) ?_
          refine va_get (D := (dC, dI)) (ci := 2) (v := .int v2_3) (C := R_R) (T := T_R) (N := 11) hx hb hts ti_R hown hK hPr_3 0 rfl rfl 2 (by decide) (hts (Cond.fieldLink "MeasureRows" 128 "MeasureRows$Row" "first" "I") mw_149) (fun _ h9 => h9) rfl d_M_look_87 ?_
          refine mr_ret ?_
          refine W.widen (k := 1) (n := 6) (Nat.le_of_ble_eq_true rfl) (Nat.le_of_ble_eq_true rfl) ?_
          exact W.iret (v := v2_3) hx hb hr (fun t ht _ => ⟨_, rfl, trivial, ht⟩) (fun _ h => nomatch h) d_M_look_90
        · skip
          by_cases c_6 : a1 = 3
          · refine lv_tableIn (tgt := 91) hx hb d_M_look_21 (by rw [c_6]; decide) (by rw [c_6]; decide) (by rw [c_6]; rfl) (by decide) ?_
            refine lv_aload_n hx hb d_M_look_91 rfl (lv_at hl 0 rfl) ?_
            refine lv_aload_n hx hb d_M_look_92 rfl (lv_at hl 1 rfl) ?_
            refine va_get (D := (dC, dI)) (ci := 0) (v := .int nw) (C := R_M) (T := T_M) (N := 9) hx hb hts ti_M hown hK hP 0 rfl rfl 3 (by decide) (hts (Cond.fieldLink "MeasureRows" 26 "MeasureRows" "now" "I") mw_58) (fun _ h9 => h9) rfl d_M_look_93 ?_
            refine vp_callSi (va_Run.run (va_runV (As := [.int nw]) (rest := []) (C := R_R) ⟨hx, hb, hml, hown, hts⟩ (mc_R_lastDayAsOf l s0 dC dI cI cR cL cZ a_3 ql_3 qk_3 v0_3 v1_3 v2_3 (nI k_3) v4_3 v5_3 v6_3 v7_3 t_3 ld_3 kd_3 nw ht_3) ⟨(mr_cB 1 (hts (Cond.code y_R_lastDayAsOf b_R_lastDayAsOf 5 (some .int)) mw_103) (hts (Cond.initialized y_R_lastDayAsOf.cls) mw_104) (hts (Cond.methodLink "MeasureRows" 161 y_R_lastDayAsOf) mw_150) rfl rfl (by decide +kernel) ⟨Nat.le_of_ble_eq_true rfl, Nat.le_of_ble_eq_true rfl⟩), (hts (Cond.instanceMethod y_R_lastDayAsOf) mw_106), (hts (Cond.selects "MeasureRows$Row" y_R_lastDayAsOf y_R_lastDayAsOf) mw_107)⟩ (mr_preV hBH hK (hPr_3.sub (ws' := [(a_3, .inr (2, [.int v0_3, .int v1_3, .int v2_3, .int (nI k_3), .int v4_3, .int v5_3, .int v6_3, .int v7_3, .int (nI t_3), .ref ql_3, .ref qk_3])), (ql_3, .inl (cI, 8, .inl ld_3)), (qk_3, .inl (cI, 8, .inl kd_3))]) [0, 1, 2] rfl) (ci := 2) (q0 := 0) rfl rfl) rfl rfl hl.1 rfl (lv_room (Nat.le_of_ble_eq_true rfl)) d_M_look_96 ⟨Nat.le_of_ble_eq_true rfl, Nat.le_of_ble_eq_true rfl⟩)) (fun r_7 h_8 => ?_)
            subst h_8
            refine mr_ret ?_
            refine W.widen (k := 1) (n := 6) (Nat.le_of_ble_eq_true rfl) (Nat.le_of_ble_eq_true rfl) ?_
            exact W.iret (v := mv_R_lastDayAsOf t_3 ld_3 kd_3 nw) hx hb hr (fun t ht _ => ⟨_, rfl, trivial, ht⟩) (fun _ h => nomatch h) d_M_look_99
          · skip
            by_cases c_9 : a1 = 4
            · refine lv_tableIn (tgt := 100) hx hb d_M_look_21 (by rw [c_9]; decide) (by rw [c_9]; decide) (by rw [c_9]; rfl) (by decide) ?_
              refine lv_aload_n hx hb d_M_look_100 rfl (lv_at hl 0 rfl) ?_
              refine va_get (D := (dC, dI)) (ci := 2) (v := .int (nI k_3)) (C := R_R) (T := T_R) (N := 11) hx hb hts ti_R hown hK hPr_3 0 rfl rfl 3 (by decide) (hts (Cond.fieldLink "MeasureRows" 164 "MeasureRows$Row" "kind" "I") mw_151) (fun _ h9 => h9) rfl d_M_look_101 ?_
              refine mr_ret ?_
              refine W.widen (k := 1) (n := 6) (Nat.le_of_ble_eq_true rfl) (Nat.le_of_ble_eq_true rfl) ?_
              exact W.iret (v := nI k_3) hx hb hr (fun t ht _ => ⟨_, rfl, trivial, ht⟩) (fun _ h => nomatch h) d_M_look_104
            · skip
              by_cases c_10 : a1 = 5
              · refine lv_tableIn (tgt := 105) hx hb d_M_look_21 (by rw [c_10]; decide) (by rw [c_10]; decide) (by rw [c_10]; rfl) (by decide) ?_
                refine lv_aload_n hx hb d_M_look_105 rfl (lv_at hl 0 rfl) ?_
                refine va_get (D := (dC, dI)) (ci := 2) (v := .int v4_3) (C := R_R) (T := T_R) (N := 11) hx hb hts ti_R hown hK hPr_3 0 rfl rfl 4 (by decide) (hts (Cond.fieldLink "MeasureRows" 167 "MeasureRows$Row" "rank" "I") mw_152) (fun _ h9 => h9) rfl d_M_look_106 ?_
                refine mr_ret ?_
                refine W.widen (k := 1) (n := 6) (Nat.le_of_ble_eq_true rfl) (Nat.le_of_ble_eq_true rfl) ?_
                exact W.iret (v := v4_3) hx hb hr (fun t ht _ => ⟨_, rfl, trivial, ht⟩) (fun _ h => nomatch h) d_M_look_109
              · skip
                by_cases c_11 : a1 = 6
                · refine lv_tableIn (tgt := 110) hx hb d_M_look_21 (by rw [c_11]; decide) (by rw [c_11]; decide) (by rw [c_11]; rfl) (by decide) ?_
                  refine lv_aload_n hx hb d_M_look_110 rfl (lv_at hl 0 rfl) ?_
                  refine va_get (D := (dC, dI)) (ci := 2) (v := .int v5_3) (C := R_R) (T := T_R) (N := 11) hx hb hts ti_R hown hK hPr_3 0 rfl rfl 5 (by decide) (hts (Cond.fieldLink "MeasureRows" 170 "MeasureRows$Row" "known" "I") mw_153) (fun _ h9 => h9) rfl d_M_look_111 ?_
                  refine mr_ret ?_
                  refine W.widen (k := 1) (n := 6) (Nat.le_of_ble_eq_true rfl) (Nat.le_of_ble_eq_true rfl) ?_
                  exact W.iret (v := v5_3) hx hb hr (fun t ht _ => ⟨_, rfl, trivial, ht⟩) (fun _ h => nomatch h) d_M_look_114
                · skip
                  by_cases c_12 : a1 = 7
                  · refine lv_tableIn (tgt := 115) hx hb d_M_look_21 (by rw [c_12]; decide) (by rw [c_12]; decide) (by rw [c_12]; rfl) (by decide) ?_
                    refine lv_aload_n hx hb d_M_look_115 rfl (lv_at hl 0 rfl) ?_
                    refine va_get (D := (dC, dI)) (ci := 2) (v := .int (nI t_3)) (C := R_R) (T := T_R) (N := 11) hx hb hts ti_R hown hK hPr_3 0 rfl rfl 8 (by decide) (hts (Cond.fieldLink "MeasureRows" 123 "MeasureRows$Row" "told" "I") mw_154) (fun _ h9 => h9) rfl d_M_look_116 ?_
                    refine mr_ret ?_
                    refine W.widen (k := 1) (n := 6) (Nat.le_of_ble_eq_true rfl) (Nat.le_of_ble_eq_true rfl) ?_
                    exact W.iret (v := nI t_3) hx hb hr (fun t ht _ => ⟨_, rfl, trivial, ht⟩) (fun _ h => nomatch h) d_M_look_119
                  · skip
                    by_cases c_13 : a1 = 8
                    · refine lv_tableIn (tgt := 120) hx hb d_M_look_21 (by rw [c_13]; decide) (by rw [c_13]; decide) (by rw [c_13]; rfl) (by decide) ?_
                      refine lv_aload_n hx hb d_M_look_120 rfl (lv_at hl 0 rfl) ?_
                      refine va_get (D := (dC, dI)) (ci := 2) (v := .int v6_3) (C := R_R) (T := T_R) (N := 11) hx hb hts ti_R hown hK hPr_3 0 rfl rfl 6 (by decide) (hts (Cond.fieldLink "MeasureRows" 173 "MeasureRows$Row" "excluded" "I") mw_155) (fun _ h9 => h9) rfl d_M_look_121 ?_
                      refine vp_callSi (va_Run.run (va_runS (As := [.int v6_3]) (rest := []) ⟨hx, hb, hml, hown, hts⟩ (mc_I_bitCount l s0 v6_3) ⟨(mr_cB 1 (hts (Cond.code y_I_bitCount b_I_bitCount 1 (some .int)) mw_36) (hts (Cond.initialized y_I_bitCount.cls) mw_37) (hts (Cond.methodLink "MeasureRows" 176 y_I_bitCount) mw_156) rfl rfl (by decide +kernel) ⟨Nat.le_of_ble_eq_true rfl, Nat.le_of_ble_eq_true rfl⟩), (hts (Cond.static y_I_bitCount) mw_39)⟩ (mr_pre0 hBH) rfl rfl hl.1 rfl (lv_room (Nat.le_of_ble_eq_true rfl)) d_M_look_124 ⟨Nat.le_of_ble_eq_true rfl, Nat.le_of_ble_eq_true rfl⟩)) (fun r_14 h_15 => ?_)
                      subst h_15
                      refine mr_ret ?_
                      refine W.widen (k := 1) (n := 6) (Nat.le_of_ble_eq_true rfl) (Nat.le_of_ble_eq_true rfl) ?_
                      exact W.iret (v := mv_I_bitCount v6_3) hx hb hr (fun t ht _ => ⟨_, rfl, trivial, ht⟩) (fun _ h => nomatch h) d_M_look_127
                    · skip
                      by_cases c_16 : a1 = 9
                      · refine lv_tableIn (tgt := 128) hx hb d_M_look_21 (by rw [c_16]; decide) (by rw [c_16]; decide) (by rw [c_16]; rfl) (by decide) ?_
                        refine lv_aload_n hx hb d_M_look_128 rfl (lv_at hl 0 rfl) ?_
                        refine va_get (D := (dC, dI)) (ci := 2) (v := .int v7_3) (C := R_R) (T := T_R) (N := 11) hx hb hts ti_R hown hK hPr_3 0 rfl rfl 7 (by decide) (hts (Cond.fieldLink "MeasureRows" 181 "MeasureRows$Row" "wanted" "I") mw_157) (fun _ h9 => h9) rfl d_M_look_129 ?_
                        refine vp_callSi (va_Run.run (va_runS (As := [.int v7_3]) (rest := []) ⟨hx, hb, hml, hown, hts⟩ (mc_I_bitCount l s0 v7_3) ⟨(mr_cB 1 (hts (Cond.code y_I_bitCount b_I_bitCount 1 (some .int)) mw_36) (hts (Cond.initialized y_I_bitCount.cls) mw_37) (hts (Cond.methodLink "MeasureRows" 176 y_I_bitCount) mw_156) rfl rfl (by decide +kernel) ⟨Nat.le_of_ble_eq_true rfl, Nat.le_of_ble_eq_true rfl⟩), (hts (Cond.static y_I_bitCount) mw_39)⟩ (mr_pre0 hBH) rfl rfl hl.1 rfl (lv_room (Nat.le_of_ble_eq_true rfl)) d_M_look_132 ⟨Nat.le_of_ble_eq_true rfl, Nat.le_of_ble_eq_true rfl⟩)) (fun r_17 h_18 => ?_)
                        subst h_18
                        refine mr_ret ?_
                        refine W.widen (k := 1) (n := 6) (Nat.le_of_ble_eq_true rfl) (Nat.le_of_ble_eq_true rfl) ?_
                        exact W.iret (v := mv_I_bitCount v7_3) hx hb hr (fun t ht _ => ⟨_, rfl, trivial, ht⟩) (fun _ h => nomatch h) d_M_look_135
                      · skip
                        refine lv_tableOut (tgt := 136) hx hb d_M_look_21 (by have z0 := mr_ne (z := 0) (by decide) c_3; have z1 := mr_ne (z := 1) (by decide) c_4; have z2 := mr_ne (z := 2) (by decide) c_5; have z3 := mr_ne (z := 3) (by decide) c_6; have z4 := mr_ne (z := 4) (by decide) c_9; have z5 := mr_ne (z := 5) (by decide) c_10; have z6 := mr_ne (z := 6) (by decide) c_11; have z7 := mr_ne (z := 7) (by decide) c_12; have z8 := mr_ne (z := 8) (by decide) c_13; have z9 := mr_ne (z := 9) (by decide) c_16; omega) (by decide) ?_
                        obtain ⟨sa, hstr⟩ := mr_str (hts (Cond.stringRef "MeasureRows" 184 "nothing such to look at") mw_158) hown
                        exact mr_throw (names := mr_up) hx hb hlt hown (by decide +kernel) (by decide +kernel) (hts (Cond.classLink "MeasureRows" 56 mr_iob) mw_129) (hts (Cond.initialized mr_iob) mw_130) hstr (hB.own _ mr_a_iob) (hl.1.trans hml.symm) d_M_look_136 d_M_look_139 d_M_look_140 d_M_look_142 d_M_look_145 hno (Nat.le_of_ble_eq_true rfl) (Nat.le_of_ble_eq_true rfl) (Nat.le_of_ble_eq_true rfl) (Nat.le_of_ble_eq_true rfl) hlocks rfl (Nat.le_of_ble_eq_true rfl) (Nat.le_of_ble_eq_true rfl)
