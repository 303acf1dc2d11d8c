theorem mw_128 : Cond.stringRef "MeasureRows" 58 "no such group" ∈ lw_tbl := by decide +kernel
theorem mw_129 : Cond.classLink "MeasureRows" 56 mr_iob ∈ lw_tbl := by decide +kernel
theorem mw_130 : Cond.initialized mr_iob ∈ lw_tbl := by decide +kernel
theorem mw_131 : Cond.methodLink "MeasureRows" 63 y_G_wouldRing ∈ lw_tbl := by decide +kernel
theorem mw_132 : Cond.code y_G_reaches b_G_reaches 3 (some .boolean) ∈ lw_tbl := by decide +kernel
theorem mw_133 : Cond.initialized y_G_reaches.cls ∈ lw_tbl := by decide +kernel
theorem mw_134 : Cond.methodLink "MeasureRows" 68 y_G_reaches ∈ lw_tbl := by decide +kernel
theorem mw_135 : Cond.instanceMethod y_G_reaches ∈ lw_tbl := by decide +kernel
theorem mw_136 : Cond.selects "MeasureRows$Groups" y_G_reaches y_G_reaches ∈ lw_tbl := by decide +kernel
theorem mw_137 : Cond.stringRef "MeasureRows" 66 "no such group or land" ∈ lw_tbl := by decide +kernel
theorem mw_138 : Cond.stringRef "MeasureRows" 89 "no such days" ∈ lw_tbl := by decide +kernel
theorem mw_139 : Cond.classLink "MeasureRows" 78 mr_iae ∈ lw_tbl := by decide +kernel
theorem mw_140 : Cond.initialized mr_iae ∈ lw_tbl := by decide +kernel
theorem mw_141 : Cond.code y_R_lastsOn b_R_lastsOn 3 (some .boolean) ∈ lw_tbl := by decide +kernel
theorem mw_142 : Cond.initialized y_R_lastsOn.cls ∈ lw_tbl := by decide +kernel
theorem mw_143 : Cond.methodLink "MeasureRows" 152 y_R_lastsOn ∈ lw_tbl := by decide +kernel
theorem mw_144 : Cond.instanceMethod y_R_lastsOn ∈ lw_tbl := by decide +kernel
theorem mw_145 : Cond.selects "MeasureRows$Row" y_R_lastsOn y_R_lastsOn ∈ lw_tbl := by decide +kernel
theorem mw_146 : Cond.stringRef "MeasureRows" 121 "no such row" ∈ lw_tbl := by decide +kernel
theorem mw_147 : Cond.fieldLink "MeasureRows" 155 "MeasureRows$Row" "code" "I" ∈ lw_tbl := by decide +kernel
theorem mw_148 : Cond.fieldLink "MeasureRows" 158 "MeasureRows$Row" "place" "I" ∈ lw_tbl := by decide +kernel
theorem mw_149 : Cond.fieldLink "MeasureRows" 128 "MeasureRows$Row" "first" "I" ∈ lw_tbl := by decide +kernel
theorem mw_150 : Cond.methodLink "MeasureRows" 161 y_R_lastDayAsOf ∈ lw_tbl := by decide +kernel
theorem mw_151 : Cond.fieldLink "MeasureRows" 164 "MeasureRows$Row" "kind" "I" ∈ lw_tbl := by decide +kernel
theorem mw_152 : Cond.fieldLink "MeasureRows" 167 "MeasureRows$Row" "rank" "I" ∈ lw_tbl := by decide +kernel
theorem mw_153 : Cond.fieldLink "MeasureRows" 170 "MeasureRows$Row" "known" "I" ∈ lw_tbl := by decide +kernel
theorem mw_154 : Cond.fieldLink "MeasureRows" 123 "MeasureRows$Row" "told" "I" ∈ lw_tbl := by decide +kernel
theorem mw_155 : Cond.fieldLink "MeasureRows" 173 "MeasureRows$Row" "excluded" "I" ∈ lw_tbl := by decide +kernel
theorem mw_156 : Cond.methodLink "MeasureRows" 176 y_I_bitCount ∈ lw_tbl := by decide +kernel
theorem mw_157 : Cond.fieldLink "MeasureRows" 181 "MeasureRows$Row" "wanted" "I" ∈ lw_tbl := by decide +kernel
theorem mw_158 : Cond.stringRef "MeasureRows" 184 "nothing such to look at" ∈ lw_tbl := by decide +kernel
def mv_M_ring (fi : Nat → Int32) (a0 : Int32) (a1 : Int32) : Int32 := if (mv_M_isGroup a0) = 0 then 0 else if (mv_M_isGroup a1) = 0 then 0 else (mv_G_wouldRing fi a0 a1)
def mk_M_ring (fi : Nat → Int32) (a0 : Int32) (a1 : Int32) : Int32 := if (mv_M_isGroup a0) = 0 then 1 else if (mv_M_isGroup a1) = 0 then 1 else 0
theorem mv_M_ring_b (fi : Nat → Int32) (a0 : Int32) (a1 : Int32) : mr_b01 (mv_M_ring fi a0 a1) := (mr_bi mr_b0 (mr_bi mr_b0 (mv_G_wouldRing_b fi a0 a1)))
set_option maxHeartbeats 4000000 in
set_option maxRecDepth 100000 in
theorem mc_M_ring (l : Launch) (hlt : l.stackTraces = false) (s0 : State) (dC : Nat → ClassId) (dI : Nat → Nat → Nat) (cI cR cL cZ : ClassId) (r : Nat → Nat) (n : Nat) (nw pb lc : Int32) (fm fi : Nat → Int32) (fr : Nat → Option Nat) (fl fc fg : Nat → Int32) (L : List Nat) (f : Nat → va_E) (a0 : Int32) (a1 : Int32) (hR : mr_RI cI n L f fr) : mr_Met l y_M_ring [Cond.code y_M_ring b_M_ring 3 (some .boolean)] ({ frames := 6, cells := 1, slots := 6, locals := 92 }) (mr_PW s0 (dC, dI) [(cI, .int), (cR, .object "MeasureRows$Row"), (cL, .long), (cZ, .boolean)] [.ref (r 0), .int a0, .int a1] (([((r 0), .inr (0, mf_M r (nI n) nw pb lc)), ((r 1), .inr (1, [.ref (r 2), .ref (r 3)])), ((r 2), .inl (cI, 8, .inl fm)), ((r 3), .inl (cI, 8, .inl fi)), ((r 4), .inl (cR, 80, .inr (.inr (.inr (.inr fr))))), ((r 5), .inl (cI, 80, .inl fl)), ((r 6), .inl (cI, 80, .inl fc)), ((r 7), .inl (cI, 8, .inl fg))] : va_W) ++ va_pl L f)) (vp_Si (fun r => mk_M_ring fi a0 a1 = 0 ∧ r = mv_M_ring fi a0 a1)) (fun E => (E = mr_iob ∧ mk_M_ring fi a0 a1 = 1)) 1 6 (fun _ => False) := by
  refine mr_of (cc := b_M_ring) (maxL := 3) (ret := (some .boolean)) (by decide) rfl ?_
  intro p e s m args below meth c s₁ B hml hno hv
  obtain ⟨rfl, hB, hK, hP⟩ := hv
  have hBH := hB.here
  have hx := B.exec
  have hb := B.bytes
  have hr := B.returns
  have hlocks := B.notSynchronized
  have hts : ∀ w ∈ lw_tbl, w.before [.ref (r 0), .int a0, .int a1].toArray s = true := hB.hts _
  have hown : s.vm.findClass "MeasureRows" = some m.cls := findClass_of_methodNamed B.named
  have hl := lv_entry ([.ref (r 0), .int a0, .int a1]) (n := 3) (Nat.le_of_ble_eq_true rfl)
  rw [lg_entry_eq]
  generalize (lg_sl ([.ref (r 0), .int a0, .int a1]) ++ List.replicate (3 - (lg_sl ([.ref (r 0), .int a0, .int a1])).length) Slot.unset).toArray = ls at hl ⊢
  have hl : lv_has ls 3 [(0, .ref (r 0)), (1, .int a0), (2, .int a1)] := hl
  refine lv_iload_n hx hb d_M_ring_0 rfl (lv_at hl 1 rfl) ?_
  refine vp_callSi (va_Run.run (va_runS (As := [.int a0]) (rest := []) ⟨hx, hb, hml, hown, hts⟩ (mc_M_isGroup l s0 a0) ⟨(mr_cB 1 (hts (Cond.code y_M_isGroup b_M_isGroup 1 (some .boolean)) mw_5) (hts (Cond.initialized y_M_isGroup.cls) mw_6) (hts (Cond.methodLink "MeasureRows" 45 y_M_isGroup) mw_7) rfl rfl (by decide +kernel) ⟨Nat.le_of_ble_eq_true rfl, Nat.le_of_ble_eq_true rfl⟩), (hts (Cond.static y_M_isGroup) mw_8)⟩ (mr_pre0 hBH) rfl rfl hl.1 rfl (lv_room (Nat.le_of_ble_eq_true rfl)) d_M_ring_1 ⟨Nat.le_of_ble_eq_true rfl, Nat.le_of_ble_eq_true rfl⟩)) (fun r_1 h_2 => ?_)
  subst h_2
  refine lv_if_eq (tgt := 14) hx hb d_M_ring_4 (by decide) (fun c_3 => ?_) (fun c_3 => ?_)
  · obtain ⟨sa, hstr⟩ := mr_str (hts (Cond.stringRef "MeasureRows" 58 "no such group") mw_128) hown
    exact mr_throw (names := mr_up) hx hb hlt hown (by decide +kernel) (by decide +kernel) (hts (Cond.classLink "MeasureRows" 56 mr_iob) mw_129) (hts (Cond.initialized mr_iob) mw_130) hstr (hB.own _ mr_a_iob) (hl.1.trans hml.symm) d_M_ring_14 d_M_ring_17 d_M_ring_18 d_M_ring_20 d_M_ring_23 hno (Nat.le_of_ble_eq_true rfl) (Nat.le_of_ble_eq_true rfl) (Nat.le_of_ble_eq_true rfl) (Nat.le_of_ble_eq_true rfl) hlocks ⟨rfl, by unfold mk_M_ring; rw [if_pos c_3]⟩ (Nat.le_of_ble_eq_true rfl) (Nat.le_of_ble_eq_true rfl)
  · refine lv_iload_n hx hb d_M_ring_7 rfl (lv_at hl 2 rfl) ?_
    refine vp_callSi (va_Run.run (va_runS (As := [.int a1]) (rest := []) ⟨hx, hb, hml, hown, hts⟩ (mc_M_isGroup l s0 a1) ⟨(mr_cB 1 (hts (Cond.code y_M_isGroup b_M_isGroup 1 (some .boolean)) mw_5) (hts (Cond.initialized y_M_isGroup.cls) mw_6) (hts (Cond.methodLink "MeasureRows" 45 y_M_isGroup) mw_7) rfl rfl (by decide +kernel) ⟨Nat.le_of_ble_eq_true rfl, Nat.le_of_ble_eq_true rfl⟩), (hts (Cond.static y_M_isGroup) mw_8)⟩ (mr_pre0 hBH) rfl rfl hl.1 rfl (lv_room (Nat.le_of_ble_eq_true rfl)) d_M_ring_8 ⟨Nat.le_of_ble_eq_true rfl, Nat.le_of_ble_eq_true rfl⟩)) (fun r_4 h_5 => ?_)
    subst h_5
    refine lv_if_ne (tgt := 24) hx hb d_M_ring_11 (by decide) (fun c_6 => ?_) (fun c_6 => ?_)
    · refine lv_aload_n hx hb d_M_ring_24 rfl (lv_at hl 0 rfl) ?_
      refine va_get (D := (dC, dI)) (ci := 0) (v := .ref (r 1)) (C := R_M) (T := T_M) (N := 9) hx hb hts ti_M hown hK hP 0 rfl rfl 0 (by decide) (hts (Cond.fieldLink "MeasureRows" 10 "MeasureRows" "groups" "LMeasureRows$Groups;") mw_53) (fun _ h9 => h9) rfl d_M_ring_25 ?_
      refine lv_iload_n hx hb d_M_ring_28 rfl (lv_at hl 1 rfl) ?_
      refine lv_iload_n hx hb d_M_ring_29 rfl (lv_at hl 2 rfl) ?_
      refine vp_callSi (va_Run.run (va_runV (As := [.int a0, .int a1]) (rest := []) (C := R_G) ⟨hx, hb, hml, hown, hts⟩ (mc_G_wouldRing l s0 dC dI cI cR cL cZ (r 1) (r 2) (r 3) fi a0 a1) ⟨(mr_cB 2 (hts (Cond.code y_G_wouldRing b_G_wouldRing 3 (some .boolean)) mw_76) (hts (Cond.initialized y_G_wouldRing.cls) mw_77) (hts (Cond.methodLink "MeasureRows" 63 y_G_wouldRing) mw_131) rfl rfl (by decide +kernel) ⟨Nat.le_of_ble_eq_true rfl, Nat.le_of_ble_eq_true rfl⟩), (hts (Cond.instanceMethod y_G_wouldRing) mw_79), (hts (Cond.selects "MeasureRows$Groups" y_G_wouldRing y_G_wouldRing) mw_80)⟩ (mr_preV hBH hK (hP.sub (ws' := [((r 1), .inr (1, [.ref (r 2), .ref (r 3)])), ((r 3), .inl (cI, 8, .inl fi))]) [1, 3] rfl) (ci := 1) (q0 := 0) rfl rfl) rfl rfl hl.1 rfl (lv_room (Nat.le_of_ble_eq_true rfl)) d_M_ring_30 ⟨Nat.le_of_ble_eq_true rfl, Nat.le_of_ble_eq_true rfl⟩)) (fun r_7 h_8 => ?_)
      subst h_8
      refine mr_ret ?_
      refine W.widen (k := 1) (n := 6) (Nat.le_of_ble_eq_true rfl) (Nat.le_of_ble_eq_true rfl) ?_
      exact W.zret (v := mv_G_wouldRing fi a0 a1) hx hb hr (mr_narz (mv_G_wouldRing_b fi a0 a1)) (fun t ht _ => ⟨_, rfl, ⟨by unfold mk_M_ring; rw [if_neg c_3, if_neg c_6], by unfold mv_M_ring; rw [if_neg c_3, if_neg c_6]⟩, ht⟩) (fun _ h => nomatch h) d_M_ring_33
    · obtain ⟨sa, hstr⟩ := mr_str (hts (Cond.stringRef "MeasureRows" 58 "no such group") mw_128) hown
      exact mr_throw (names := mr_up) hx hb hlt hown (by decide +kernel) (by decide +kernel) (hts (Cond.classLink "MeasureRows" 56 mr_iob) mw_129) (hts (Cond.initialized mr_iob) mw_130) hstr (hB.own _ mr_a_iob) (hl.1.trans hml.symm) d_M_ring_14 d_M_ring_17 d_M_ring_18 d_M_ring_20 d_M_ring_23 hno (Nat.le_of_ble_eq_true rfl) (Nat.le_of_ble_eq_true rfl) (Nat.le_of_ble_eq_true rfl) (Nat.le_of_ble_eq_true rfl) hlocks ⟨rfl, by unfold mk_M_ring; rw [if_neg c_3, if_pos c_6]⟩ (Nat.le_of_ble_eq_true rfl) (Nat.le_of_ble_eq_true rfl)
def mv_M_has (fi : Nat → Int32) (a0 : Int32) (a1 : Int32) : Int32 := if (mv_M_isGroup a0) = 0 then (if a0 = 31 then (if (mv_M_isLand a1) = 0 then 0 else (mv_G_reaches fi a0 a1)) else 0) else if (mv_M_isLand a1) = 0 then 0 else (mv_G_reaches fi a0 a1)
def mk_M_has (fi : Nat → Int32) (a0 : Int32) (a1 : Int32) : Int32 := if (mv_M_isGroup a0) = 0 then (if a0 = 31 then (if (mv_M_isLand a1) = 0 then 1 else 0) else 1) else if (mv_M_isLand a1) = 0 then 1 else 0
theorem mv_M_has_b (fi : Nat → Int32) (a0 : Int32) (a1 : Int32) : mr_b01 (mv_M_has fi a0 a1) := (mr_bi (mr_bi (mr_bi mr_b0 (mv_G_reaches_b fi a0 a1)) mr_b0) (mr_bi mr_b0 (mv_G_reaches_b fi a0 a1)))
set_option maxHeartbeats 4000000 in
set_option maxRecDepth 100000 in
theorem mc_M_has (l : Launch) (hlt : l.stackTraces = false) (s0 : State) (dC : Nat → ClassId) (dI : Nat → Nat → Nat) (cI cR cL cZ : ClassId) (r : Nat → Nat) (n : Nat) (nw pb lc : Int32) (fm fi : Nat → Int32) (fr : Nat → Option Nat) (fl fc fg : Nat → Int32) (L : List Nat) (f : Nat → va_E) (a0 : Int32) (a1 : Int32) (hR : mr_RI cI n L f fr) : mr_Met l y_M_has [Cond.code y_M_has b_M_has 3 (some .boolean)] ({ frames := 6, cells := 1, slots := 6, locals := 92 }) (mr_PW s0 (dC, dI) [(cI, .int), (cR, .object "MeasureRows$Row"), (cL, .long), (cZ, .boolean)] [.ref (r 0), .int a0, .int a1] (([((r 0), .inr (0, mf_M r (nI n) nw pb lc)), ((r 1), .inr (1, [.ref (r 2), .ref (r 3)])), ((r 2), .inl (cI, 8, .inl fm)), ((r 3), .inl (cI, 8, .inl fi)), ((r 4), .inl (cR, 80, .inr (.inr (.inr (.inr fr))))), ((r 5), .inl (cI, 80, .inl fl)), ((r 6), .inl (cI, 80, .inl fc)), ((r 7), .inl (cI, 8, .inl fg))] : va_W) ++ va_pl L f)) (vp_Si (fun r => mk_M_has fi a0 a1 = 0 ∧ r = mv_M_has fi a0 a1)) (fun E => (E = mr_iob ∧ mk_M_has fi a0 a1 = 1)) 1 6 (fun _ => False) := by
  refine mr_of (cc := b_M_has) (maxL := 3) (ret := (some .boolean)) (by decide) rfl ?_
  intro p e s m args below meth c s₁ B hml hno hv
  obtain ⟨rfl, hB, hK, hP⟩ := hv
  have hBH := hB.here
  have hx := B.exec
  have hb := B.bytes
  have hr := B.returns
  have hlocks := B.notSynchronized
  have hts : ∀ w ∈ lw_tbl, w.before [.ref (r 0), .int a0, .int a1].toArray s = true := hB.hts _
  have hown : s.vm.findClass "MeasureRows" = some m.cls := findClass_of_methodNamed B.named
  have hl := lv_entry ([.ref (r 0), .int a0, .int a1]) (n := 3) (Nat.le_of_ble_eq_true rfl)
  rw [lg_entry_eq]
  generalize (lg_sl ([.ref (r 0), .int a0, .int a1]) ++ List.replicate (3 - (lg_sl ([.ref (r 0), .int a0, .int a1])).length) Slot.unset).toArray = ls at hl ⊢
  have hl : lv_has ls 3 [(0, .ref (r 0)), (1, .int a0), (2, .int a1)] := hl
  refine lv_iload_n hx hb d_M_has_0 rfl (lv_at hl 1 rfl) ?_
  refine vp_callSi (va_Run.run (va_runS (As := [.int a0]) (rest := []) ⟨hx, hb, hml, hown, hts⟩ (mc_M_isGroup l s0 a0) ⟨(mr_cB 1 (hts (Cond.code y_M_isGroup b_M_isGroup 1 (some .boolean)) mw_5) (hts (Cond.initialized y_M_isGroup.cls) mw_6) (hts (Cond.methodLink "MeasureRows" 45 y_M_isGroup) mw_7) rfl rfl (by decide +kernel) ⟨Nat.le_of_ble_eq_true rfl, Nat.le_of_ble_eq_true rfl⟩), (hts (Cond.static y_M_isGroup) mw_8)⟩ (mr_pre0 hBH) rfl rfl hl.1 rfl (lv_room (Nat.le_of_ble_eq_true rfl)) d_M_has_1 ⟨Nat.le_of_ble_eq_true rfl, Nat.le_of_ble_eq_true rfl⟩)) (fun r_1 h_2 => ?_)
  subst h_2
  refine lv_if_ne (tgt := 13) hx hb d_M_has_4 (by decide) (fun c_3 => ?_) (fun c_3 => ?_)
  · refine lv_iload_n hx hb d_M_has_13 rfl (lv_at hl 2 rfl) ?_
    refine vp_callSi (va_Run.run (va_runS (As := [.int a1]) (rest := []) ⟨hx, hb, hml, hown, hts⟩ (mc_M_isLand l s0 a1) ⟨(mr_cB 1 (hts (Cond.code y_M_isLand b_M_isLand 1 (some .boolean)) mw_1) (hts (Cond.initialized y_M_isLand.cls) mw_2) (hts (Cond.methodLink "MeasureRows" 49 y_M_isLand) mw_3) rfl rfl (by decide +kernel) ⟨Nat.le_of_ble_eq_true rfl, Nat.le_of_ble_eq_true rfl⟩), (hts (Cond.static y_M_isLand) mw_4)⟩ (mr_pre0 hBH) rfl rfl hl.1 rfl (lv_room (Nat.le_of_ble_eq_true rfl)) d_M_has_14 ⟨Nat.le_of_ble_eq_true rfl, Nat.le_of_ble_eq_true rfl⟩)) (fun r_4 h_5 => ?_)
    subst h_5
    refine lv_if_ne (tgt := 30) hx hb d_M_has_17 (by decide) (fun c_6 => ?_) (fun c_6 => ?_)
    · refine lv_aload_n hx hb d_M_has_30 rfl (lv_at hl 0 rfl) ?_
      refine va_get (D := (dC, dI)) (ci := 0) (v := .ref (r 1)) (C := R_M) (T := T_M) (N := 9) hx hb hts ti_M hown hK hP 0 rfl rfl 0 (by decide) (hts (Cond.fieldLink "MeasureRows" 10 "MeasureRows" "groups" "LMeasureRows$Groups;") mw_53) (fun _ h9 => h9) rfl d_M_has_31 ?_
      refine lv_iload_n hx hb d_M_has_34 rfl (lv_at hl 1 rfl) ?_
      refine lv_iload_n hx hb d_M_has_35 rfl (lv_at hl 2 rfl) ?_
      refine vp_callSi (va_Run.run (va_runV (As := [.int a0, .int a1]) (rest := []) (C := R_G) ⟨hx, hb, hml, hown, hts⟩ (mc_G_reaches l s0 dC dI cI cR cL cZ (r 1) (r 2) (r 3) fi a0 a1) ⟨(mr_cB 2 (hts (Cond.code y_G_reaches b_G_reaches 3 (some .boolean)) mw_132) (hts (Cond.initialized y_G_reaches.cls) mw_133) (hts (Cond.methodLink "MeasureRows" 68 y_G_reaches) mw_134) rfl rfl (by decide +kernel) ⟨Nat.le_of_ble_eq_true rfl, Nat.le_of_ble_eq_true rfl⟩), (hts (Cond.instanceMethod y_G_reaches) mw_135), (hts (Cond.selects "MeasureRows$Groups" y_G_reaches y_G_reaches) mw_136)⟩ (mr_preV hBH hK (hP.sub (ws' := [((r 1), .inr (1, [.ref (r 2), .ref (r 3)])), ((r 3), .inl (cI, 8, .inl fi))]) [1, 3] rfl) (ci := 1) (q0 := 0) rfl rfl) rfl rfl hl.1 rfl (lv_room (Nat.le_of_ble_eq_true rfl)) d_M_has_36 ⟨Nat.le_of_ble_eq_true rfl, Nat.le_of_ble_eq_true rfl⟩)) (fun r_7 h_8 => ?_)
      subst h_8
      refine mr_ret ?_
      refine W.widen (k := 1) (n := 6) (Nat.le_of_ble_eq_true rfl) (Nat.le_of_ble_eq_true rfl) ?_
      exact W.zret (v := mv_G_reaches fi a0 a1) hx hb hr (mr_narz (mv_G_reaches_b fi a0 a1)) (fun t ht _ => ⟨_, rfl, ⟨by unfold mk_M_has; rw [if_neg c_3, if_neg c_6], by unfold mv_M_has; rw [if_neg c_3, if_neg c_6]⟩, ht⟩) (fun _ h => nomatch h) d_M_has_39
    · obtain ⟨sa, hstr⟩ := mr_str (hts (Cond.stringRef "MeasureRows" 66 "no such group or land") mw_137) hown
      exact mr_throw (names := mr_up) hx hb hlt hown (by decide +kernel) (by decide +kernel) (hts (Cond.classLink "MeasureRows" 56 mr_iob) mw_129) (hts (Cond.initialized mr_iob) mw_130) hstr (hB.own _ mr_a_iob) (hl.1.trans hml.symm) d_M_has_20 d_M_has_23 d_M_has_24 d_M_has_26 d_M_has_29 hno (Nat.le_of_ble_eq_true rfl) (Nat.le_of_ble_eq_true rfl) (Nat.le_of_ble_eq_true rfl) (Nat.le_of_ble_eq_true rfl) hlocks ⟨rfl, by unfold mk_M_has; rw [if_neg c_3, if_pos c_6]⟩ (Nat.le_of_ble_eq_true rfl) (Nat.le_of_ble_eq_true rfl)
  · refine lv_iload_n hx hb d_M_has_7 rfl (lv_at hl 1 rfl) ?_
    refine lv_bipush (v := 31) hx hb d_M_has_8 (by decide) ?_
    refine lv_icmp_ne (tgt := 20) hx hb d_M_has_10 (by decide) (fun c_9 => ?_) (fun c_9 => ?_)
    · obtain ⟨sa, hstr⟩ := mr_str (hts (Cond.stringRef "MeasureRows" 66 "no such group or land") mw_137) hown
      exact mr_throw (names := mr_up) hx hb hlt hown (by decide +kernel) (by decide +kernel) (hts (Cond.classLink "MeasureRows" 56 mr_iob) mw_129) (hts (Cond.initialized mr_iob) mw_130) hstr (hB.own _ mr_a_iob) (hl.1.trans hml.symm) d_M_has_20 d_M_has_23 d_M_has_24 d_M_has_26 d_M_has_29 hno (Nat.le_of_ble_eq_true rfl) (Nat.le_of_ble_eq_true rfl) (Nat.le_of_ble_eq_true rfl) (Nat.le_of_ble_eq_true rfl) hlocks ⟨rfl, by unfold mk_M_has; rw [if_pos c_3, if_neg c_9]⟩ (Nat.le_of_ble_eq_true rfl) (Nat.le_of_ble_eq_true rfl)
    · refine lv_iload_n hx hb d_M_has_13 rfl (lv_at hl 2 rfl) ?_
      refine vp_callSi (va_Run.run (va_runS (As := [.int a1]) (rest := []) ⟨hx, hb, hml, hown, hts⟩ (mc_M_isLand l s0 a1) ⟨(mr_cB 1 (hts (Cond.code y_M_isLand b_M_isLand 1 (some .boolean)) mw_1) (hts (Cond.initialized y_M_isLand.cls) mw_2) (hts (Cond.methodLink "MeasureRows" 49 y_M_isLand) mw_3) rfl rfl (by decide +kernel) ⟨Nat.le_of_ble_eq_true rfl, Nat.le_of_ble_eq_true rfl⟩), (hts (Cond.static y_M_isLand) mw_4)⟩ (mr_pre0 hBH) rfl rfl hl.1 rfl (lv_room (Nat.le_of_ble_eq_true rfl)) d_M_has_14 ⟨Nat.le_of_ble_eq_true rfl, Nat.le_of_ble_eq_true rfl⟩)) (fun r_10 h_11 => ?_)
      subst h_11
      refine lv_if_ne (tgt := 30) hx hb d_M_has_17 (by decide) (fun c_12 => ?_) (fun c_12 => ?_)
      · refine lv_aload_n hx hb d_M_has_30 rfl (lv_at hl 0 rfl) ?_
        refine va_get (D := (dC, dI)) (ci := 0) (v := .ref (r 1)) (C := R_M) (T := T_M) (N := 9) hx hb hts ti_M hown hK hP 0 rfl rfl 0 (by decide) (hts (Cond.fieldLink "MeasureRows" 10 "MeasureRows" "groups" "LMeasureRows$Groups;") mw_53) (fun _ h9 => h9) rfl d_M_has_31 ?_
        refine lv_iload_n hx hb d_M_has_34 rfl (lv_at hl 1 rfl) ?_
        refine lv_iload_n hx hb d_M_has_35 rfl (lv_at hl 2 rfl) ?_
        refine vp_callSi (va_Run.run (va_runV (As := [.int a0, .int a1]) (rest := []) (C := R_G) ⟨hx, hb, hml, hown, hts⟩ (mc_G_reaches l s0 dC dI cI cR cL cZ (r 1) (r 2) (r 3) fi a0 a1) ⟨(mr_cB 2 (hts (Cond.code y_G_reaches b_G_reaches 3 (some .boolean)) mw_132) (hts (Cond.initialized y_G_reaches.cls) mw_133) (hts (Cond.methodLink "MeasureRows" 68 y_G_reaches) mw_134) rfl rfl (by decide +kernel) ⟨Nat.le_of_ble_eq_true rfl, Nat.le_of_ble_eq_true rfl⟩), (hts (Cond.instanceMethod y_G_reaches) mw_135), (hts (Cond.selects "MeasureRows$Groups" y_G_reaches y_G_reaches) mw_136)⟩ (mr_preV hBH hK (hP.sub (ws' := [((r 1), .inr (1, [.ref (r 2), .ref (r 3)])), ((r 3), .inl (cI, 8, .inl fi))]) [1, 3] rfl) (ci := 1) (q0 := 0) rfl rfl) rfl rfl hl.1 rfl (lv_room (Nat.le_of_ble_eq_true rfl)) d_M_has_36 ⟨Nat.le_of_ble_eq_true rfl, Nat.le_of_ble_eq_true rfl⟩)) (fun r_13 h_14 => ?_)
        subst h_14
        refine mr_ret ?_
        refine W.widen (k := 1) (n := 6) (Nat.le_of_ble_eq_true rfl) (Nat.le_of_ble_eq_true rfl) ?_
        exact W.zret (v := mv_G_reaches fi a0 a1) hx hb hr (mr_narz (mv_G_reaches_b fi a0 a1)) (fun t ht _ => ⟨_, rfl, ⟨by unfold mk_M_has; rw [if_pos c_3, if_pos c_9, if_neg c_12], by unfold mv_M_has; rw [if_pos c_3, if_pos c_9, if_neg c_12]⟩, ht⟩) (fun _ h => nomatch h) d_M_has_39
      · obtain ⟨sa, hstr⟩ := mr_str (hts (Cond.stringRef "MeasureRows" 66 "no such group or land") mw_137) hown
        exact mr_throw (names := mr_up) hx hb hlt hown (by decide +kernel) (by decide +kernel) (hts (Cond.classLink "MeasureRows" 56 mr_iob) mw_129) (hts (Cond.initialized mr_iob) mw_130) hstr (hB.own _ mr_a_iob) (hl.1.trans hml.symm) d_M_has_20 d_M_has_23 d_M_has_24 d_M_has_26 d_M_has_29 hno (Nat.le_of_ble_eq_true rfl) (Nat.le_of_ble_eq_true rfl) (Nat.le_of_ble_eq_true rfl) (Nat.le_of_ble_eq_true rfl) hlocks ⟨rfl, by unfold mk_M_has; rw [if_pos c_3, if_pos c_9, if_pos c_12]⟩ (Nat.le_of_ble_eq_true rfl) (Nat.le_of_ble_eq_true rfl)
