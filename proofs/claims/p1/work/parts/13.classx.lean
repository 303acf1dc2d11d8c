theorem mw_57 : Cond.stringRef "MeasureRows" 58 "no such group" ∈ lw_tbl := by decide +kernel
theorem mw_58 : Cond.classLink "MeasureRows" 56 mr_iob ∈ lw_tbl := by decide +kernel
theorem mw_59 : Cond.initialized mr_iob ∈ lw_tbl := by decide +kernel
theorem mw_60 : Cond.code y_G_wouldRing b_G_wouldRing 3 (some .boolean) ∈ lw_tbl := by decide +kernel
theorem mw_61 : Cond.initialized y_G_wouldRing.cls ∈ lw_tbl := by decide +kernel
theorem mw_62 : Cond.methodLink "MeasureRows" 63 y_G_wouldRing ∈ lw_tbl := by decide +kernel
theorem mw_63 : Cond.instanceMethod y_G_wouldRing ∈ lw_tbl := by decide +kernel
theorem mw_64 : Cond.selects "MeasureRows$Groups" y_G_wouldRing y_G_wouldRing ∈ lw_tbl := by decide +kernel
theorem mw_65 : Cond.code y_G_reaches b_G_reaches 3 (some .boolean) ∈ lw_tbl := by decide +kernel
theorem mw_66 : Cond.initialized y_G_reaches.cls ∈ lw_tbl := by decide +kernel
theorem mw_67 : Cond.methodLink "MeasureRows" 68 y_G_reaches ∈ lw_tbl := by decide +kernel
theorem mw_68 : Cond.instanceMethod y_G_reaches ∈ lw_tbl := by decide +kernel
theorem mw_69 : Cond.selects "MeasureRows$Groups" y_G_reaches y_G_reaches ∈ lw_tbl := by decide +kernel
theorem mw_70 : Cond.stringRef "MeasureRows" 66 "no such group or land" ∈ lw_tbl := by decide +kernel
theorem mw_71 : Cond.stringRef "MeasureRows" 121 "no such row" ∈ lw_tbl := by decide +kernel
theorem mw_72 : Cond.code y_M_levelOf b_M_levelOf 1 (some .int) ∈ lw_tbl := by decide +kernel
theorem mw_73 : Cond.initialized y_M_levelOf.cls ∈ lw_tbl := by decide +kernel
theorem mw_74 : Cond.methodLink "MeasureRows" 71 y_M_levelOf ∈ lw_tbl := by decide +kernel
theorem mw_75 : Cond.static y_M_levelOf ∈ lw_tbl := by decide +kernel
theorem mw_76 : Cond.stringRef "MeasureRows" 136 "no such code, land or day" ∈ lw_tbl := by decide +kernel
theorem mw_77 : Cond.classLink "MeasureRows" 78 mr_iae ∈ lw_tbl := by decide +kernel
theorem mw_78 : Cond.initialized mr_iae ∈ lw_tbl := by decide +kernel
theorem mw_79 : Cond.fieldLink "MeasureRows" 39 "MeasureRows" "candidates" "[I" ∈ lw_tbl := by decide +kernel
theorem mw_80 : Cond.code y_M_gather b_M_gather 9 (some .int) ∈ lw_tbl := by decide +kernel
theorem mw_81 : Cond.initialized y_M_gather.cls ∈ lw_tbl := by decide +kernel
theorem mw_82 : Cond.methodLink "MeasureRows" 138 y_M_gather ∈ lw_tbl := by decide +kernel
theorem mw_83 : Cond.instanceMethod y_M_gather ∈ lw_tbl := by decide +kernel
theorem mw_84 : Cond.selects "MeasureRows" y_M_gather y_M_gather ∈ lw_tbl := by decide +kernel
theorem mw_85 : Cond.code y_M_keepWithPapers b_M_keepWithPapers 5 (some .int) ∈ lw_tbl := by decide +kernel
theorem mw_86 : Cond.initialized y_M_keepWithPapers.cls ∈ lw_tbl := by decide +kernel
theorem mw_87 : Cond.methodLink "MeasureRows" 142 y_M_keepWithPapers ∈ lw_tbl := by decide +kernel
theorem mw_88 : Cond.instanceMethod y_M_keepWithPapers ∈ lw_tbl := by decide +kernel
theorem mw_89 : Cond.selects "MeasureRows" y_M_keepWithPapers y_M_keepWithPapers ∈ lw_tbl := by decide +kernel
theorem mw_90 : Cond.stringRef "MeasureRows" 89 "no such days" ∈ lw_tbl := by decide +kernel
def mv_M_ring  (a0 : Int32) (a1 : Int32) : Int32 := if (mv_M_isGroup a0) = 0 then 0 else if (mv_M_isGroup a1) = 0 then 0 else (mv_G_wouldRing (fun _ => 0) a0 a1)
def mk_M_ring  (a0 : Int32) (a1 : Int32) : Int32 := if (mv_M_isGroup a0) = 0 then 1 else if (mv_M_isGroup a1) = 0 then 1 else 0
theorem mv_M_ring_b  (a0 : Int32) (a1 : Int32) : mr_b01 (mv_M_ring  a0 a1) := (mr_bi mr_b0 (mr_bi mr_b0 (mv_G_wouldRing_b (fun _ => 0) a0 a1)))
set_option maxHeartbeats 4000000 in
set_option maxRecDepth 100000 in
theorem mc_M_ring (l : Launch) (hlt : l.stackTraces = false) (s0 : State) (dC : Nat → ClassId) (dI : Nat → Nat → Nat) (cI cR cL cZ : ClassId) (r : Nat → Nat) (a0 : Int32) (a1 : Int32) : mr_Met l y_M_ring [Cond.code y_M_ring b_M_ring 3 (some .boolean)] ({ frames := 6, cells := 1, slots := 6, locals := 92 }) (mr_PW s0 (dC, dI) [(cI, .int), (cR, .object "MeasureRows$Row"), (cL, .long), (cZ, .boolean)] [.ref (r 0), .int a0, .int a1] [((r 0), .inr (0, mf_M r (nI 0) 0 0 0)), ((r 1), .inr (1, [.ref (r 2), .ref (r 3)])), ((r 2), .inl (cI, 8, .inl (fun _ => 0))), ((r 3), .inl (cI, 8, .inl (fun _ => 0))), ((r 4), .inl (cR, 80, .inr (.inr (.inr (.inr (fun _ => none)))))), ((r 5), .inl (cI, 80, .inl (fun _ => 0))), ((r 6), .inl (cI, 80, .inl (fun _ => 0))), ((r 7), .inl (cI, 8, .inl (fun _ => 0)))]) (vp_Si (fun r => mk_M_ring  a0 a1 = 0 ∧ r = mv_M_ring  a0 a1)) (fun E => (E = mr_iob ∧ mk_M_ring  a0 a1 = 1)) 1 6 (fun _ => False) := by
  refine mr_of (cc := b_M_ring) (maxL := 3) (ret := (some .boolean)) (by decide) rfl ?_
  intro p e s m args below meth c s₁ B hml hno hv
  obtain ⟨rfl, hB, hK, hP⟩ := hv
  have hBH := hB.here
  have hx := B.exec
  have hb := B.bytes
  have hr := B.returns
  have hlocks := B.notSynchronized
  have hts : ∀ w ∈ lw_tbl, w.before [.ref (r 0), .int a0, .int a1].toArray s = true := hB.hts _
  have hown : s.vm.findClass "MeasureRows" = some m.cls := findClass_of_methodNamed B.named
  have hl := lv_entry ([.ref (r 0), .int a0, .int a1]) (n := 3) (Nat.le_of_ble_eq_true rfl)
  rw [lg_entry_eq]
  generalize (lg_sl ([.ref (r 0), .int a0, .int a1]) ++ List.replicate (3 - (lg_sl ([.ref (r 0), .int a0, .int a1])).length) Slot.unset).toArray = ls at hl ⊢
  have hl : lv_has ls 3 [(0, .ref (r 0)), (1, .int a0), (2, .int a1)] := hl
  refine lv_iload_n hx hb d_M_ring_0 rfl (lv_at hl 1 rfl) ?_
  refine vp_callSi (va_Run.run (va_runS (As := [.int a0]) (rest := []) ⟨hx, hb, hml, hown, hts⟩ (mc_M_isGroup l s0 a0) ⟨(mr_cB 1 (hts (Cond.code y_M_isGroup b_M_isGroup 1 (some .boolean)) mw_5) (hts (Cond.initialized y_M_isGroup.cls) mw_6) (hts (Cond.methodLink "MeasureRows" 45 y_M_isGroup) mw_7) rfl rfl (by decide +kernel) ⟨Nat.le_of_ble_eq_true rfl, Nat.le_of_ble_eq_true rfl⟩), (hts (Cond.static y_M_isGroup) mw_8)⟩ (mr_pre0 hBH) rfl rfl hl.1 rfl (lv_room (Nat.le_of_ble_eq_true rfl)) d_M_ring_1 ⟨Nat.le_of_ble_eq_true rfl, Nat.le_of_ble_eq_true rfl⟩)) (fun r_1 h_2 => ?_)
  subst h_2
  refine lv_if_eq (tgt := 14) hx hb d_M_ring_4 (by decide) (fun c_3 => ?_) (fun c_3 => ?_)
  · obtain ⟨sa, hstr⟩ := mr_str (hts (Cond.stringRef "MeasureRows" 58 "no such group") mw_57) hown
    exact mr_throw (names := mr_up) hx hb hlt hown (by decide +kernel) (by decide +kernel) (hts (Cond.classLink "MeasureRows" 56 mr_iob) mw_58) (hts (Cond.initialized mr_iob) mw_59) hstr (hB.own _ mr_a_iob) (hl.1.trans hml.symm) d_M_ring_14 d_M_ring_17 d_M_ring_18 d_M_ring_20 d_M_ring_23 hno (Nat.le_of_ble_eq_true rfl) (Nat.le_of_ble_eq_true rfl) (Nat.le_of_ble_eq_true rfl) (Nat.le_of_ble_eq_true rfl) hlocks ⟨rfl, by unfold mk_M_ring; rw [if_pos c_3]⟩ (Nat.le_of_ble_eq_true rfl) (Nat.le_of_ble_eq_true rfl)
  · refine lv_iload_n hx hb d_M_ring_7 rfl (lv_at hl 2 rfl) ?_
    refine vp_callSi (va_Run.run (va_runS (As := [.int a1]) (rest := []) ⟨hx, hb, hml, hown, hts⟩ (mc_M_isGroup l s0 a1) ⟨(mr_cB 1 (hts (Cond.code y_M_isGroup b_M_isGroup 1 (some .boolean)) mw_5) (hts (Cond.initialized y_M_isGroup.cls) mw_6) (hts (Cond.methodLink "MeasureRows" 45 y_M_isGroup) mw_7) rfl rfl (by decide +kernel) ⟨Nat.le_of_ble_eq_true rfl, Nat.le_of_ble_eq_true rfl⟩), (hts (Cond.static y_M_isGroup) mw_8)⟩ (mr_pre0 hBH) rfl rfl hl.1 rfl (lv_room (Nat.le_of_ble_eq_true rfl)) d_M_ring_8 ⟨Nat.le_of_ble_eq_true rfl, Nat.le_of_ble_eq_true rfl⟩)) (fun r_4 h_5 => ?_)
    subst h_5
    refine lv_if_ne (tgt := 24) hx hb d_M_ring_11 (by decide) (fun c_6 => ?_) (fun c_6 => ?_)
    · refine lv_aload_n hx hb d_M_ring_24 rfl (lv_at hl 0 rfl) ?_
      refine va_get (D := (dC, dI)) (ci := 0) (v := .ref (r 1)) (C := R_M) (T := T_M) (N := 9) hx hb hts ti_M hown hK hP 0 rfl rfl 0 (by decide) (hts (Cond.fieldLink "MeasureRows" 10 "MeasureRows" "groups" "LMeasureRows$Groups;") mw_51) (fun _ h9 => h9) rfl d_M_ring_25 ?_
      refine lv_iload_n hx hb d_M_ring_28 rfl (lv_at hl 1 rfl) ?_
      refine lv_iload_n hx hb d_M_ring_29 rfl (lv_at hl 2 rfl) ?_
      refine vp_callSi (va_Run.run (va_runV (As := [.int a0, .int a1]) (rest := []) (C := R_G) ⟨hx, hb, hml, hown, hts⟩ (mc_G_wouldRing l s0 dC dI cI cR cL cZ (r 1) (r 2) (r 3) (fun _ => 0) a0 a1) ⟨(mr_cB 2 (hts (Cond.code y_G_wouldRing b_G_wouldRing 3 (some .boolean)) mw_60) (hts (Cond.initialized y_G_wouldRing.cls) mw_61) (hts (Cond.methodLink "MeasureRows" 63 y_G_wouldRing) mw_62) rfl rfl (by decide +kernel) ⟨Nat.le_of_ble_eq_true rfl, Nat.le_of_ble_eq_true rfl⟩), (hts (Cond.instanceMethod y_G_wouldRing) mw_63), (hts (Cond.selects "MeasureRows$Groups" y_G_wouldRing y_G_wouldRing) mw_64)⟩ (mr_preV hBH hK (hP.sub (ws' := [((r 1), .inr (1, [.ref (r 2), .ref (r 3)])), ((r 3), .inl (cI, 8, .inl (fun _ => 0)))]) [1, 3] rfl) (ci := 1) (q0 := 0) rfl rfl) rfl rfl hl.1 rfl (lv_room (Nat.le_of_ble_eq_true rfl)) d_M_ring_30 ⟨Nat.le_of_ble_eq_true rfl, Nat.le_of_ble_eq_true rfl⟩)) (fun r_7 h_8 => ?_)
      subst h_8
      refine mr_ret ?_
      refine W.widen (k := 1) (n := 6) (Nat.le_of_ble_eq_true rfl) (Nat.le_of_ble_eq_true rfl) ?_
      exact W.zret (v := mv_G_wouldRing (fun _ => 0) a0 a1) hx hb hr (mr_narz (mv_G_wouldRing_b (fun _ => 0) a0 a1)) (fun t ht _ => ⟨_, rfl, ⟨by unfold mk_M_ring; rw [if_neg c_3, if_neg c_6], by unfold mv_M_ring; rw [if_neg c_3, if_neg c_6]⟩, ht⟩) (fun _ h => nomatch h) d_M_ring_33
    · obtain ⟨sa, hstr⟩ := mr_str (hts (Cond.stringRef "MeasureRows" 58 "no such group") mw_57) hown
      exact mr_throw (names := mr_up) hx hb hlt hown (by decide +kernel) (by decide +kernel) (hts (Cond.classLink "MeasureRows" 56 mr_iob) mw_58) (hts (Cond.initialized mr_iob) mw_59) hstr (hB.own _ mr_a_iob) (hl.1.trans hml.symm) d_M_ring_14 d_M_ring_17 d_M_ring_18 d_M_ring_20 d_M_ring_23 hno (Nat.le_of_ble_eq_true rfl) (Nat.le_of_ble_eq_true rfl) (Nat.le_of_ble_eq_true rfl) (Nat.le_of_ble_eq_true rfl) hlocks ⟨rfl, by unfold mk_M_ring; rw [if_neg c_3, if_pos c_6]⟩ (Nat.le_of_ble_eq_true rfl) (Nat.le_of_ble_eq_true rfl)
def mv_M_has  (a0 : Int32) (a1 : Int32) : Int32 := if (mv_M_isGroup a0) = 0 then (if a0 = 31 then (if (mv_M_isLand a1) = 0 then 0 else (mv_G_reaches (fun _ => 0) a0 a1)) else 0) else if (mv_M_isLand a1) = 0 then 0 else (mv_G_reaches (fun _ => 0) a0 a1)
def mk_M_has  (a0 : Int32) (a1 : Int32) : Int32 := if (mv_M_isGroup a0) = 0 then (if a0 = 31 then (if (mv_M_isLand a1) = 0 then 1 else 0) else 1) else if (mv_M_isLand a1) = 0 then 1 else 0
theorem mv_M_has_b  (a0 : Int32) (a1 : Int32) : mr_b01 (mv_M_has  a0 a1) := (mr_bi (mr_bi (mr_bi mr_b0 (mv_G_reaches_b (fun _ => 0) a0 a1)) mr_b0) (mr_bi mr_b0 (mv_G_reaches_b (fun _ => 0) a0 a1)))
set_option maxHeartbeats 4000000 in
set_option maxRecDepth 100000 in
theorem mc_M_has (l : Launch) (hlt : l.stackTraces = false) (s0 : State) (dC : Nat → ClassId) (dI : Nat → Nat → Nat) (cI cR cL cZ : ClassId) (r : Nat → Nat) (a0 : Int32) (a1 : Int32) : mr_Met l y_M_has [Cond.code y_M_has b_M_has 3 (some .boolean)] ({ frames := 6, cells := 1, slots := 6, locals := 92 }) (mr_PW s0 (dC, dI) [(cI, .int), (cR, .object "MeasureRows$Row"), (cL, .long), (cZ, .boolean)] [.ref (r 0), .int a0, .int a1] [((r 0), .inr (0, mf_M r (nI 0) 0 0 0)), ((r 1), .inr (1, [.ref (r 2), .ref (r 3)])), ((r 2), .inl (cI, 8, .inl (fun _ => 0))), ((r 3), .inl (cI, 8, .inl (fun _ => 0))), ((r 4), .inl (cR, 80, .inr (.inr (.inr (.inr (fun _ => none)))))), ((r 5), .inl (cI, 80, .inl (fun _ => 0))), ((r 6), .inl (cI, 80, .inl (fun _ => 0))), ((r 7), .inl (cI, 8, .inl (fun _ => 0)))]) (vp_Si (fun r => mk_M_has  a0 a1 = 0 ∧ r = mv_M_has  a0 a1)) (fun E => (E = mr_iob ∧ mk_M_has  a0 a1 = 1)) 1 6 (fun _ => False) := by
  refine mr_of (cc := b_M_has) (maxL := 3) (ret := (some .boolean)) (by decide) rfl ?_
  intro p e s m args below meth c s₁ B hml hno hv
  obtain ⟨rfl, hB, hK, hP⟩ := hv
  have hBH := hB.here
  have hx := B.exec
  have hb := B.bytes
  have hr := B.returns
  have hlocks := B.notSynchronized
  have hts : ∀ w ∈ lw_tbl, w.before [.ref (r 0), .int a0, .int a1].toArray s = true := hB.hts _
  have hown : s.vm.findClass "MeasureRows" = some m.cls := findClass_of_methodNamed B.named
  have hl := lv_entry ([.ref (r 0), .int a0, .int a1]) (n := 3) (Nat.le_of_ble_eq_true rfl)
  rw [lg_entry_eq]
  generalize (lg_sl ([.ref (r 0), .int a0, .int a1]) ++ List.replicate (3 - (lg_sl ([.ref (r 0), .int a0, .int a1])).length) Slot.unset).toArray = ls at hl ⊢
  have hl : lv_has ls 3 [(0, .ref (r 0)), (1, .int a0), (2, .int a1)] := hl
  refine lv_iload_n hx hb d_M_has_0 rfl (lv_at hl 1 rfl) ?_
  refine vp_callSi (va_Run.run (va_runS (As := [.int a0]) (rest := []) ⟨hx, hb, hml, hown, hts⟩ (mc_M_isGroup l s0 a0) ⟨(mr_cB 1 (hts (Cond.code y_M_isGroup b_M_isGroup 1 (some .boolean)) mw_5) (hts (Cond.initialized y_M_isGroup.cls) mw_6) (hts (Cond.methodLink "MeasureRows" 45 y_M_isGroup) mw_7) rfl rfl (by decide +kernel) ⟨Nat.le_of_ble_eq_true rfl, Nat.le_of_ble_eq_true rfl⟩), (hts (Cond.static y_M_isGroup) mw_8)⟩ (mr_pre0 hBH) rfl rfl hl.1 rfl (lv_room (Nat.le_of_ble_eq_true rfl)) d_M_has_1 ⟨Nat.le_of_ble_eq_true rfl, Nat.le_of_ble_eq_true rfl⟩)) (fun r_1 h_2 => ?_)
  subst h_2
  refine lv_if_ne (tgt := 13) hx hb d_M_has_4 (by decide) (fun c_3 => ?_) (fun c_3 => ?_)
  · refine lv_iload_n hx hb d_M_has_13 rfl (lv_at hl 2 rfl) ?_
    refine vp_callSi (va_Run.run (va_runS (As := [.int a1]) (rest := []) ⟨hx, hb, hml, hown, hts⟩ (mc_M_isLand l s0 a1) ⟨(mr_cB 1 (hts (Cond.code y_M_isLand b_M_isLand 1 (some .boolean)) mw_1) (hts (Cond.initialized y_M_isLand.cls) mw_2) (hts (Cond.methodLink "MeasureRows" 49 y_M_isLand) mw_3) rfl rfl (by decide +kernel) ⟨Nat.le_of_ble_eq_true rfl, Nat.le_of_ble_eq_true rfl⟩), (hts (Cond.static y_M_isLand) mw_4)⟩ (mr_pre0 hBH) rfl rfl hl.1 rfl (lv_room (Nat.le_of_ble_eq_true rfl)) d_M_has_14 ⟨Nat.le_of_ble_eq_true rfl, Nat.le_of_ble_eq_true rfl⟩)) (fun r_4 h_5 => ?_)
    subst h_5
    refine lv_if_ne (tgt := 30) hx hb d_M_has_17 (by decide) (fun c_6 => ?_) (fun c_6 => ?_)
    · refine lv_aload_n hx hb d_M_has_30 rfl (lv_at hl 0 rfl) ?_
      refine va_get (D := (dC, dI)) (ci := 0) (v := .ref (r 1)) (C := R_M) (T := T_M) (N := 9) hx hb hts ti_M hown hK hP 0 rfl rfl 0 (by decide) (hts (Cond.fieldLink "MeasureRows" 10 "MeasureRows" "groups" "LMeasureRows$Groups;") mw_51) (fun _ h9 => h9) rfl d_M_has_31 ?_
      refine lv_iload_n hx hb d_M_has_34 rfl (lv_at hl 1 rfl) ?_
      refine lv_iload_n hx hb d_M_has_35 rfl (lv_at hl 2 rfl) ?_
      refine vp_callSi (va_Run.run (va_runV (As := [.int a0, .int a1]) (rest := []) (C := R_G) ⟨hx, hb, hml, hown, hts⟩ (mc_G_reaches l s0 dC dI cI cR cL cZ (r 1) (r 2) (r 3) (fun _ => 0) a0 a1) ⟨(mr_cB 2 (hts (Cond.code y_G_reaches b_G_reaches 3 (some .boolean)) mw_65) (hts (Cond.initialized y_G_reaches.cls) mw_66) (hts (Cond.methodLink "MeasureRows" 68 y_G_reaches) mw_67) rfl rfl (by decide +kernel) ⟨Nat.le_of_ble_eq_true rfl, Nat.le_of_ble_eq_true rfl⟩), (hts (Cond.instanceMethod y_G_reaches) mw_68), (hts (Cond.selects "MeasureRows$Groups" y_G_reaches y_G_reaches) mw_69)⟩ (mr_preV hBH hK (hP.sub (ws' := [((r 1), .inr (1, [.ref (r 2), .ref (r 3)])), ((r 3), .inl (cI, 8, .inl (fun _ => 0)))]) [1, 3] rfl) (ci := 1) (q0 := 0) rfl rfl) rfl rfl hl.1 rfl (lv_room (Nat.le_of_ble_eq_true rfl)) d_M_has_36 ⟨Nat.le_of_ble_eq_true rfl, Nat.le_of_ble_eq_true rfl⟩)) (fun r_7 h_8 => ?_)
      subst h_8
      refine mr_ret ?_
      refine W.widen (k := 1) (n := 6) (Nat.le_of_ble_eq_true rfl) (Nat.le_of_ble_eq_true rfl) ?_
      exact W.zret (v := mv_G_reaches (fun _ => 0) a0 a1) hx hb hr (mr_narz (mv_G_reaches_b (fun _ => 0) a0 a1)) (fun t ht _ => ⟨_, rfl, ⟨by unfold mk_M_has; rw [if_neg c_3, if_neg c_6], by unfold mv_M_has; rw [if_neg c_3, if_neg c_6]⟩, ht⟩) (fun _ h => nomatch h) d_M_has_39
    · obtain ⟨sa, hstr⟩ := mr_str (hts (Cond.stringRef "MeasureRows" 66 "no such group or land") mw_70) hown
      exact mr_throw (names := mr_up) hx hb hlt hown (by decide +kernel) (by decide +kernel) (hts (Cond.classLink "MeasureRows" 56 mr_iob) mw_58) (hts (Cond.initialized mr_iob) mw_59) hstr (hB.own _ mr_a_iob) (hl.1.trans hml.symm) d_M_has_20 d_M_has_23 d_M_has_24 d_M_has_26 d_M_has_29 hno (Nat.le_of_ble_eq_true rfl) (Nat.le_of_ble_eq_true rfl) (Nat.le_of_ble_eq_true rfl) (Nat.le_of_ble_eq_true rfl) hlocks ⟨rfl, by unfold mk_M_has; rw [if_neg c_3, if_pos c_6]⟩ (Nat.le_of_ble_eq_true rfl) (Nat.le_of_ble_eq_true rfl)
  · refine lv_iload_n hx hb d_M_has_7 rfl (lv_at hl 1 rfl) ?_
    refine lv_bipush (v := 31) hx hb d_M_has_8 (by decide) ?_
    refine lv_icmp_ne (tgt := 20) hx hb d_M_has_10 (by decide) (fun c_9 => ?_) (fun c_9 => ?_)
    · obtain ⟨sa, hstr⟩ := mr_str (hts (Cond.stringRef "MeasureRows" 66 "no such group or land") mw_70) hown
      exact mr_throw (names := mr_up) hx hb hlt hown (by decide +kernel) (by decide +kernel) (hts (Cond.classLink "MeasureRows" 56 mr_iob) mw_58) (hts (Cond.initialized mr_iob) mw_59) hstr (hB.own _ mr_a_iob) (hl.1.trans hml.symm) d_M_has_20 d_M_has_23 d_M_has_24 d_M_has_26 d_M_has_29 hno (Nat.le_of_ble_eq_true rfl) (Nat.le_of_ble_eq_true rfl) (Nat.le_of_ble_eq_true rfl) (Nat.le_of_ble_eq_true rfl) hlocks ⟨rfl, by unfold mk_M_has; rw [if_pos c_3, if_neg c_9]⟩ (Nat.le_of_ble_eq_true rfl) (Nat.le_of_ble_eq_true rfl)
    · refine lv_iload_n hx hb d_M_has_13 rfl (lv_at hl 2 rfl) ?_
      refine vp_callSi (va_Run.run (va_runS (As := [.int a1]) (rest := []) ⟨hx, hb, hml, hown, hts⟩ (mc_M_isLand l s0 a1) ⟨(mr_cB 1 (hts (Cond.code y_M_isLand b_M_isLand 1 (some .boolean)) mw_1) (hts (Cond.initialized y_M_isLand.cls) mw_2) (hts (Cond.methodLink "MeasureRows" 49 y_M_isLand) mw_3) rfl rfl (by decide +kernel) ⟨Nat.le_of_ble_eq_true rfl, Nat.le_of_ble_eq_true rfl⟩), (hts (Cond.static y_M_isLand) mw_4)⟩ (mr_pre0 hBH) rfl rfl hl.1 rfl (lv_room (Nat.le_of_ble_eq_true rfl)) d_M_has_14 ⟨Nat.le_of_ble_eq_true rfl, Nat.le_of_ble_eq_true rfl⟩)) (fun r_10 h_11 => ?_)
      subst h_11
      refine lv_if_ne (tgt := 30) hx hb d_M_has_17 (by decide) (fun c_12 => ?_) (fun c_12 => ?_)
      · refine lv_aload_n hx hb d_M_has_30 rfl (lv_at hl 0 rfl) ?_
        refine va_get (D := (dC, dI)) (ci := 0) (v := .ref (r 1)) (C := R_M) (T := T_M) (N := 9) hx hb hts ti_M hown hK hP 0 rfl rfl 0 (by decide) (hts (Cond.fieldLink "MeasureRows" 10 "MeasureRows" "groups" "LMeasureRows$Groups;") mw_51) (fun _ h9 => h9) rfl d_M_has_31 ?_
        refine lv_iload_n hx hb d_M_has_34 rfl (lv_at hl 1 rfl) ?_
        refine lv_iload_n hx hb d_M_has_35 rfl (lv_at hl 2 rfl) ?_
        refine vp_callSi (va_Run.run (va_runV (As := [.int a0, .int a1]) (rest := []) (C := R_G) ⟨hx, hb, hml, hown, hts⟩ (mc_G_reaches l s0 dC dI cI cR cL cZ (r 1) (r 2) (r 3) (fun _ => 0) a0 a1) ⟨(mr_cB 2 (hts (Cond.code y_G_reaches b_G_reaches 3 (some .boolean)) mw_65) (hts (Cond.initialized y_G_reaches.cls) mw_66) (hts (Cond.methodLink "MeasureRows" 68 y_G_reaches) mw_67) rfl rfl (by decide +kernel) ⟨Nat.le_of_ble_eq_true rfl, Nat.le_of_ble_eq_true rfl⟩), (hts (Cond.instanceMethod y_G_reaches) mw_68), (hts (Cond.selects "MeasureRows$Groups" y_G_reaches y_G_reaches) mw_69)⟩ (mr_preV hBH hK (hP.sub (ws' := [((r 1), .inr (1, [.ref (r 2), .ref (r 3)])), ((r 3), .inl (cI, 8, .inl (fun _ => 0)))]) [1, 3] rfl) (ci := 1) (q0 := 0) rfl rfl) rfl rfl hl.1 rfl (lv_room (Nat.le_of_ble_eq_true rfl)) d_M_has_36 ⟨Nat.le_of_ble_eq_true rfl, Nat.le_of_ble_eq_true rfl⟩)) (fun r_13 h_14 => ?_)
        subst h_14
        refine mr_ret ?_
        refine W.widen (k := 1) (n := 6) (Nat.le_of_ble_eq_true rfl) (Nat.le_of_ble_eq_true rfl) ?_
        exact W.zret (v := mv_G_reaches (fun _ => 0) a0 a1) hx hb hr (mr_narz (mv_G_reaches_b (fun _ => 0) a0 a1)) (fun t ht _ => ⟨_, rfl, ⟨by unfold mk_M_has; rw [if_pos c_3, if_pos c_9, if_neg c_12], by unfold mv_M_has; rw [if_pos c_3, if_pos c_9, if_neg c_12]⟩, ht⟩) (fun _ h => nomatch h) d_M_has_39
      · obtain ⟨sa, hstr⟩ := mr_str (hts (Cond.stringRef "MeasureRows" 66 "no such group or land") mw_70) hown
        exact mr_throw (names := mr_up) hx hb hlt hown (by decide +kernel) (by decide +kernel) (hts (Cond.classLink "MeasureRows" 56 mr_iob) mw_58) (hts (Cond.initialized mr_iob) mw_59) hstr (hB.own _ mr_a_iob) (hl.1.trans hml.symm) d_M_has_20 d_M_has_23 d_M_has_24 d_M_has_26 d_M_has_29 hno (Nat.le_of_ble_eq_true rfl) (Nat.le_of_ble_eq_true rfl) (Nat.le_of_ble_eq_true rfl) (Nat.le_of_ble_eq_true rfl) hlocks ⟨rfl, by unfold mk_M_has; rw [if_pos c_3, if_pos c_9, if_pos c_12]⟩ (Nat.le_of_ble_eq_true rfl) (Nat.le_of_ble_eq_true rfl)
def mv_M_end  (a0 : Int32) (a1 : Int32) (a2 : Int32) : Int32 := 0
def mk_M_end  (a0 : Int32) (a1 : Int32) (a2 : Int32) : Int32 := 1
set_option maxHeartbeats 4000000 in
set_option maxRecDepth 100000 in
theorem mc_M_end (l : Launch) (hlt : l.stackTraces = false) (s0 : State) (dC : Nat → ClassId) (dI : Nat → Nat → Nat) (cI cR cL cZ : ClassId) (r : Nat → Nat) (a0 : Int32) (a1 : Int32) (a2 : Int32) : mr_Met l y_M_end [Cond.code y_M_end b_M_end 5 (some .int)] ({ frames := 6, cells := 1, slots := 6, locals := 92 }) (mr_PW s0 (dC, dI) [(cI, .int), (cR, .object "MeasureRows$Row"), (cL, .long), (cZ, .boolean)] [.ref (r 0), .int a0, .int a1, .int a2] [((r 0), .inr (0, mf_M r (nI 0) 0 0 0)), ((r 1), .inr (1, [.ref (r 2), .ref (r 3)])), ((r 2), .inl (cI, 8, .inl (fun _ => 0))), ((r 3), .inl (cI, 8, .inl (fun _ => 0))), ((r 4), .inl (cR, 80, .inr (.inr (.inr (.inr (fun _ => none)))))), ((r 5), .inl (cI, 80, .inl (fun _ => 0))), ((r 6), .inl (cI, 80, .inl (fun _ => 0))), ((r 7), .inl (cI, 8, .inl (fun _ => 0)))]) (vp_Si (fun r => mk_M_end  a0 a1 a2 = 0 ∧ r = mv_M_end  a0 a1 a2)) (fun E => (E = mr_iob ∧ mk_M_end  a0 a1 a2 = 1) ∨ (E = mr_iae ∧ mk_M_end  a0 a1 a2 = 2) ∨ (E = mr_ise ∧ mk_M_end  a0 a1 a2 = 3)) 1 6 (fun _ => False) := by
  refine mr_of (cc := b_M_end) (maxL := 5) (ret := (some .int)) (by decide) rfl ?_
  intro p e s m args below meth c s₁ B hml hno hv
  obtain ⟨rfl, hB, hK, hP⟩ := hv
  have hBH := hB.here
  have hx := B.exec
  have hb := B.bytes
  have hr := B.returns
  have hlocks := B.notSynchronized
  have hts : ∀ w ∈ lw_tbl, w.before [.ref (r 0), .int a0, .int a1, .int a2].toArray s = true := hB.hts _
  have hown : s.vm.findClass "MeasureRows" = some m.cls := findClass_of_methodNamed B.named
  have hl := lv_entry ([.ref (r 0), .int a0, .int a1, .int a2]) (n := 5) (Nat.le_of_ble_eq_true rfl)
  rw [lg_entry_eq]
  generalize (lg_sl ([.ref (r 0), .int a0, .int a1, .int a2]) ++ List.replicate (5 - (lg_sl ([.ref (r 0), .int a0, .int a1, .int a2])).length) Slot.unset).toArray = ls at hl ⊢
  have hl : lv_has ls 5 [(0, .ref (r 0)), (1, .int a0), (2, .int a1), (3, .int a2)] := hl
  refine lv_aload_n hx hb d_M_end_0 rfl (lv_at hl 0 rfl) ?_
  refine lv_iload_n hx hb d_M_end_1 rfl (lv_at hl 1 rfl) ?_
  refine va_csq (va_Run.run (va_runV (As := [.int a0]) (rest := []) (C := R_M) ⟨hx, hb, hml, hown, hts⟩ (mc_M_find l s0 dC dI cI cR cL cZ r a0) ⟨(mr_cB 1 (hts (Cond.code y_M_find b_M_find 2 (some (.object "MeasureRows$Row"))) mw_42) (hts (Cond.initialized y_M_find.cls) mw_43) (hts (Cond.methodLink "MeasureRows" 111 y_M_find) mw_44) rfl rfl (by decide +kernel) ⟨Nat.le_of_ble_eq_true rfl, Nat.le_of_ble_eq_true rfl⟩), (hts (Cond.instanceMethod y_M_find) mw_45), (hts (Cond.selects "MeasureRows" y_M_find y_M_find) mw_46)⟩ (mr_preV hBH hK (hP.sub (ws' := [((r 0), .inr (0, mf_M r (nI 0) 0 0 0)), ((r 4), .inl (cR, 80, .inr (.inr (.inr (.inr (fun _ => none))))))]) [0, 4] rfl) (ci := 0) (q0 := 0) rfl rfl) rfl rfl hl.1 rfl (lv_room (Nat.le_of_ble_eq_true rfl)) d_M_end_2 ⟨Nat.le_of_ble_eq_true rfl, Nat.le_of_ble_eq_true rfl⟩)) (fun r_1 h_2 => ?_)
  subst h_2
  refine mr_topv (mv_find0 _) ?_
  refine lv_astoreN (lv' := [(4, .null), (0, .ref (r 0)), (1, .int a0), (2, .int a1), (3, .int a2)]) hx hb d_M_end_5 hl (by decide) rfl (fun ls hl => ?_)
  refine lv_aloadN hx hb d_M_end_7 (lv_at hl 0 rfl) ?_
  refine lv_ifnonnullN hx hb d_M_end_9 ?_
  obtain ⟨sa, hstr⟩ := mr_str (hts (Cond.stringRef "MeasureRows" 121 "no such row") mw_71) hown
  exact mr_throw (names := mr_up) hx hb hlt hown (by decide +kernel) (by decide +kernel) (hts (Cond.classLink "MeasureRows" 56 mr_iob) mw_58) (hts (Cond.initialized mr_iob) mw_59) hstr (hB.own _ mr_a_iob) (hl.1.trans hml.symm) d_M_end_12 d_M_end_15 d_M_end_16 d_M_end_18 d_M_end_21 hno (Nat.le_of_ble_eq_true rfl) (Nat.le_of_ble_eq_true rfl) (Nat.le_of_ble_eq_true rfl) (Nat.le_of_ble_eq_true rfl) hlocks (Or.inl ⟨rfl, rfl⟩) (Nat.le_of_ble_eq_true rfl) (Nat.le_of_ble_eq_true rfl)
def mv_M_apply  (a0 : Int32) (a1 : Int32) (a2 : Int32) (a3 : Int32) : Int32 := if (mv_M_levelOf a0) = 3 then (if (mv_M_isLand a1) = 0 then 0 else if (mv_M_isDay a2) = 0 then 0 else if (mv_M_isDay a3) = 0 then 0 else 0) else 0
def mk_M_apply  (a0 : Int32) (a1 : Int32) (a2 : Int32) (a3 : Int32) : Int32 := if (mv_M_levelOf a0) = 3 then (if (mv_M_isLand a1) = 0 then 1 else if (mv_M_isDay a2) = 0 then 1 else if (mv_M_isDay a3) = 0 then 1 else 0) else 1
set_option maxHeartbeats 4000000 in
set_option maxRecDepth 100000 in
theorem mc_M_apply (l : Launch) (hlt : l.stackTraces = false) (s0 : State) (dC : Nat → ClassId) (dI : Nat → Nat → Nat) (cI cR cL cZ : ClassId) (r : Nat → Nat) (a0 : Int32) (a1 : Int32) (a2 : Int32) (a3 : Int32) : mr_Met l y_M_apply [Cond.code y_M_apply b_M_apply 6 (some .int)] ({ frames := 6, cells := 1, slots := 6, locals := 92 }) (mr_PW s0 (dC, dI) [(cI, .int), (cR, .object "MeasureRows$Row"), (cL, .long), (cZ, .boolean)] [.ref (r 0), .int a0, .int a1, .int a2, .int a3] [((r 0), .inr (0, mf_M r (nI 0) 0 0 0)), ((r 1), .inr (1, [.ref (r 2), .ref (r 3)])), ((r 2), .inl (cI, 8, .inl (fun _ => 0))), ((r 3), .inl (cI, 8, .inl (fun _ => 0))), ((r 4), .inl (cR, 80, .inr (.inr (.inr (.inr (fun _ => none)))))), ((r 5), .inl (cI, 80, .inl (fun _ => 0))), ((r 6), .inl (cI, 80, .inl (fun _ => 0))), ((r 7), .inl (cI, 8, .inl (fun _ => 0)))]) (vp_Si (fun r => mk_M_apply  a0 a1 a2 a3 = 0 ∧ r = mv_M_apply  a0 a1 a2 a3)) (fun E => (E = mr_iae ∧ mk_M_apply  a0 a1 a2 a3 = 1)) 1 6 (fun _ => False) := by
  refine mr_of (cc := b_M_apply) (maxL := 6) (ret := (some .int)) (by decide) rfl ?_
  intro p e s m args below meth c s₁ B hml hno hv
  obtain ⟨rfl, hB, hK, hP⟩ := hv
  have hBH := hB.here
  have hx := B.exec
  have hb := B.bytes
  have hr := B.returns
  have hlocks := B.notSynchronized
  have hts : ∀ w ∈ lw_tbl, w.before [.ref (r 0), .int a0, .int a1, .int a2, .int a3].toArray s = true := hB.hts _
  have hown : s.vm.findClass "MeasureRows" = some m.cls := findClass_of_methodNamed B.named
  have hl := lv_entry ([.ref (r 0), .int a0, .int a1, .int a2, .int a3]) (n := 6) (Nat.le_of_ble_eq_true rfl)
  rw [lg_entry_eq]
  generalize (lg_sl ([.ref (r 0), .int a0, .int a1, .int a2, .int a3]) ++ List.replicate (6 - (lg_sl ([.ref (r 0), .int a0, .int a1, .int a2, .int a3])).length) Slot.unset).toArray = ls at hl ⊢
  have hl : lv_has ls 6 [(0, .ref (r 0)), (1, .int a0), (2, .int a1), (3, .int a2), (4, .int a3)] := hl
  refine lv_iload_n hx hb d_M_apply_0 rfl (lv_at hl 1 rfl) ?_
  refine vp_callSi (va_Run.run (va_runS (As := [.int a0]) (rest := []) ⟨hx, hb, hml, hown, hts⟩ (mc_M_levelOf l s0 a0) ⟨(mr_cB 1 (hts (Cond.code y_M_levelOf b_M_levelOf 1 (some .int)) mw_72) (hts (Cond.initialized y_M_levelOf.cls) mw_73) (hts (Cond.methodLink "MeasureRows" 71 y_M_levelOf) mw_74) rfl rfl (by decide +kernel) ⟨Nat.le_of_ble_eq_true rfl, Nat.le_of_ble_eq_true rfl⟩), (hts (Cond.static y_M_levelOf) mw_75)⟩ (mr_pre0 hBH) rfl rfl hl.1 rfl (lv_room (Nat.le_of_ble_eq_true rfl)) d_M_apply_1 ⟨Nat.le_of_ble_eq_true rfl, Nat.le_of_ble_eq_true rfl⟩)) (fun r_1 h_2 => ?_)
  subst h_2
  refine lv_iconst (v := 3) hx hb d_M_apply_4 (by decide) ?_
  refine lv_icmp_ne (tgt := 30) hx hb d_M_apply_5 (by decide) (fun c_3 => ?_) (fun c_3 => ?_)
  · obtain ⟨sa, hstr⟩ := mr_str (hts (Cond.stringRef "MeasureRows" 136 "no such code, land or day") mw_76) hown
    exact mr_throw (names := mr_up) hx hb hlt hown (by decide +kernel) (by decide +kernel) (hts (Cond.classLink "MeasureRows" 78 mr_iae) mw_77) (hts (Cond.initialized mr_iae) mw_78) hstr (hB.own _ mr_a_iae) (hl.1.trans hml.symm) d_M_apply_30 d_M_apply_33 d_M_apply_34 d_M_apply_36 d_M_apply_39 hno (Nat.le_of_ble_eq_true rfl) (Nat.le_of_ble_eq_true rfl) (Nat.le_of_ble_eq_true rfl) (Nat.le_of_ble_eq_true rfl) hlocks ⟨rfl, by unfold mk_M_apply; rw [if_neg c_3]⟩ (Nat.le_of_ble_eq_true rfl) (Nat.le_of_ble_eq_true rfl)
  · refine lv_iload_n hx hb d_M_apply_8 rfl (lv_at hl 2 rfl) ?_
    refine vp_callSi (va_Run.run (va_runS (As := [.int a1]) (rest := []) ⟨hx, hb, hml, hown, hts⟩ (mc_M_isLand l s0 a1) ⟨(mr_cB 1 (hts (Cond.code y_M_isLand b_M_isLand 1 (some .boolean)) mw_1) (hts (Cond.initialized y_M_isLand.cls) mw_2) (hts (Cond.methodLink "MeasureRows" 49 y_M_isLand) mw_3) rfl rfl (by decide +kernel) ⟨Nat.le_of_ble_eq_true rfl, Nat.le_of_ble_eq_true rfl⟩), (hts (Cond.static y_M_isLand) mw_4)⟩ (mr_pre0 hBH) rfl rfl hl.1 rfl (lv_room (Nat.le_of_ble_eq_true rfl)) d_M_apply_9 ⟨Nat.le_of_ble_eq_true rfl, Nat.le_of_ble_eq_true rfl⟩)) (fun r_4 h_5 => ?_)
    subst h_5
    refine lv_if_eq (tgt := 30) hx hb d_M_apply_12 (by decide) (fun c_6 => ?_) (fun c_6 => ?_)
    · obtain ⟨sa, hstr⟩ := mr_str (hts (Cond.stringRef "MeasureRows" 136 "no such code, land or day") mw_76) hown
      exact mr_throw (names := mr_up) hx hb hlt hown (by decide +kernel) (by decide +kernel) (hts (Cond.classLink "MeasureRows" 78 mr_iae) mw_77) (hts (Cond.initialized mr_iae) mw_78) hstr (hB.own _ mr_a_iae) (hl.1.trans hml.symm) d_M_apply_30 d_M_apply_33 d_M_apply_34 d_M_apply_36 d_M_apply_39 hno (Nat.le_of_ble_eq_true rfl) (Nat.le_of_ble_eq_true rfl) (Nat.le_of_ble_eq_true rfl) (Nat.le_of_ble_eq_true rfl) hlocks ⟨rfl, by unfold mk_M_apply; rw [if_pos c_3, if_pos c_6]⟩ (Nat.le_of_ble_eq_true rfl) (Nat.le_of_ble_eq_true rfl)
    · refine lv_iload_n hx hb d_M_apply_15 rfl (lv_at hl 3 rfl) ?_
      refine vp_callSi (va_Run.run (va_runS (As := [.int a2]) (rest := []) ⟨hx, hb, hml, hown, hts⟩ (mc_M_isDay l s0 a2) ⟨(mr_cB 1 (hts (Cond.code y_M_isDay b_M_isDay 1 (some .boolean)) mw_9) (hts (Cond.initialized y_M_isDay.cls) mw_10) (hts (Cond.methodLink "MeasureRows" 83 y_M_isDay) mw_11) rfl rfl (by decide +kernel) ⟨Nat.le_of_ble_eq_true rfl, Nat.le_of_ble_eq_true rfl⟩), (hts (Cond.static y_M_isDay) mw_12)⟩ (mr_pre0 hBH) rfl rfl hl.1 rfl (lv_room (Nat.le_of_ble_eq_true rfl)) d_M_apply_16 ⟨Nat.le_of_ble_eq_true rfl, Nat.le_of_ble_eq_true rfl⟩)) (fun r_7 h_8 => ?_)
      subst h_8
      refine lv_if_eq (tgt := 30) hx hb d_M_apply_19 (by decide) (fun c_9 => ?_) (fun c_9 => ?_)
      · obtain ⟨sa, hstr⟩ := mr_str (hts (Cond.stringRef "MeasureRows" 136 "no such code, land or day") mw_76) hown
        exact mr_throw (names := mr_up) hx hb hlt hown (by decide +kernel) (by decide +kernel) (hts (Cond.classLink "MeasureRows" 78 mr_iae) mw_77) (hts (Cond.initialized mr_iae) mw_78) hstr (hB.own _ mr_a_iae) (hl.1.trans hml.symm) d_M_apply_30 d_M_apply_33 d_M_apply_34 d_M_apply_36 d_M_apply_39 hno (Nat.le_of_ble_eq_true rfl) (Nat.le_of_ble_eq_true rfl) (Nat.le_of_ble_eq_true rfl) (Nat.le_of_ble_eq_true rfl) hlocks ⟨rfl, by unfold mk_M_apply; rw [if_pos c_3, if_neg c_6, if_pos c_9]⟩ (Nat.le_of_ble_eq_true rfl) (Nat.le_of_ble_eq_true rfl)
      · refine lv_iload hx hb d_M_apply_22 (lv_at hl 4 rfl) ?_
        refine vp_callSi (va_Run.run (va_runS (As := [.int a3]) (rest := []) ⟨hx, hb, hml, hown, hts⟩ (mc_M_isDay l s0 a3) ⟨(mr_cB 1 (hts (Cond.code y_M_isDay b_M_isDay 1 (some .boolean)) mw_9) (hts (Cond.initialized y_M_isDay.cls) mw_10) (hts (Cond.methodLink "MeasureRows" 83 y_M_isDay) mw_11) rfl rfl (by decide +kernel) ⟨Nat.le_of_ble_eq_true rfl, Nat.le_of_ble_eq_true rfl⟩), (hts (Cond.static y_M_isDay) mw_12)⟩ (mr_pre0 hBH) rfl rfl hl.1 rfl (lv_room (Nat.le_of_ble_eq_true rfl)) d_M_apply_24 ⟨Nat.le_of_ble_eq_true rfl, Nat.le_of_ble_eq_true rfl⟩)) (fun r_10 h_11 => ?_)
        subst h_11
        refine lv_if_ne (tgt := 40) hx hb d_M_apply_27 (by decide) (fun c_12 => ?_) (fun c_12 => ?_)
        · refine lv_aload_n hx hb d_M_apply_40 rfl (lv_at hl 0 rfl) ?_
          refine lv_aload_n hx hb d_M_apply_41 rfl (lv_at hl 0 rfl) ?_
          refine va_get (D := (dC, dI)) (ci := 0) (v := .ref (r 6)) (C := R_M) (T := T_M) (N := 9) hx hb hts ti_M hown hK hP 0 rfl rfl 7 (by decide) (hts (Cond.fieldLink "MeasureRows" 39 "MeasureRows" "candidates" "[I") mw_79) (fun _ h9 => h9) rfl d_M_apply_42 ?_
          refine lv_iload_n hx hb d_M_apply_45 rfl (lv_at hl 1 rfl) ?_
          refine lv_iload_n hx hb d_M_apply_46 rfl (lv_at hl 2 rfl) ?_
          refine lv_iload_n hx hb d_M_apply_47 rfl (lv_at hl 3 rfl) ?_
          refine lv_iload hx hb d_M_apply_48 (lv_at hl 4 rfl) ?_
          refine vp_callSi (va_Run.run (va_runV (As := [.ref (r 6), .int a0, .int a1, .int a2, .int a3]) (rest := []) (C := R_M) ⟨hx, hb, hml, hown, hts⟩ (mc_M_gather l s0 dC dI cI cR cL cZ r (r 6) a0 a1 a2 a3) ⟨(mr_cB 5 (hts (Cond.code y_M_gather b_M_gather 9 (some .int)) mw_80) (hts (Cond.initialized y_M_gather.cls) mw_81) (hts (Cond.methodLink "MeasureRows" 138 y_M_gather) mw_82) rfl rfl (by decide +kernel) ⟨Nat.le_of_ble_eq_true rfl, Nat.le_of_ble_eq_true rfl⟩), (hts (Cond.instanceMethod y_M_gather) mw_83), (hts (Cond.selects "MeasureRows" y_M_gather y_M_gather) mw_84)⟩ (mr_preV hBH hK (hP.sub (ws' := [((r 0), .inr (0, mf_M r (nI 0) 0 0 0))]) [0] rfl) (ci := 0) (q0 := 0) rfl rfl) rfl rfl hl.1 rfl (lv_room (Nat.le_of_ble_eq_true rfl)) d_M_apply_50 ⟨Nat.le_of_ble_eq_true rfl, Nat.le_of_ble_eq_true rfl⟩)) (fun r_13 h_14 => ?_)
          subst h_14
          refine mr_top (y := 0) rfl ?_
          refine lv_istore (lv' := [(5, .int 0), (0, .ref (r 0)), (1, .int a0), (2, .int a1), (3, .int a2), (4, .int a3)]) hx hb d_M_apply_53 hl (by decide) rfl (fun ls hl => ?_)
          refine lv_aload_n hx hb d_M_apply_55 rfl (lv_at hl 1 rfl) ?_
          refine lv_iload hx hb d_M_apply_56 (lv_at hl 0 rfl) ?_
          refine vp_callSi (va_Run.run (va_runV (As := [.int 0]) (rest := []) (C := R_M) ⟨hx, hb, hml, hown, hts⟩ (mc_M_keepWithPapers l s0 dC dI cI cR cL cZ r) ⟨(mr_cB 1 (hts (Cond.code y_M_keepWithPapers b_M_keepWithPapers 5 (some .int)) mw_85) (hts (Cond.initialized y_M_keepWithPapers.cls) mw_86) (hts (Cond.methodLink "MeasureRows" 142 y_M_keepWithPapers) mw_87) rfl rfl (by decide +kernel) ⟨Nat.le_of_ble_eq_true rfl, Nat.le_of_ble_eq_true rfl⟩), (hts (Cond.instanceMethod y_M_keepWithPapers) mw_88), (hts (Cond.selects "MeasureRows" y_M_keepWithPapers y_M_keepWithPapers) mw_89)⟩ (mr_preV hBH hK (hP.sub (ws' := [((r 0), .inr (0, mf_M r (nI 0) 0 0 0))]) [0] rfl) (ci := 0) (q0 := 0) rfl rfl) rfl rfl hl.1 rfl (lv_room (Nat.le_of_ble_eq_true rfl)) d_M_apply_58 ⟨Nat.le_of_ble_eq_true rfl, Nat.le_of_ble_eq_true rfl⟩)) (fun r_15 h_16 => ?_)
          subst h_16
          refine mr_top (y := 0) rfl ?_
          refine lv_istore (lv' := [(5, .int 0), (0, .ref (r 0)), (1, .int a0), (2, .int a1), (3, .int a2), (4, .int a3)]) hx hb d_M_apply_61 hl (by decide) rfl (fun ls hl => ?_)
          refine lv_iload hx hb d_M_apply_63 (lv_at hl 0 rfl) ?_
          refine lv_if_ne (tgt := 70) hx hb d_M_apply_65 (by decide) (fun c_17 => absurd c_17 (by decide)) (fun _ => ?_)
          refine lv_iconst (v := 0) hx hb d_M_apply_68 (by decide) ?_
          refine mr_ret ?_
          refine W.widen (k := 1) (n := 6) (Nat.le_of_ble_eq_true rfl) (Nat.le_of_ble_eq_true rfl) ?_
          exact W.iret (v := 0) hx hb hr (fun t ht _ => ⟨_, rfl, ⟨by unfold mk_M_apply; rw [if_pos c_3, if_neg c_6, if_neg c_9, if_neg c_12], by unfold mv_M_apply; rw [if_pos c_3, if_neg c_6, if_neg c_9, if_neg c_12]⟩, ht⟩) (fun _ h => nomatch h) d_M_apply_69
        · obtain ⟨sa, hstr⟩ := mr_str (hts (Cond.stringRef "MeasureRows" 136 "no such code, land or day") mw_76) hown
          exact mr_throw (names := mr_up) hx hb hlt hown (by decide +kernel) (by decide +kernel) (hts (Cond.classLink "MeasureRows" 78 mr_iae) mw_77) (hts (Cond.initialized mr_iae) mw_78) hstr (hB.own _ mr_a_iae) (hl.1.trans hml.symm) d_M_apply_30 d_M_apply_33 d_M_apply_34 d_M_apply_36 d_M_apply_39 hno (Nat.le_of_ble_eq_true rfl) (Nat.le_of_ble_eq_true rfl) (Nat.le_of_ble_eq_true rfl) (Nat.le_of_ble_eq_true rfl) hlocks ⟨rfl, by unfold mk_M_apply; rw [if_pos c_3, if_neg c_6, if_neg c_9, if_pos c_12]⟩ (Nat.le_of_ble_eq_true rfl) (Nat.le_of_ble_eq_true rfl)
def mv_M_scan  (a0 : Int32) (a1 : Int32) (a2 : Int32) : Int32 := if (mv_M_levelOf a0) = 0 then 0 else if (mv_M_isLand a1) = 0 then 0 else if (mv_M_isDay a2) = 0 then 0 else 0
def mk_M_scan  (a0 : Int32) (a1 : Int32) (a2 : Int32) : Int32 := if (mv_M_levelOf a0) = 0 then 1 else if (mv_M_isLand a1) = 0 then 1 else if (mv_M_isDay a2) = 0 then 1 else 0
set_option maxHeartbeats 4000000 in
set_option maxRecDepth 100000 in
theorem mc_M_scan (l : Launch) (hlt : l.stackTraces = false) (s0 : State) (dC : Nat → ClassId) (dI : Nat → Nat → Nat) (cI cR cL cZ : ClassId) (r : Nat → Nat) (a0 : Int32) (a1 : Int32) (a2 : Int32) : mr_Met l y_M_scan [Cond.code y_M_scan b_M_scan 5 (some .int)] ({ frames := 6, cells := 1, slots := 6, locals := 92 }) (mr_PW s0 (dC, dI) [(cI, .int), (cR, .object "MeasureRows$Row"), (cL, .long), (cZ, .boolean)] [.ref (r 0), .int a0, .int a1, .int a2] [((r 0), .inr (0, mf_M r (nI 0) 0 0 0)), ((r 1), .inr (1, [.ref (r 2), .ref (r 3)])), ((r 2), .inl (cI, 8, .inl (fun _ => 0))), ((r 3), .inl (cI, 8, .inl (fun _ => 0))), ((r 4), .inl (cR, 80, .inr (.inr (.inr (.inr (fun _ => none)))))), ((r 5), .inl (cI, 80, .inl (fun _ => 0))), ((r 6), .inl (cI, 80, .inl (fun _ => 0))), ((r 7), .inl (cI, 8, .inl (fun _ => 0)))]) (vp_Si (fun r => mk_M_scan  a0 a1 a2 = 0 ∧ r = mv_M_scan  a0 a1 a2)) (fun E => (E = mr_iae ∧ mk_M_scan  a0 a1 a2 = 1)) 1 6 (fun _ => False) := by
  refine mr_of (cc := b_M_scan) (maxL := 5) (ret := (some .int)) (by decide) rfl ?_
  intro p e s m args below meth c s₁ B hml hno hv
  obtain ⟨rfl, hB, hK, hP⟩ := hv
  have hBH := hB.here
  have hx := B.exec
  have hb := B.bytes
  have hr := B.returns
  have hlocks := B.notSynchronized
  have hts : ∀ w ∈ lw_tbl, w.before [.ref (r 0), .int a0, .int a1, .int a2].toArray s = true := hB.hts _
  have hown : s.vm.findClass "MeasureRows" = some m.cls := findClass_of_methodNamed B.named
  have hl := lv_entry ([.ref (r 0), .int a0, .int a1, .int a2]) (n := 5) (Nat.le_of_ble_eq_true rfl)
  rw [lg_entry_eq]
  generalize (lg_sl ([.ref (r 0), .int a0, .int a1, .int a2]) ++ List.replicate (5 - (lg_sl ([.ref (r 0), .int a0, .int a1, .int a2])).length) Slot.unset).toArray = ls at hl ⊢
  have hl : lv_has ls 5 [(0, .ref (r 0)), (1, .int a0), (2, .int a1), (3, .int a2)] := hl
  refine lv_iload_n hx hb d_M_scan_0 rfl (lv_at hl 1 rfl) ?_
  refine vp_callSi (va_Run.run (va_runS (As := [.int a0]) (rest := []) ⟨hx, hb, hml, hown, hts⟩ (mc_M_levelOf l s0 a0) ⟨(mr_cB 1 (hts (Cond.code y_M_levelOf b_M_levelOf 1 (some .int)) mw_72) (hts (Cond.initialized y_M_levelOf.cls) mw_73) (hts (Cond.methodLink "MeasureRows" 71 y_M_levelOf) mw_74) rfl rfl (by decide +kernel) ⟨Nat.le_of_ble_eq_true rfl, Nat.le_of_ble_eq_true rfl⟩), (hts (Cond.static y_M_levelOf) mw_75)⟩ (mr_pre0 hBH) rfl rfl hl.1 rfl (lv_room (Nat.le_of_ble_eq_true rfl)) d_M_scan_1 ⟨Nat.le_of_ble_eq_true rfl, Nat.le_of_ble_eq_true rfl⟩)) (fun r_1 h_2 => ?_)
  subst h_2
  refine lv_if_eq (tgt := 21) hx hb d_M_scan_4 (by decide) (fun c_3 => ?_) (fun c_3 => ?_)
  · obtain ⟨sa, hstr⟩ := mr_str (hts (Cond.stringRef "MeasureRows" 136 "no such code, land or day") mw_76) hown
    exact mr_throw (names := mr_up) hx hb hlt hown (by decide +kernel) (by decide +kernel) (hts (Cond.classLink "MeasureRows" 78 mr_iae) mw_77) (hts (Cond.initialized mr_iae) mw_78) hstr (hB.own _ mr_a_iae) (hl.1.trans hml.symm) d_M_scan_21 d_M_scan_24 d_M_scan_25 d_M_scan_27 d_M_scan_30 hno (Nat.le_of_ble_eq_true rfl) (Nat.le_of_ble_eq_true rfl) (Nat.le_of_ble_eq_true rfl) (Nat.le_of_ble_eq_true rfl) hlocks ⟨rfl, by unfold mk_M_scan; rw [if_pos c_3]⟩ (Nat.le_of_ble_eq_true rfl) (Nat.le_of_ble_eq_true rfl)
  · refine lv_iload_n hx hb d_M_scan_7 rfl (lv_at hl 2 rfl) ?_
    refine vp_callSi (va_Run.run (va_runS (As := [.int a1]) (rest := []) ⟨hx, hb, hml, hown, hts⟩ (mc_M_isLand l s0 a1) ⟨(mr_cB 1 (hts (Cond.code y_M_isLand b_M_isLand 1 (some .boolean)) mw_1) (hts (Cond.initialized y_M_isLand.cls) mw_2) (hts (Cond.methodLink "MeasureRows" 49 y_M_isLand) mw_3) rfl rfl (by decide +kernel) ⟨Nat.le_of_ble_eq_true rfl, Nat.le_of_ble_eq_true rfl⟩), (hts (Cond.static y_M_isLand) mw_4)⟩ (mr_pre0 hBH) rfl rfl hl.1 rfl (lv_room (Nat.le_of_ble_eq_true rfl)) d_M_scan_8 ⟨Nat.le_of_ble_eq_true rfl, Nat.le_of_ble_eq_true rfl⟩)) (fun r_4 h_5 => ?_)
    subst h_5
    refine lv_if_eq (tgt := 21) hx hb d_M_scan_11 (by decide) (fun c_6 => ?_) (fun c_6 => ?_)
    · obtain ⟨sa, hstr⟩ := mr_str (hts (Cond.stringRef "MeasureRows" 136 "no such code, land or day") mw_76) hown
      exact mr_throw (names := mr_up) hx hb hlt hown (by decide +kernel) (by decide +kernel) (hts (Cond.classLink "MeasureRows" 78 mr_iae) mw_77) (hts (Cond.initialized mr_iae) mw_78) hstr (hB.own _ mr_a_iae) (hl.1.trans hml.symm) d_M_scan_21 d_M_scan_24 d_M_scan_25 d_M_scan_27 d_M_scan_30 hno (Nat.le_of_ble_eq_true rfl) (Nat.le_of_ble_eq_true rfl) (Nat.le_of_ble_eq_true rfl) (Nat.le_of_ble_eq_true rfl) hlocks ⟨rfl, by unfold mk_M_scan; rw [if_neg c_3, if_pos c_6]⟩ (Nat.le_of_ble_eq_true rfl) (Nat.le_of_ble_eq_true rfl)
    · refine lv_iload_n hx hb d_M_scan_14 rfl (lv_at hl 3 rfl) ?_
      refine vp_callSi (va_Run.run (va_runS (As := [.int a2]) (rest := []) ⟨hx, hb, hml, hown, hts⟩ (mc_M_isDay l s0 a2) ⟨(mr_cB 1 (hts (Cond.code y_M_isDay b_M_isDay 1 (some .boolean)) mw_9) (hts (Cond.initialized y_M_isDay.cls) mw_10) (hts (Cond.methodLink "MeasureRows" 83 y_M_isDay) mw_11) rfl rfl (by decide +kernel) ⟨Nat.le_of_ble_eq_true rfl, Nat.le_of_ble_eq_true rfl⟩), (hts (Cond.static y_M_isDay) mw_12)⟩ (mr_pre0 hBH) rfl rfl hl.1 rfl (lv_room (Nat.le_of_ble_eq_true rfl)) d_M_scan_15 ⟨Nat.le_of_ble_eq_true rfl, Nat.le_of_ble_eq_true rfl⟩)) (fun r_7 h_8 => ?_)
      subst h_8
      refine lv_if_ne (tgt := 31) hx hb d_M_scan_18 (by decide) (fun c_9 => ?_) (fun c_9 => ?_)
      · refine lv_aload_n hx hb d_M_scan_31 rfl (lv_at hl 0 rfl) ?_
        refine lv_aload_n hx hb d_M_scan_32 rfl (lv_at hl 0 rfl) ?_
        refine va_get (D := (dC, dI)) (ci := 0) (v := .ref (r 5)) (C := R_M) (T := T_M) (N := 9) hx hb hts ti_M hown hK hP 0 rfl rfl 5 (by decide) (hts (Cond.fieldLink "MeasureRows" 32 "MeasureRows" "listed" "[I") mw_48) (fun _ h9 => h9) rfl d_M_scan_33 ?_
        refine lv_iload_n hx hb d_M_scan_36 rfl (lv_at hl 1 rfl) ?_
        refine lv_iload_n hx hb d_M_scan_37 rfl (lv_at hl 2 rfl) ?_
        refine lv_iload_n hx hb d_M_scan_38 rfl (lv_at hl 3 rfl) ?_
        refine lv_aload_n hx hb d_M_scan_39 rfl (lv_at hl 0 rfl) ?_
        refine va_get (D := (dC, dI)) (ci := 0) (v := .int 0) (C := R_M) (T := T_M) (N := 9) hx hb hts ti_M hown hK hP 0 rfl rfl 3 (by decide) (hts (Cond.fieldLink "MeasureRows" 26 "MeasureRows" "now" "I") mw_49) (fun _ h9 => h9) rfl d_M_scan_40 ?_
        refine vp_callSi (va_Run.run (va_runV (As := [.ref (r 5), .int a0, .int a1, .int a2, .int 0]) (rest := []) (C := R_M) ⟨hx, hb, hml, hown, hts⟩ (mc_M_gather l s0 dC dI cI cR cL cZ r (r 5) a0 a1 a2 0) ⟨(mr_cB 5 (hts (Cond.code y_M_gather b_M_gather 9 (some .int)) mw_80) (hts (Cond.initialized y_M_gather.cls) mw_81) (hts (Cond.methodLink "MeasureRows" 138 y_M_gather) mw_82) rfl rfl (by decide +kernel) ⟨Nat.le_of_ble_eq_true rfl, Nat.le_of_ble_eq_true rfl⟩), (hts (Cond.instanceMethod y_M_gather) mw_83), (hts (Cond.selects "MeasureRows" y_M_gather y_M_gather) mw_84)⟩ (mr_preV hBH hK (hP.sub (ws' := [((r 0), .inr (0, mf_M r (nI 0) 0 0 0))]) [0] rfl) (ci := 0) (q0 := 0) rfl rfl) rfl rfl hl.1 rfl (lv_room (Nat.le_of_ble_eq_true rfl)) d_M_scan_43 ⟨Nat.le_of_ble_eq_true rfl, Nat.le_of_ble_eq_true rfl⟩)) (fun r_10 h_11 => ?_)
        subst h_11
        refine mr_top (y := 0) rfl ?_
        refine lv_istore (lv' := [(4, .int 0), (0, .ref (r 0)), (1, .int a0), (2, .int a1), (3, .int a2)]) hx hb d_M_scan_46 hl (by decide) rfl (fun ls hl => ?_)
        refine lv_iload hx hb d_M_scan_48 (lv_at hl 0 rfl) ?_
        refine lv_if_le (tgt := 59) hx hb d_M_scan_50 (by decide) (fun _ => ?_) (fun c_12 => absurd c_12 (by decide))
        refine lv_iload hx hb d_M_scan_59 (lv_at hl 0 rfl) ?_
        refine mr_ret ?_
        refine W.widen (k := 1) (n := 6) (Nat.le_of_ble_eq_true rfl) (Nat.le_of_ble_eq_true rfl) ?_
        exact W.iret (v := 0) hx hb hr (fun t ht _ => ⟨_, rfl, ⟨by unfold mk_M_scan; rw [if_neg c_3, if_neg c_6, if_neg c_9], by unfold mv_M_scan; rw [if_neg c_3, if_neg c_6, if_neg c_9]⟩, ht⟩) (fun _ h => nomatch h) d_M_scan_61
      · obtain ⟨sa, hstr⟩ := mr_str (hts (Cond.stringRef "MeasureRows" 136 "no such code, land or day") mw_76) hown
        exact mr_throw (names := mr_up) hx hb hlt hown (by decide +kernel) (by decide +kernel) (hts (Cond.classLink "MeasureRows" 78 mr_iae) mw_77) (hts (Cond.initialized mr_iae) mw_78) hstr (hB.own _ mr_a_iae) (hl.1.trans hml.symm) d_M_scan_21 d_M_scan_24 d_M_scan_25 d_M_scan_27 d_M_scan_30 hno (Nat.le_of_ble_eq_true rfl) (Nat.le_of_ble_eq_true rfl) (Nat.le_of_ble_eq_true rfl) (Nat.le_of_ble_eq_true rfl) hlocks ⟨rfl, by unfold mk_M_scan; rw [if_neg c_3, if_neg c_6, if_pos c_9]⟩ (Nat.le_of_ble_eq_true rfl) (Nat.le_of_ble_eq_true rfl)
def mv_M_change  (a0 : Int32) (a1 : Int32) (a2 : Int32) : Int32 := if (mv_M_isDay a0) = 0 then 0 else if (mv_M_isDay a1) = 0 then 0 else (-1)
def mk_M_change  (a0 : Int32) (a1 : Int32) (a2 : Int32) : Int32 := if (mv_M_isDay a0) = 0 then 1 else if (mv_M_isDay a1) = 0 then 1 else 0
set_option maxHeartbeats 4000000 in
set_option maxRecDepth 100000 in
theorem mc_M_change (l : Launch) (hlt : l.stackTraces = false) (s0 : State) (dC : Nat → ClassId) (dI : Nat → Nat → Nat) (cI cR cL cZ : ClassId) (r : Nat → Nat) (a0 : Int32) (a1 : Int32) (a2 : Int32) : mr_Met l y_M_change [Cond.code y_M_change b_M_change 7 (some .int)] ({ frames := 6, cells := 1, slots := 6, locals := 92 }) (mr_PW s0 (dC, dI) [(cI, .int), (cR, .object "MeasureRows$Row"), (cL, .long), (cZ, .boolean)] [.ref (r 0), .int a0, .int a1, .int a2] [((r 0), .inr (0, mf_M r (nI 0) 0 0 0)), ((r 1), .inr (1, [.ref (r 2), .ref (r 3)])), ((r 2), .inl (cI, 8, .inl (fun _ => 0))), ((r 3), .inl (cI, 8, .inl (fun _ => 0))), ((r 4), .inl (cR, 80, .inr (.inr (.inr (.inr (fun _ => none)))))), ((r 5), .inl (cI, 80, .inl (fun _ => 0))), ((r 6), .inl (cI, 80, .inl (fun _ => 0))), ((r 7), .inl (cI, 8, .inl (fun _ => 0)))]) (vp_Si (fun r => mk_M_change  a0 a1 a2 = 0 ∧ r = mv_M_change  a0 a1 a2)) (fun E => (E = mr_iae ∧ mk_M_change  a0 a1 a2 = 1)) 1 6 (fun _ => False) := by
  refine mr_of (cc := b_M_change) (maxL := 7) (ret := (some .int)) (by decide) rfl ?_
  intro p e s m args below meth c s₁ B hml hno hv
  obtain ⟨rfl, hB, hK, hP⟩ := hv
  have hBH := hB.here
  have hx := B.exec
  have hb := B.bytes
  have hr := B.returns
  have hlocks := B.notSynchronized
  have hts : ∀ w ∈ lw_tbl, w.before [.ref (r 0), .int a0, .int a1, .int a2].toArray s = true := hB.hts _
  have hown : s.vm.findClass "MeasureRows" = some m.cls := findClass_of_methodNamed B.named
  have hl := lv_entry ([.ref (r 0), .int a0, .int a1, .int a2]) (n := 7) (Nat.le_of_ble_eq_true rfl)
  rw [lg_entry_eq]
  generalize (lg_sl ([.ref (r 0), .int a0, .int a1, .int a2]) ++ List.replicate (7 - (lg_sl ([.ref (r 0), .int a0, .int a1, .int a2])).length) Slot.unset).toArray = ls at hl ⊢
  have hl : lv_has ls 7 [(0, .ref (r 0)), (1, .int a0), (2, .int a1), (3, .int a2)] := hl
  refine lv_iload_n hx hb d_M_change_0 rfl (lv_at hl 1 rfl) ?_
  refine vp_callSi (va_Run.run (va_runS (As := [.int a0]) (rest := []) ⟨hx, hb, hml, hown, hts⟩ (mc_M_isDay l s0 a0) ⟨(mr_cB 1 (hts (Cond.code y_M_isDay b_M_isDay 1 (some .boolean)) mw_9) (hts (Cond.initialized y_M_isDay.cls) mw_10) (hts (Cond.methodLink "MeasureRows" 83 y_M_isDay) mw_11) rfl rfl (by decide +kernel) ⟨Nat.le_of_ble_eq_true rfl, Nat.le_of_ble_eq_true rfl⟩), (hts (Cond.static y_M_isDay) mw_12)⟩ (mr_pre0 hBH) rfl rfl hl.1 rfl (lv_room (Nat.le_of_ble_eq_true rfl)) d_M_change_1 ⟨Nat.le_of_ble_eq_true rfl, Nat.le_of_ble_eq_true rfl⟩)) (fun r_1 h_2 => ?_)
  subst h_2
  refine lv_if_eq (tgt := 14) hx hb d_M_change_4 (by decide) (fun c_3 => ?_) (fun c_3 => ?_)
  · obtain ⟨sa, hstr⟩ := mr_str (hts (Cond.stringRef "MeasureRows" 89 "no such days") mw_90) hown
    exact mr_throw (names := mr_up) hx hb hlt hown (by decide +kernel) (by decide +kernel) (hts (Cond.classLink "MeasureRows" 78 mr_iae) mw_77) (hts (Cond.initialized mr_iae) mw_78) hstr (hB.own _ mr_a_iae) (hl.1.trans hml.symm) d_M_change_14 d_M_change_17 d_M_change_18 d_M_change_20 d_M_change_23 hno (Nat.le_of_ble_eq_true rfl) (Nat.le_of_ble_eq_true rfl) (Nat.le_of_ble_eq_true rfl) (Nat.le_of_ble_eq_true rfl) hlocks ⟨rfl, by unfold mk_M_change; rw [if_pos c_3]⟩ (Nat.le_of_ble_eq_true rfl) (Nat.le_of_ble_eq_true rfl)
  · refine lv_iload_n hx hb d_M_change_7 rfl (lv_at hl 2 rfl) ?_
    refine vp_callSi (va_Run.run (va_runS (As := [.int a1]) (rest := []) ⟨hx, hb, hml, hown, hts⟩ (mc_M_isDay l s0 a1) ⟨(mr_cB 1 (hts (Cond.code y_M_isDay b_M_isDay 1 (some .boolean)) mw_9) (hts (Cond.initialized y_M_isDay.cls) mw_10) (hts (Cond.methodLink "MeasureRows" 83 y_M_isDay) mw_11) rfl rfl (by decide +kernel) ⟨Nat.le_of_ble_eq_true rfl, Nat.le_of_ble_eq_true rfl⟩), (hts (Cond.static y_M_isDay) mw_12)⟩ (mr_pre0 hBH) rfl rfl hl.1 rfl (lv_room (Nat.le_of_ble_eq_true rfl)) d_M_change_8 ⟨Nat.le_of_ble_eq_true rfl, Nat.le_of_ble_eq_true rfl⟩)) (fun r_4 h_5 => ?_)
    subst h_5
    refine lv_if_ne (tgt := 24) hx hb d_M_change_11 (by decide) (fun c_6 => ?_) (fun c_6 => ?_)
    · refine lv_iconst (v := 0) hx hb d_M_change_24 (by decide) ?_
      refine lv_istore (lv' := [(4, .int 0), (0, .ref (r 0)), (1, .int a0), (2, .int a1), (3, .int a2)]) hx hb d_M_change_25 hl (by decide) rfl (fun ls hl => ?_)
      refine lv_iconst (v := 1) hx hb d_M_change_27 (by decide) ?_
      refine lv_istore (lv' := [(5, .int 1), (4, .int 0), (0, .ref (r 0)), (1, .int a0), (2, .int a1), (3, .int a2)]) hx hb d_M_change_28 hl (by decide) rfl (fun ls hl => ?_)
      refine lv_iload hx hb d_M_change_30 (lv_at hl 0 rfl) ?_
      refine lv_aload_n hx hb d_M_change_32 rfl (lv_at hl 2 rfl) ?_
      refine va_get (D := (dC, dI)) (ci := 0) (v := .int (nI 0)) (C := R_M) (T := T_M) (N := 9) hx hb hts ti_M hown hK hP 0 rfl rfl 2 (by decide) (hts (Cond.fieldLink "MeasureRows" 22 "MeasureRows" "rowCount" "I") mw_40) (fun _ h9 => h9) rfl d_M_change_33 ?_
      refine lv_icmp_gt (tgt := 93) hx hb d_M_change_36 (by decide) (fun _ => ?_) (fun c_7 => absurd c_7 (by decide))
      refine lv_iconst (v := (-1)) hx hb d_M_change_93 (by decide) ?_
      refine mr_ret ?_
      refine W.widen (k := 1) (n := 6) (Nat.le_of_ble_eq_true rfl) (Nat.le_of_ble_eq_true rfl) ?_
      exact W.iret (v := (-1)) hx hb hr (fun t ht _ => ⟨_, rfl, ⟨by unfold mk_M_change; rw [if_neg c_3, if_neg c_6], by unfold mv_M_change; rw [if_neg c_3, if_neg c_6]⟩, ht⟩) (fun _ h => nomatch h) d_M_change_94
    · obtain ⟨sa, hstr⟩ := mr_str (hts (Cond.stringRef "MeasureRows" 89 "no such days") mw_90) hown
      exact mr_throw (names := mr_up) hx hb hlt hown (by decide +kernel) (by decide +kernel) (hts (Cond.classLink "MeasureRows" 78 mr_iae) mw_77) (hts (Cond.initialized mr_iae) mw_78) hstr (hB.own _ mr_a_iae) (hl.1.trans hml.symm) d_M_change_14 d_M_change_17 d_M_change_18 d_M_change_20 d_M_change_23 hno (Nat.le_of_ble_eq_true rfl) (Nat.le_of_ble_eq_true rfl) (Nat.le_of_ble_eq_true rfl) (Nat.le_of_ble_eq_true rfl) hlocks ⟨rfl, by unfold mk_M_change; rw [if_neg c_3, if_pos c_6]⟩ (Nat.le_of_ble_eq_true rfl) (Nat.le_of_ble_eq_true rfl)
def mv_M_look  (a0 : Int32) (a1 : Int32) : Int32 := 0
def mk_M_look  (a0 : Int32) (a1 : Int32) : Int32 := 1
set_option maxHeartbeats 4000000 in
set_option maxRecDepth 100000 in
theorem mc_M_look (l : Launch) (hlt : l.stackTraces = false) (s0 : State) (dC : Nat → ClassId) (dI : Nat → Nat → Nat) (cI cR cL cZ : ClassId) (r : Nat → Nat) (a0 : Int32) (a1 : Int32) : mr_Met l y_M_look [Cond.code y_M_look b_M_look 4 (some .int)] ({ frames := 6, cells := 1, slots := 6, locals := 92 }) (mr_PW s0 (dC, dI) [(cI, .int), (cR, .object "MeasureRows$Row"), (cL, .long), (cZ, .boolean)] [.ref (r 0), .int a0, .int a1] [((r 0), .inr (0, mf_M r (nI 0) 0 0 0)), ((r 1), .inr (1, [.ref (r 2), .ref (r 3)])), ((r 2), .inl (cI, 8, .inl (fun _ => 0))), ((r 3), .inl (cI, 8, .inl (fun _ => 0))), ((r 4), .inl (cR, 80, .inr (.inr (.inr (.inr (fun _ => none)))))), ((r 5), .inl (cI, 80, .inl (fun _ => 0))), ((r 6), .inl (cI, 80, .inl (fun _ => 0))), ((r 7), .inl (cI, 8, .inl (fun _ => 0)))]) (vp_Si (fun r => mk_M_look  a0 a1 = 0 ∧ r = mv_M_look  a0 a1)) (fun E => (E = mr_iob ∧ mk_M_look  a0 a1 = 1)) 1 6 (fun _ => False) := by
  refine mr_of (cc := b_M_look) (maxL := 4) (ret := (some .int)) (by decide) rfl ?_
  intro p e s m args below meth c s₁ B hml hno hv
  obtain ⟨rfl, hB, hK, hP⟩ := hv
  have hBH := hB.here
  have hx := B.exec
  have hb := B.bytes
  have hr := B.returns
  have hlocks := B.notSynchronized
  have hts : ∀ w ∈ lw_tbl, w.before [.ref (r 0), .int a0, .int a1].toArray s = true := hB.hts _
  have hown : s.vm.findClass "MeasureRows" = some m.cls := findClass_of_methodNamed B.named
  have hl := lv_entry ([.ref (r 0), .int a0, .int a1]) (n := 4) (Nat.le_of_ble_eq_true rfl)
  rw [lg_entry_eq]
  generalize (lg_sl ([.ref (r 0), .int a0, .int a1]) ++ List.replicate (4 - (lg_sl ([.ref (r 0), .int a0, .int a1])).length) Slot.unset).toArray = ls at hl ⊢
  have hl : lv_has ls 4 [(0, .ref (r 0)), (1, .int a0), (2, .int a1)] := hl
  refine lv_aload_n hx hb d_M_look_0 rfl (lv_at hl 0 rfl) ?_
  refine lv_iload_n hx hb d_M_look_1 rfl (lv_at hl 1 rfl) ?_
  refine va_csq (va_Run.run (va_runV (As := [.int a0]) (rest := []) (C := R_M) ⟨hx, hb, hml, hown, hts⟩ (mc_M_find l s0 dC dI cI cR cL cZ r a0) ⟨(mr_cB 1 (hts (Cond.code y_M_find b_M_find 2 (some (.object "MeasureRows$Row"))) mw_42) (hts (Cond.initialized y_M_find.cls) mw_43) (hts (Cond.methodLink "MeasureRows" 111 y_M_find) mw_44) rfl rfl (by decide +kernel) ⟨Nat.le_of_ble_eq_true rfl, Nat.le_of_ble_eq_true rfl⟩), (hts (Cond.instanceMethod y_M_find) mw_45), (hts (Cond.selects "MeasureRows" y_M_find y_M_find) mw_46)⟩ (mr_preV hBH hK (hP.sub (ws' := [((r 0), .inr (0, mf_M r (nI 0) 0 0 0)), ((r 4), .inl (cR, 80, .inr (.inr (.inr (.inr (fun _ => none))))))]) [0, 4] rfl) (ci := 0) (q0 := 0) rfl rfl) rfl rfl hl.1 rfl (lv_room (Nat.le_of_ble_eq_true rfl)) d_M_look_2 ⟨Nat.le_of_ble_eq_true rfl, Nat.le_of_ble_eq_true rfl⟩)) (fun r_1 h_2 => ?_)
  subst h_2
  refine mr_topv (mv_find0 _) ?_
  refine lv_astore_nN (lv' := [(3, .null), (0, .ref (r 0)), (1, .int a0), (2, .int a1)]) hx hb d_M_look_5 rfl hl (by decide) rfl (fun ls hl => ?_)
  refine lv_aload_nN hx hb d_M_look_6 rfl (lv_at hl 0 rfl) ?_
  refine lv_ifnonnullN hx hb d_M_look_7 ?_
  obtain ⟨sa, hstr⟩ := mr_str (hts (Cond.stringRef "MeasureRows" 121 "no such row") mw_71) hown
  exact mr_throw (names := mr_up) hx hb hlt hown (by decide +kernel) (by decide +kernel) (hts (Cond.classLink "MeasureRows" 56 mr_iob) mw_58) (hts (Cond.initialized mr_iob) mw_59) hstr (hB.own _ mr_a_iob) (hl.1.trans hml.symm) d_M_look_10 d_M_look_13 d_M_look_14 d_M_look_16 d_M_look_19 hno (Nat.le_of_ble_eq_true rfl) (Nat.le_of_ble_eq_true rfl) (Nat.le_of_ble_eq_true rfl) (Nat.le_of_ble_eq_true rfl) hlocks ⟨rfl, rfl⟩ (Nat.le_of_ble_eq_true rfl) (Nat.le_of_ble_eq_true rfl)
