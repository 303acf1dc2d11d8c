abbrev b_I_bitCount : ByteArray := prog_10_method_49_code
def y_I_bitCount : MethodName := ⟨"java/lang/Integer", "bitCount", "(I)I"⟩
theorem d_I_bitCount_0 : decode b_I_bitCount 0 = .ok (.iload_n 0, 1) := by decide +kernel
theorem d_I_bitCount_1 : decode b_I_bitCount 1 = .ok (.iload_n 0, 1) := by decide +kernel
theorem d_I_bitCount_2 : decode b_I_bitCount 2 = .ok (.iconst 1, 1) := by decide +kernel
theorem d_I_bitCount_3 : decode b_I_bitCount 3 = .ok (.iushr, 1) := by decide +kernel
theorem d_I_bitCount_4 : decode b_I_bitCount 4 = .ok (.ldc_w 265, 3) := by decide +kernel
theorem d_I_bitCount_7 : decode b_I_bitCount 7 = .ok (.iand, 1) := by decide +kernel
theorem d_I_bitCount_8 : decode b_I_bitCount 8 = .ok (.isub, 1) := by decide +kernel
theorem d_I_bitCount_9 : decode b_I_bitCount 9 = .ok (.istore_n 0, 1) := by decide +kernel
theorem d_I_bitCount_10 : decode b_I_bitCount 10 = .ok (.iload_n 0, 1) := by decide +kernel
theorem d_I_bitCount_11 : decode b_I_bitCount 11 = .ok (.ldc_w 266, 3) := by decide +kernel
theorem d_I_bitCount_14 : decode b_I_bitCount 14 = .ok (.iand, 1) := by decide +kernel
theorem d_I_bitCount_15 : decode b_I_bitCount 15 = .ok (.iload_n 0, 1) := by decide +kernel
theorem d_I_bitCount_16 : decode b_I_bitCount 16 = .ok (.iconst 2, 1) := by decide +kernel
theorem d_I_bitCount_17 : decode b_I_bitCount 17 = .ok (.iushr, 1) := by decide +kernel
theorem d_I_bitCount_18 : decode b_I_bitCount 18 = .ok (.ldc_w 266, 3) := by decide +kernel
theorem d_I_bitCount_21 : decode b_I_bitCount 21 = .ok (.iand, 1) := by decide +kernel
theorem d_I_bitCount_22 : decode b_I_bitCount 22 = .ok (.iadd, 1) := by decide +kernel
theorem d_I_bitCount_23 : decode b_I_bitCount 23 = .ok (.istore_n 0, 1) := by decide +kernel
theorem d_I_bitCount_24 : decode b_I_bitCount 24 = .ok (.iload_n 0, 1) := by decide +kernel
theorem d_I_bitCount_25 : decode b_I_bitCount 25 = .ok (.iload_n 0, 1) := by decide +kernel
theorem d_I_bitCount_26 : decode b_I_bitCount 26 = .ok (.iconst 4, 1) := by decide +kernel
theorem d_I_bitCount_27 : decode b_I_bitCount 27 = .ok (.iushr, 1) := by decide +kernel
theorem d_I_bitCount_28 : decode b_I_bitCount 28 = .ok (.iadd, 1) := by decide +kernel
theorem d_I_bitCount_29 : decode b_I_bitCount 29 = .ok (.ldc_w 267, 3) := by decide +kernel
theorem d_I_bitCount_32 : decode b_I_bitCount 32 = .ok (.iand, 1) := by decide +kernel
theorem d_I_bitCount_33 : decode b_I_bitCount 33 = .ok (.istore_n 0, 1) := by decide +kernel
theorem d_I_bitCount_34 : decode b_I_bitCount 34 = .ok (.iload_n 0, 1) := by decide +kernel
theorem d_I_bitCount_35 : decode b_I_bitCount 35 = .ok (.iload_n 0, 1) := by decide +kernel
theorem d_I_bitCount_36 : decode b_I_bitCount 36 = .ok (.bipush 8, 2) := by decide +kernel
theorem d_I_bitCount_38 : decode b_I_bitCount 38 = .ok (.iushr, 1) := by decide +kernel
theorem d_I_bitCount_39 : decode b_I_bitCount 39 = .ok (.iadd, 1) := by decide +kernel
theorem d_I_bitCount_40 : decode b_I_bitCount 40 = .ok (.istore_n 0, 1) := by decide +kernel
theorem d_I_bitCount_41 : decode b_I_bitCount 41 = .ok (.iload_n 0, 1) := by decide +kernel
theorem d_I_bitCount_42 : decode b_I_bitCount 42 = .ok (.iload_n 0, 1) := by decide +kernel
theorem d_I_bitCount_43 : decode b_I_bitCount 43 = .ok (.bipush 16, 2) := by decide +kernel
theorem d_I_bitCount_45 : decode b_I_bitCount 45 = .ok (.iushr, 1) := by decide +kernel
theorem d_I_bitCount_46 : decode b_I_bitCount 46 = .ok (.iadd, 1) := by decide +kernel
theorem d_I_bitCount_47 : decode b_I_bitCount 47 = .ok (.istore_n 0, 1) := by decide +kernel
theorem d_I_bitCount_48 : decode b_I_bitCount 48 = .ok (.iload_n 0, 1) := by decide +kernel
theorem d_I_bitCount_49 : decode b_I_bitCount 49 = .ok (.bipush 63, 2) := by decide +kernel
theorem d_I_bitCount_51 : decode b_I_bitCount 51 = .ok (.iand, 1) := by decide +kernel
theorem d_I_bitCount_52 : decode b_I_bitCount 52 = .ok (.ireturn, 1) := by decide +kernel
theorem mw_1 : Cond.code y_M_isLand b_M_isLand 1 (some .boolean) ∈ lw_tbl := by decide +kernel
theorem mw_2 : Cond.initialized y_M_isLand.cls ∈ lw_tbl := by decide +kernel
theorem mw_3 : Cond.methodLink "MeasureRows" 49 y_M_isLand ∈ lw_tbl := by decide +kernel
theorem mw_4 : Cond.static y_M_isLand ∈ lw_tbl := by decide +kernel
theorem mw_5 : Cond.code y_M_isGroup b_M_isGroup 1 (some .boolean) ∈ lw_tbl := by decide +kernel
theorem mw_6 : Cond.initialized y_M_isGroup.cls ∈ lw_tbl := by decide +kernel
theorem mw_7 : Cond.methodLink "MeasureRows" 45 y_M_isGroup ∈ lw_tbl := by decide +kernel
theorem mw_8 : Cond.static y_M_isGroup ∈ lw_tbl := by decide +kernel
theorem mw_9 : Cond.code y_M_isDay b_M_isDay 1 (some .boolean) ∈ lw_tbl := by decide +kernel
theorem mw_10 : Cond.initialized y_M_isDay.cls ∈ lw_tbl := by decide +kernel
theorem mw_11 : Cond.methodLink "MeasureRows" 83 y_M_isDay ∈ lw_tbl := by decide +kernel
theorem mw_12 : Cond.static y_M_isDay ∈ lw_tbl := by decide +kernel
theorem mw_13 : Cond.constant "MeasureRows" 218 100000 ∈ lw_tbl := by decide +kernel
theorem mw_14 : Cond.constant "MeasureRows" 219 999999 ∈ lw_tbl := by decide +kernel
theorem mw_15 : Cond.code y_D_in b_D_in 3 (some .boolean) ∈ lw_tbl := by decide +kernel
theorem mw_16 : Cond.initialized y_D_in.cls ∈ lw_tbl := by decide +kernel
theorem mw_17 : Cond.methodLink "MeasureRowsModel" 57 y_D_in ∈ lw_tbl := by decide +kernel
theorem mw_18 : Cond.static y_D_in ∈ lw_tbl := by decide +kernel
theorem mw_19 : Cond.constant "MeasureRowsModel" 61 100000 ∈ lw_tbl := by decide +kernel
theorem mw_20 : Cond.constant "MeasureRowsModel" 62 999999 ∈ lw_tbl := by decide +kernel
theorem mw_21 : Cond.constant "java/lang/Integer" 265 1431655765 ∈ lw_tbl := by decide +kernel
theorem mw_22 : Cond.constant "java/lang/Integer" 266 858993459 ∈ lw_tbl := by decide +kernel
theorem mw_23 : Cond.constant "java/lang/Integer" 267 252645135 ∈ lw_tbl := by decide +kernel
def mv_M_isLand (a0 : Int32) : Int32 := if a0 < 0 then 0 else if 16 ≤ a0 then 0 else 1
theorem mv_M_isLand_b (a0 : Int32) : mr_b01 (mv_M_isLand a0) := (mr_bi mr_b0 (mr_bi mr_b0 mr_b1))
set_option maxHeartbeats 4000000 in
set_option maxRecDepth 100000 in
theorem mc_M_isLand (l : Launch) (s0 : State) (a0 : Int32) : Met l y_M_isLand [Cond.code y_M_isLand b_M_isLand 1 (some .boolean)] ({ frames := 0, cells := 0, slots := 0, locals := 0 }) (va_Pc [.int a0] (fun U => mr_B s0 U)) (vp_Si (fun r => r = mv_M_isLand a0)) 0 0 (fun _ => False) := by
  refine Met.ofW (cc := b_M_isLand) (maxL := 1) (ret := (some .boolean)) (by decide) rfl ?_
  intro p e s m args below meth c s₁ B hml hv
  obtain ⟨rfl, hB⟩ := hv
  have hBH := hB.here
  have hx := B.exec
  have hb := B.bytes
  have hr := B.returns
  have hlocks := B.notSynchronized
  have hts : ∀ w ∈ lw_tbl, w.before [.int a0].toArray s = true := hB.hts _
  have hown : s.vm.findClass "MeasureRows" = some m.cls := findClass_of_methodNamed B.named
  have hl := lv_entry ([.int a0]) (n := 1) (Nat.le_of_ble_eq_true rfl)
  rw [lg_entry_eq]
  generalize (lg_sl ([.int a0]) ++ List.replicate (1 - (lg_sl ([.int a0])).length) Slot.unset).toArray = ls at hl ⊢
  have hl : lv_has ls 1 [(0, .int a0)] := hl
  refine lv_iload_n hx hb d_M_isLand_0 rfl (lv_at hl 0 rfl) ?_
  refine lv_if_lt (tgt := 14) hx hb d_M_isLand_1 (by decide) (fun c_1 => ?_) (fun c_1 => ?_)
  · refine lv_iconst (v := 0) hx hb d_M_isLand_14 (by decide) ?_
    exact W.zret (v := 0) hx hb hr (mr_narz mr_b0) (fun t ht _ => ⟨_, rfl, by unfold mv_M_isLand; rw [if_pos c_1], ht⟩) (fun _ h => nomatch h) d_M_isLand_15
  · refine lv_iload_n hx hb d_M_isLand_4 rfl (lv_at hl 0 rfl) ?_
    refine lv_bipush (v := 16) hx hb d_M_isLand_5 (by decide) ?_
    refine lv_icmp_ge (tgt := 14) hx hb d_M_isLand_7 (by decide) (fun c_2 => ?_) (fun c_2 => ?_)
    · refine lv_iconst (v := 0) hx hb d_M_isLand_14 (by decide) ?_
      exact W.zret (v := 0) hx hb hr (mr_narz mr_b0) (fun t ht _ => ⟨_, rfl, by unfold mv_M_isLand; rw [if_neg c_1, if_pos c_2], ht⟩) (fun _ h => nomatch h) d_M_isLand_15
    · refine lv_iconst (v := 1) hx hb d_M_isLand_10 (by decide) ?_
      refine lv_goto (tgt := 15) hx hb d_M_isLand_11 (by decide) ?_
      exact W.zret (v := 1) hx hb hr (mr_narz mr_b1) (fun t ht _ => ⟨_, rfl, by unfold mv_M_isLand; rw [if_neg c_1, if_neg c_2], ht⟩) (fun _ h => nomatch h) d_M_isLand_15
def mv_M_isGroup (a0 : Int32) : Int32 := if a0 < 16 then 0 else if 24 ≤ a0 then 0 else 1
theorem mv_M_isGroup_b (a0 : Int32) : mr_b01 (mv_M_isGroup a0) := (mr_bi mr_b0 (mr_bi mr_b0 mr_b1))
set_option maxHeartbeats 4000000 in
set_option maxRecDepth 100000 in
theorem mc_M_isGroup (l : Launch) (s0 : State) (a0 : Int32) : Met l y_M_isGroup [Cond.code y_M_isGroup b_M_isGroup 1 (some .boolean)] ({ frames := 0, cells := 0, slots := 0, locals := 0 }) (va_Pc [.int a0] (fun U => mr_B s0 U)) (vp_Si (fun r => r = mv_M_isGroup a0)) 0 0 (fun _ => False) := by
  refine Met.ofW (cc := b_M_isGroup) (maxL := 1) (ret := (some .boolean)) (by decide) rfl ?_
  intro p e s m args below meth c s₁ B hml hv
  obtain ⟨rfl, hB⟩ := hv
  have hBH := hB.here
  have hx := B.exec
  have hb := B.bytes
  have hr := B.returns
  have hlocks := B.notSynchronized
  have hts : ∀ w ∈ lw_tbl, w.before [.int a0].toArray s = true := hB.hts _
  have hown : s.vm.findClass "MeasureRows" = some m.cls := findClass_of_methodNamed B.named
  have hl := lv_entry ([.int a0]) (n := 1) (Nat.le_of_ble_eq_true rfl)
  rw [lg_entry_eq]
  generalize (lg_sl ([.int a0]) ++ List.replicate (1 - (lg_sl ([.int a0])).length) Slot.unset).toArray = ls at hl ⊢
  have hl : lv_has ls 1 [(0, .int a0)] := hl
  refine lv_iload_n hx hb d_M_isGroup_0 rfl (lv_at hl 0 rfl) ?_
  refine lv_bipush (v := 16) hx hb d_M_isGroup_1 (by decide) ?_
  refine lv_icmp_lt (tgt := 16) hx hb d_M_isGroup_3 (by decide) (fun c_1 => ?_) (fun c_1 => ?_)
  · refine lv_iconst (v := 0) hx hb d_M_isGroup_16 (by decide) ?_
    exact W.zret (v := 0) hx hb hr (mr_narz mr_b0) (fun t ht _ => ⟨_, rfl, by unfold mv_M_isGroup; rw [if_pos c_1], ht⟩) (fun _ h => nomatch h) d_M_isGroup_17
  · refine lv_iload_n hx hb d_M_isGroup_6 rfl (lv_at hl 0 rfl) ?_
    refine lv_bipush (v := 24) hx hb d_M_isGroup_7 (by decide) ?_
    refine lv_icmp_ge (tgt := 16) hx hb d_M_isGroup_9 (by decide) (fun c_2 => ?_) (fun c_2 => ?_)
    · refine lv_iconst (v := 0) hx hb d_M_isGroup_16 (by decide) ?_
      exact W.zret (v := 0) hx hb hr (mr_narz mr_b0) (fun t ht _ => ⟨_, rfl, by unfold mv_M_isGroup; rw [if_neg c_1, if_pos c_2], ht⟩) (fun _ h => nomatch h) d_M_isGroup_17
    · refine lv_iconst (v := 1) hx hb d_M_isGroup_12 (by decide) ?_
      refine lv_goto (tgt := 17) hx hb d_M_isGroup_13 (by decide) ?_
      exact W.zret (v := 1) hx hb hr (mr_narz mr_b1) (fun t ht _ => ⟨_, rfl, by unfold mv_M_isGroup; rw [if_neg c_1, if_neg c_2], ht⟩) (fun _ h => nomatch h) d_M_isGroup_17
def mv_M_isPlace (a0 : Int32) : Int32 := if (mv_M_isLand a0) = 0 then (if (mv_M_isGroup a0) = 0 then (if a0 = 31 then 1 else 0) else 1) else 1
theorem mv_M_isPlace_b (a0 : Int32) : mr_b01 (mv_M_isPlace a0) := (mr_bi (mr_bi (mr_bi mr_b1 mr_b0) mr_b1) mr_b1)
set_option maxHeartbeats 4000000 in
set_option maxRecDepth 100000 in
theorem mc_M_isPlace (l : Launch) (s0 : State) (a0 : Int32) : Met l y_M_isPlace [Cond.code y_M_isPlace b_M_isPlace 1 (some .boolean)] ({ frames := 1, cells := 0, slots := 0, locals := 20 }) (va_Pc [.int a0] (fun U => mr_B s0 U)) (vp_Si (fun r => r = mv_M_isPlace a0)) 0 0 (fun _ => False) := by
  refine Met.ofW (cc := b_M_isPlace) (maxL := 1) (ret := (some .boolean)) (by decide) rfl ?_
  intro p e s m args below meth c s₁ B hml hv
  obtain ⟨rfl, hB⟩ := hv
  have hBH := hB.here
  have hx := B.exec
  have hb := B.bytes
  have hr := B.returns
  have hlocks := B.notSynchronized
  have hts : ∀ w ∈ lw_tbl, w.before [.int a0].toArray s = true := hB.hts _
  have hown : s.vm.findClass "MeasureRows" = some m.cls := findClass_of_methodNamed B.named
  have hl := lv_entry ([.int a0]) (n := 1) (Nat.le_of_ble_eq_true rfl)
  rw [lg_entry_eq]
  generalize (lg_sl ([.int a0]) ++ List.replicate (1 - (lg_sl ([.int a0])).length) Slot.unset).toArray = ls at hl ⊢
  have hl : lv_has ls 1 [(0, .int a0)] := hl
  refine lv_iload_n hx hb d_M_isPlace_0 rfl (lv_at hl 0 rfl) ?_
  refine vp_callSi (va_Run.run (va_runS (As := [.int a0]) (rest := []) ⟨hx, hb, hml, hown, hts⟩ (mc_M_isLand l s0 a0) ⟨(mr_cB 1 (hts (Cond.code y_M_isLand b_M_isLand 1 (some .boolean)) mw_1) (hts (Cond.initialized y_M_isLand.cls) mw_2) (hts (Cond.methodLink "MeasureRows" 49 y_M_isLand) mw_3) rfl rfl (by decide +kernel) ⟨Nat.le_of_ble_eq_true rfl, Nat.le_of_ble_eq_true rfl⟩), (hts (Cond.static y_M_isLand) mw_4)⟩ (mr_pre0 hBH) rfl rfl hl.1 rfl (lv_room (Nat.le_of_ble_eq_true rfl)) d_M_isPlace_1 ⟨Nat.le_of_ble_eq_true rfl, Nat.le_of_ble_eq_true rfl⟩)) (fun r_1 h_2 => ?_)
  subst h_2
  refine lv_if_ne (tgt := 20) hx hb d_M_isPlace_4 (by decide) (fun c_3 => ?_) (fun c_3 => ?_)
  · refine lv_iconst (v := 1) hx hb d_M_isPlace_20 (by decide) ?_
    refine lv_goto (tgt := 25) hx hb d_M_isPlace_21 (by decide) ?_
    exact W.zret (v := 1) hx hb hr (mr_narz mr_b1) (fun t ht _ => ⟨_, rfl, by unfold mv_M_isPlace; rw [if_neg c_3], ht⟩) (fun _ h => nomatch h) d_M_isPlace_25
  · refine lv_iload_n hx hb d_M_isPlace_7 rfl (lv_at hl 0 rfl) ?_
    refine vp_callSi (va_Run.run (va_runS (As := [.int a0]) (rest := []) ⟨hx, hb, hml, hown, hts⟩ (mc_M_isGroup l s0 a0) ⟨(mr_cB 1 (hts (Cond.code y_M_isGroup b_M_isGroup 1 (some .boolean)) mw_5) (hts (Cond.initialized y_M_isGroup.cls) mw_6) (hts (Cond.methodLink "MeasureRows" 45 y_M_isGroup) mw_7) rfl rfl (by decide +kernel) ⟨Nat.le_of_ble_eq_true rfl, Nat.le_of_ble_eq_true rfl⟩), (hts (Cond.static y_M_isGroup) mw_8)⟩ (mr_pre0 hBH) rfl rfl hl.1 rfl (lv_room (Nat.le_of_ble_eq_true rfl)) d_M_isPlace_8 ⟨Nat.le_of_ble_eq_true rfl, Nat.le_of_ble_eq_true rfl⟩)) (fun r_4 h_5 => ?_)
    subst h_5
    refine lv_if_ne (tgt := 20) hx hb d_M_isPlace_11 (by decide) (fun c_6 => ?_) (fun c_6 => ?_)
    · refine lv_iconst (v := 1) hx hb d_M_isPlace_20 (by decide) ?_
      refine lv_goto (tgt := 25) hx hb d_M_isPlace_21 (by decide) ?_
      exact W.zret (v := 1) hx hb hr (mr_narz mr_b1) (fun t ht _ => ⟨_, rfl, by unfold mv_M_isPlace; rw [if_pos c_3, if_neg c_6], ht⟩) (fun _ h => nomatch h) d_M_isPlace_25
    · refine lv_iload_n hx hb d_M_isPlace_14 rfl (lv_at hl 0 rfl) ?_
      refine lv_bipush (v := 31) hx hb d_M_isPlace_15 (by decide) ?_
      refine lv_icmp_ne (tgt := 24) hx hb d_M_isPlace_17 (by decide) (fun c_7 => ?_) (fun c_7 => ?_)
      · refine lv_iconst (v := 0) hx hb d_M_isPlace_24 (by decide) ?_
        exact W.zret (v := 0) hx hb hr (mr_narz mr_b0) (fun t ht _ => ⟨_, rfl, by unfold mv_M_isPlace; rw [if_pos c_3, if_pos c_6, if_neg c_7], ht⟩) (fun _ h => nomatch h) d_M_isPlace_25
      · refine lv_iconst (v := 1) hx hb d_M_isPlace_20 (by decide) ?_
        refine lv_goto (tgt := 25) hx hb d_M_isPlace_21 (by decide) ?_
        exact W.zret (v := 1) hx hb hr (mr_narz mr_b1) (fun t ht _ => ⟨_, rfl, by unfold mv_M_isPlace; rw [if_pos c_3, if_pos c_6, if_pos c_7], ht⟩) (fun _ h => nomatch h) d_M_isPlace_25
def mv_M_isDay (a0 : Int32) : Int32 := if a0 < 0 then 0 else if 10000 < a0 then 0 else 1
theorem mv_M_isDay_b (a0 : Int32) : mr_b01 (mv_M_isDay a0) := (mr_bi mr_b0 (mr_bi mr_b0 mr_b1))
set_option maxHeartbeats 4000000 in
set_option maxRecDepth 100000 in
theorem mc_M_isDay (l : Launch) (s0 : State) (a0 : Int32) : Met l y_M_isDay [Cond.code y_M_isDay b_M_isDay 1 (some .boolean)] ({ frames := 0, cells := 0, slots := 0, locals := 0 }) (va_Pc [.int a0] (fun U => mr_B s0 U)) (vp_Si (fun r => r = mv_M_isDay a0)) 0 0 (fun _ => False) := by
  refine Met.ofW (cc := b_M_isDay) (maxL := 1) (ret := (some .boolean)) (by decide) rfl ?_
  intro p e s m args below meth c s₁ B hml hv
  obtain ⟨rfl, hB⟩ := hv
  have hBH := hB.here
  have hx := B.exec
  have hb := B.bytes
  have hr := B.returns
  have hlocks := B.notSynchronized
  have hts : ∀ w ∈ lw_tbl, w.before [.int a0].toArray s = true := hB.hts _
  have hown : s.vm.findClass "MeasureRows" = some m.cls := findClass_of_methodNamed B.named
  have hl := lv_entry ([.int a0]) (n := 1) (Nat.le_of_ble_eq_true rfl)
  rw [lg_entry_eq]
  generalize (lg_sl ([.int a0]) ++ List.replicate (1 - (lg_sl ([.int a0])).length) Slot.unset).toArray = ls at hl ⊢
  have hl : lv_has ls 1 [(0, .int a0)] := hl
  refine lv_iload_n hx hb d_M_isDay_0 rfl (lv_at hl 0 rfl) ?_
  refine lv_if_lt (tgt := 15) hx hb d_M_isDay_1 (by decide) (fun c_1 => ?_) (fun c_1 => ?_)
  · refine lv_iconst (v := 0) hx hb d_M_isDay_15 (by decide) ?_
    exact W.zret (v := 0) hx hb hr (mr_narz mr_b0) (fun t ht _ => ⟨_, rfl, by unfold mv_M_isDay; rw [if_pos c_1], ht⟩) (fun _ h => nomatch h) d_M_isDay_16
  · refine lv_iload_n hx hb d_M_isDay_4 rfl (lv_at hl 0 rfl) ?_
    refine lv_sipush (v := 10000) hx hb d_M_isDay_5 (by decide) ?_
    refine lv_icmp_gt (tgt := 15) hx hb d_M_isDay_8 (by decide) (fun c_2 => ?_) (fun c_2 => ?_)
    · refine lv_iconst (v := 0) hx hb d_M_isDay_15 (by decide) ?_
      exact W.zret (v := 0) hx hb hr (mr_narz mr_b0) (fun t ht _ => ⟨_, rfl, by unfold mv_M_isDay; rw [if_neg c_1, if_pos c_2], ht⟩) (fun _ h => nomatch h) d_M_isDay_16
    · refine lv_iconst (v := 1) hx hb d_M_isDay_11 (by decide) ?_
      refine lv_goto (tgt := 16) hx hb d_M_isDay_12 (by decide) ?_
      exact W.zret (v := 1) hx hb hr (mr_narz mr_b1) (fun t ht _ => ⟨_, rfl, by unfold mv_M_isDay; rw [if_neg c_1, if_neg c_2], ht⟩) (fun _ h => nomatch h) d_M_isDay_16
def mv_M_isLastDay (a0 : Int32) : Int32 := if (mv_M_isDay a0) = 0 then (if a0 = 20000 then 1 else 0) else 1
theorem mv_M_isLastDay_b (a0 : Int32) : mr_b01 (mv_M_isLastDay a0) := (mr_bi (mr_bi mr_b1 mr_b0) mr_b1)
set_option maxHeartbeats 4000000 in
set_option maxRecDepth 100000 in
theorem mc_M_isLastDay (l : Launch) (s0 : State) (a0 : Int32) : Met l y_M_isLastDay [Cond.code y_M_isLastDay b_M_isLastDay 1 (some .boolean)] ({ frames := 1, cells := 0, slots := 0, locals := 20 }) (va_Pc [.int a0] (fun U => mr_B s0 U)) (vp_Si (fun r => r = mv_M_isLastDay a0)) 0 0 (fun _ => False) := by
  refine Met.ofW (cc := b_M_isLastDay) (maxL := 1) (ret := (some .boolean)) (by decide) rfl ?_
  intro p e s m args below meth c s₁ B hml hv
  obtain ⟨rfl, hB⟩ := hv
  have hBH := hB.here
  have hx := B.exec
  have hb := B.bytes
  have hr := B.returns
  have hlocks := B.notSynchronized
  have hts : ∀ w ∈ lw_tbl, w.before [.int a0].toArray s = true := hB.hts _
  have hown : s.vm.findClass "MeasureRows" = some m.cls := findClass_of_methodNamed B.named
  have hl := lv_entry ([.int a0]) (n := 1) (Nat.le_of_ble_eq_true rfl)
  rw [lg_entry_eq]
  generalize (lg_sl ([.int a0]) ++ List.replicate (1 - (lg_sl ([.int a0])).length) Slot.unset).toArray = ls at hl ⊢
  have hl : lv_has ls 1 [(0, .int a0)] := hl
  refine lv_iload_n hx hb d_M_isLastDay_0 rfl (lv_at hl 0 rfl) ?_
  refine vp_callSi (va_Run.run (va_runS (As := [.int a0]) (rest := []) ⟨hx, hb, hml, hown, hts⟩ (mc_M_isDay l s0 a0) ⟨(mr_cB 1 (hts (Cond.code y_M_isDay b_M_isDay 1 (some .boolean)) mw_9) (hts (Cond.initialized y_M_isDay.cls) mw_10) (hts (Cond.methodLink "MeasureRows" 83 y_M_isDay) mw_11) rfl rfl (by decide +kernel) ⟨Nat.le_of_ble_eq_true rfl, Nat.le_of_ble_eq_true rfl⟩), (hts (Cond.static y_M_isDay) mw_12)⟩ (mr_pre0 hBH) rfl rfl hl.1 rfl (lv_room (Nat.le_of_ble_eq_true rfl)) d_M_isLastDay_1 ⟨Nat.le_of_ble_eq_true rfl, Nat.le_of_ble_eq_true rfl⟩)) (fun r_1 h_2 => ?_)
  subst h_2
  refine lv_if_ne (tgt := 14) hx hb d_M_isLastDay_4 (by decide) (fun c_3 => ?_) (fun c_3 => ?_)
  · refine lv_iconst (v := 1) hx hb d_M_isLastDay_14 (by decide) ?_
    refine lv_goto (tgt := 19) hx hb d_M_isLastDay_15 (by decide) ?_
    exact W.zret (v := 1) hx hb hr (mr_narz mr_b1) (fun t ht _ => ⟨_, rfl, by unfold mv_M_isLastDay; rw [if_neg c_3], ht⟩) (fun _ h => nomatch h) d_M_isLastDay_19
  · refine lv_iload_n hx hb d_M_isLastDay_7 rfl (lv_at hl 0 rfl) ?_
    refine lv_sipush (v := 20000) hx hb d_M_isLastDay_8 (by decide) ?_
    refine lv_icmp_ne (tgt := 18) hx hb d_M_isLastDay_11 (by decide) (fun c_4 => ?_) (fun c_4 => ?_)
    · refine lv_iconst (v := 0) hx hb d_M_isLastDay_18 (by decide) ?_
      exact W.zret (v := 0) hx hb hr (mr_narz mr_b0) (fun t ht _ => ⟨_, rfl, by unfold mv_M_isLastDay; rw [if_pos c_3, if_neg c_4], ht⟩) (fun _ h => nomatch h) d_M_isLastDay_19
    · refine lv_iconst (v := 1) hx hb d_M_isLastDay_14 (by decide) ?_
      refine lv_goto (tgt := 19) hx hb d_M_isLastDay_15 (by decide) ?_
      exact W.zret (v := 1) hx hb hr (mr_narz mr_b1) (fun t ht _ => ⟨_, rfl, by unfold mv_M_isLastDay; rw [if_pos c_3, if_pos c_4], ht⟩) (fun _ h => nomatch h) d_M_isLastDay_19
def mv_M_levelOf (a0 : Int32) : Int32 := if a0 < 10 then (if a0 < 1000 then (if a0 < 100000 then 0 else if 999999 < a0 then 0 else 3) else if 9999 < a0 then (if a0 < 100000 then 0 else if 999999 < a0 then 0 else 3) else 2) else if 99 < a0 then (if a0 < 1000 then (if a0 < 100000 then 0 else if 999999 < a0 then 0 else 3) else if 9999 < a0 then (if a0 < 100000 then 0 else if 999999 < a0 then 0 else 3) else 2) else 1
set_option maxHeartbeats 4000000 in
set_option maxRecDepth 100000 in
theorem mc_M_levelOf (l : Launch) (s0 : State) (a0 : Int32) : Met l y_M_levelOf [Cond.code y_M_levelOf b_M_levelOf 1 (some .int)] ({ frames := 0, cells := 0, slots := 0, locals := 0 }) (va_Pc [.int a0] (fun U => mr_B s0 U)) (vp_Si (fun r => r = mv_M_levelOf a0)) 0 0 (fun _ => False) := by
  refine Met.ofW (cc := b_M_levelOf) (maxL := 1) (ret := (some .int)) (by decide) rfl ?_
  intro p e s m args below meth c s₁ B hml hv
  obtain ⟨rfl, hB⟩ := hv
  have hBH := hB.here
  have hx := B.exec
  have hb := B.bytes
  have hr := B.returns
  have hlocks := B.notSynchronized
  have hts : ∀ w ∈ lw_tbl, w.before [.int a0].toArray s = true := hB.hts _
  have hown : s.vm.findClass "MeasureRows" = some m.cls := findClass_of_methodNamed B.named
  have hl := lv_entry ([.int a0]) (n := 1) (Nat.le_of_ble_eq_true rfl)
  rw [lg_entry_eq]
  generalize (lg_sl ([.int a0]) ++ List.replicate (1 - (lg_sl ([.int a0])).length) Slot.unset).toArray = ls at hl ⊢
  have hl : lv_has ls 1 [(0, .int a0)] := hl
  refine lv_iload_n hx hb d_M_levelOf_0 rfl (lv_at hl 0 rfl) ?_
  refine lv_bipush (v := 10) hx hb d_M_levelOf_1 (by decide) ?_
  refine lv_icmp_lt (tgt := 14) hx hb d_M_levelOf_3 (by decide) (fun c_1 => ?_) (fun c_1 => ?_)
  · refine lv_iload_n hx hb d_M_levelOf_14 rfl (lv_at hl 0 rfl) ?_
    refine lv_sipush (v := 1000) hx hb d_M_levelOf_15 (by decide) ?_
    refine lv_icmp_lt (tgt := 30) hx hb d_M_levelOf_18 (by decide) (fun c_2 => ?_) (fun c_2 => ?_)
    · refine lv_iload_n hx hb d_M_levelOf_30 rfl (lv_at hl 0 rfl) ?_
      refine lv_ldc (v := 100000) hx hb hown (hts (Cond.constant "MeasureRows" 218 100000) mw_13) d_M_levelOf_31 ?_
      refine lv_icmp_lt (tgt := 46) hx hb d_M_levelOf_33 (by decide) (fun c_3 => ?_) (fun c_3 => ?_)
      · refine lv_iconst (v := 0) hx hb d_M_levelOf_46 (by decide) ?_
        exact W.iret (v := 0) hx hb hr (fun t ht _ => ⟨_, rfl, by unfold mv_M_levelOf; rw [if_pos c_1, if_pos c_2, if_pos c_3], ht⟩) (fun _ h => nomatch h) d_M_levelOf_47
      · refine lv_iload_n hx hb d_M_levelOf_36 rfl (lv_at hl 0 rfl) ?_
        refine lv_ldc (v := 999999) hx hb hown (hts (Cond.constant "MeasureRows" 219 999999) mw_14) d_M_levelOf_37 ?_
        refine lv_icmp_gt (tgt := 46) hx hb d_M_levelOf_39 (by decide) (fun c_4 => ?_) (fun c_4 => ?_)
        · refine lv_iconst (v := 0) hx hb d_M_levelOf_46 (by decide) ?_
          exact W.iret (v := 0) hx hb hr (fun t ht _ => ⟨_, rfl, by unfold mv_M_levelOf; rw [if_pos c_1, if_pos c_2, if_neg c_3, if_pos c_4], ht⟩) (fun _ h => nomatch h) d_M_levelOf_47
        · refine lv_iconst (v := 3) hx hb d_M_levelOf_42 (by decide) ?_
          refine lv_goto (tgt := 47) hx hb d_M_levelOf_43 (by decide) ?_
          exact W.iret (v := 3) hx hb hr (fun t ht _ => ⟨_, rfl, by unfold mv_M_levelOf; rw [if_pos c_1, if_pos c_2, if_neg c_3, if_neg c_4], ht⟩) (fun _ h => nomatch h) d_M_levelOf_47
    · refine lv_iload_n hx hb d_M_levelOf_21 rfl (lv_at hl 0 rfl) ?_
      refine lv_sipush (v := 9999) hx hb d_M_levelOf_22 (by decide) ?_
      refine lv_icmp_gt (tgt := 30) hx hb d_M_levelOf_25 (by decide) (fun c_5 => ?_) (fun c_5 => ?_)
      · refine lv_iload_n hx hb d_M_levelOf_30 rfl (lv_at hl 0 rfl) ?_
        refine lv_ldc (v := 100000) hx hb hown (hts (Cond.constant "MeasureRows" 218 100000) mw_13) d_M_levelOf_31 ?_
        refine lv_icmp_lt (tgt := 46) hx hb d_M_levelOf_33 (by decide) (fun c_6 => ?_) (fun c_6 => ?_)
        · refine lv_iconst (v := 0) hx hb d_M_levelOf_46 (by decide) ?_
          exact W.iret (v := 0) hx hb hr (fun t ht _ => ⟨_, rfl, by unfold mv_M_levelOf; rw [if_pos c_1, if_neg c_2, if_pos c_5, if_pos c_6], ht⟩) (fun _ h => nomatch h) d_M_levelOf_47
        · refine lv_iload_n hx hb d_M_levelOf_36 rfl (lv_at hl 0 rfl) ?_
          refine lv_ldc (v := 999999) hx hb hown (hts (Cond.constant "MeasureRows" 219 999999) mw_14) d_M_levelOf_37 ?_
          refine lv_icmp_gt (tgt := 46) hx hb d_M_levelOf_39 (by decide) (fun c_7 => ?_) (fun c_7 => ?_)
          · refine lv_iconst (v := 0) hx hb d_M_levelOf_46 (by decide) ?_
            exact W.iret (v := 0) hx hb hr (fun t ht _ => ⟨_, rfl, by unfold mv_M_levelOf; rw [if_pos c_1, if_neg c_2, if_pos c_5, if_neg c_6, if_pos c_7], ht⟩) (fun _ h => nomatch h) d_M_levelOf_47
          · refine lv_iconst (v := 3) hx hb d_M_levelOf_42 (by decide) ?_
            refine lv_goto (tgt := 47) hx hb d_M_levelOf_43 (by decide) ?_
            exact W.iret (v := 3) hx hb hr (fun t ht _ => ⟨_, rfl, by unfold mv_M_levelOf; rw [if_pos c_1, if_neg c_2, if_pos c_5, if_neg c_6, if_neg c_7], ht⟩) (fun _ h => nomatch h) d_M_levelOf_47
      · refine lv_iconst (v := 2) hx hb d_M_levelOf_28 (by decide) ?_
        exact W.iret (v := 2) hx hb hr (fun t ht _ => ⟨_, rfl, by unfold mv_M_levelOf; rw [if_pos c_1, if_neg c_2, if_neg c_5], ht⟩) (fun _ h => nomatch h) d_M_levelOf_29
  · refine lv_iload_n hx hb d_M_levelOf_6 rfl (lv_at hl 0 rfl) ?_
    refine lv_bipush (v := 99) hx hb d_M_levelOf_7 (by decide) ?_
    refine lv_icmp_gt (tgt := 14) hx hb d_M_levelOf_9 (by decide) (fun c_8 => ?_) (fun c_8 => ?_)
    · refine lv_iload_n hx hb d_M_levelOf_14 rfl (lv_at hl 0 rfl) ?_
      refine lv_sipush (v := 1000) hx hb d_M_levelOf_15 (by decide) ?_
      refine lv_icmp_lt (tgt := 30) hx hb d_M_levelOf_18 (by decide) (fun c_9 => ?_) (fun c_9 => ?_)
      · refine lv_iload_n hx hb d_M_levelOf_30 rfl (lv_at hl 0 rfl) ?_
        refine lv_ldc (v := 100000) hx hb hown (hts (Cond.constant "MeasureRows" 218 100000) mw_13) d_M_levelOf_31 ?_
        refine lv_icmp_lt (tgt := 46) hx hb d_M_levelOf_33 (by decide) (fun c_10 => ?_) (fun c_10 => ?_)
        · refine lv_iconst (v := 0) hx hb d_M_levelOf_46 (by decide) ?_
          exact W.iret (v := 0) hx hb hr (fun t ht _ => ⟨_, rfl, by unfold mv_M_levelOf; rw [if_neg c_1, if_pos c_8, if_pos c_9, if_pos c_10], ht⟩) (fun _ h => nomatch h) d_M_levelOf_47
        · refine lv_iload_n hx hb d_M_levelOf_36 rfl (lv_at hl 0 rfl) ?_
          refine lv_ldc (v := 999999) hx hb hown (hts (Cond.constant "MeasureRows" 219 999999) mw_14) d_M_levelOf_37 ?_
          refine lv_icmp_gt (tgt := 46) hx hb d_M_levelOf_39 (by decide) (fun c_11 => ?_) (fun c_11 => ?_)
          · refine lv_iconst (v := 0) hx hb d_M_levelOf_46 (by decide) ?_
            exact W.iret (v := 0) hx hb hr (fun t ht _ => ⟨_, rfl, by unfold mv_M_levelOf; rw [if_neg c_1, if_pos c_8, if_pos c_9, if_neg c_10, if_pos c_11], ht⟩) (fun _ h => nomatch h) d_M_levelOf_47
          · refine lv_iconst (v := 3) hx hb d_M_levelOf_42 (by decide) ?_
            refine lv_goto (tgt := 47) hx hb d_M_levelOf_43 (by decide) ?_
            exact W.iret (v := 3) hx hb hr (fun t ht _ => ⟨_, rfl, by unfold mv_M_levelOf; rw [if_neg c_1, if_pos c_8, if_pos c_9, if_neg c_10, if_neg c_11], ht⟩) (fun _ h => nomatch h) d_M_levelOf_47
      · refine lv_iload_n hx hb d_M_levelOf_21 rfl (lv_at hl 0 rfl) ?_
        refine lv_sipush (v := 9999) hx hb d_M_levelOf_22 (by decide) ?_
        refine lv_icmp_gt (tgt := 30) hx hb d_M_levelOf_25 (by decide) (fun c_12 => ?_) (fun c_12 => ?_)
        · refine lv_iload_n hx hb d_M_levelOf_30 rfl (lv_at hl 0 rfl) ?_
          refine lv_ldc (v := 100000) hx hb hown (hts (Cond.constant "MeasureRows" 218 100000) mw_13) d_M_levelOf_31 ?_
          refine lv_icmp_lt (tgt := 46) hx hb d_M_levelOf_33 (by decide) (fun c_13 => ?_) (fun c_13 => ?_)
          · refine lv_iconst (v := 0) hx hb d_M_levelOf_46 (by decide) ?_
            exact W.iret (v := 0) hx hb hr (fun t ht _ => ⟨_, rfl, by unfold mv_M_levelOf; rw [if_neg c_1, if_pos c_8, if_neg c_9, if_pos c_12, if_pos c_13], ht⟩) (fun _ h => nomatch h) d_M_levelOf_47
          · refine lv_iload_n hx hb d_M_levelOf_36 rfl (lv_at hl 0 rfl) ?_
            refine lv_ldc (v := 999999) hx hb hown (hts (Cond.constant "MeasureRows" 219 999999) mw_14) d_M_levelOf_37 ?_
            refine lv_icmp_gt (tgt := 46) hx hb d_M_levelOf_39 (by decide) (fun c_14 => ?_) (fun c_14 => ?_)
            · refine lv_iconst (v := 0) hx hb d_M_levelOf_46 (by decide) ?_
              exact W.iret (v := 0) hx hb hr (fun t ht _ => ⟨_, rfl, by unfold mv_M_levelOf; rw [if_neg c_1, if_pos c_8, if_neg c_9, if_pos c_12, if_neg c_13, if_pos c_14], ht⟩) (fun _ h => nomatch h) d_M_levelOf_47
            · refine lv_iconst (v := 3) hx hb d_M_levelOf_42 (by decide) ?_
              refine lv_goto (tgt := 47) hx hb d_M_levelOf_43 (by decide) ?_
              exact W.iret (v := 3) hx hb hr (fun t ht _ => ⟨_, rfl, by unfold mv_M_levelOf; rw [if_neg c_1, if_pos c_8, if_neg c_9, if_pos c_12, if_neg c_13, if_neg c_14], ht⟩) (fun _ h => nomatch h) d_M_levelOf_47
        · refine lv_iconst (v := 2) hx hb d_M_levelOf_28 (by decide) ?_
          exact W.iret (v := 2) hx hb hr (fun t ht _ => ⟨_, rfl, by unfold mv_M_levelOf; rw [if_neg c_1, if_pos c_8, if_neg c_9, if_neg c_12], ht⟩) (fun _ h => nomatch h) d_M_levelOf_29
    · refine lv_iconst (v := 1) hx hb d_M_levelOf_12 (by decide) ?_
      exact W.iret (v := 1) hx hb hr (fun t ht _ => ⟨_, rfl, by unfold mv_M_levelOf; rw [if_neg c_1, if_neg c_8], ht⟩) (fun _ h => nomatch h) d_M_levelOf_13
def mv_M_isUnder (a0 : Int32) (a1 : Int32) : Int32 := if a0 = a1 then 1 else if (a0 / 100) = a1 then 1 else if (a0 / 10000) = a1 then 1 else 0
theorem mv_M_isUnder_b (a0 : Int32) (a1 : Int32) : mr_b01 (mv_M_isUnder a0 a1) := (mr_bi mr_b1 (mr_bi mr_b1 (mr_bi mr_b1 mr_b0)))
set_option maxHeartbeats 4000000 in
set_option maxRecDepth 100000 in
theorem mc_M_isUnder (l : Launch) (s0 : State) (a0 : Int32) (a1 : Int32) : Met l y_M_isUnder [Cond.code y_M_isUnder b_M_isUnder 2 (some .boolean)] ({ frames := 0, cells := 0, slots := 0, locals := 0 }) (va_Pc [.int a0, .int a1] (fun U => mr_B s0 U)) (vp_Si (fun r => r = mv_M_isUnder a0 a1)) 0 0 (fun _ => False) := by
  refine Met.ofW (cc := b_M_isUnder) (maxL := 2) (ret := (some .boolean)) (by decide) rfl ?_
  intro p e s m args below meth c s₁ B hml hv
  obtain ⟨rfl, hB⟩ := hv
  have hBH := hB.here
  have hx := B.exec
  have hb := B.bytes
  have hr := B.returns
  have hlocks := B.notSynchronized
  have hts : ∀ w ∈ lw_tbl, w.before [.int a0, .int a1].toArray s = true := hB.hts _
  have hown : s.vm.findClass "MeasureRows" = some m.cls := findClass_of_methodNamed B.named
  have hl := lv_entry ([.int a0, .int a1]) (n := 2) (Nat.le_of_ble_eq_true rfl)
  rw [lg_entry_eq]
  generalize (lg_sl ([.int a0, .int a1]) ++ List.replicate (2 - (lg_sl ([.int a0, .int a1])).length) Slot.unset).toArray = ls at hl ⊢
  have hl : lv_has ls 2 [(0, .int a0), (1, .int a1)] := hl
  refine lv_iload_n hx hb d_M_isUnder_0 rfl (lv_at hl 0 rfl) ?_
  refine lv_iload_n hx hb d_M_isUnder_1 rfl (lv_at hl 1 rfl) ?_
  refine lv_icmp_eq (tgt := 22) hx hb d_M_isUnder_2 (by decide) (fun c_1 => ?_) (fun c_1 => ?_)
  · refine lv_iconst (v := 1) hx hb d_M_isUnder_22 (by decide) ?_
    refine lv_goto (tgt := 27) hx hb d_M_isUnder_23 (by decide) ?_
    exact W.zret (v := 1) hx hb hr (mr_narz mr_b1) (fun t ht _ => ⟨_, rfl, by unfold mv_M_isUnder; rw [if_pos c_1], ht⟩) (fun _ h => nomatch h) d_M_isUnder_27
  · refine lv_iload_n hx hb d_M_isUnder_5 rfl (lv_at hl 0 rfl) ?_
    refine lv_bipush (v := 100) hx hb d_M_isUnder_6 (by decide) ?_
    refine lv_idiv hx hb d_M_isUnder_8 (by decide) ?_
    refine lv_iload_n hx hb d_M_isUnder_9 rfl (lv_at hl 1 rfl) ?_
    refine lv_icmp_eq (tgt := 22) hx hb d_M_isUnder_10 (by decide) (fun c_2 => ?_) (fun c_2 => ?_)
    · refine lv_iconst (v := 1) hx hb d_M_isUnder_22 (by decide) ?_
      refine lv_goto (tgt := 27) hx hb d_M_isUnder_23 (by decide) ?_
      exact W.zret (v := 1) hx hb hr (mr_narz mr_b1) (fun t ht _ => ⟨_, rfl, by unfold mv_M_isUnder; rw [if_neg c_1, if_pos c_2], ht⟩) (fun _ h => nomatch h) d_M_isUnder_27
    · refine lv_iload_n hx hb d_M_isUnder_13 rfl (lv_at hl 0 rfl) ?_
      refine lv_sipush (v := 10000) hx hb d_M_isUnder_14 (by decide) ?_
      refine lv_idiv hx hb d_M_isUnder_17 (by decide) ?_
      refine lv_iload_n hx hb d_M_isUnder_18 rfl (lv_at hl 1 rfl) ?_
      refine lv_icmp_ne (tgt := 26) hx hb d_M_isUnder_19 (by decide) (fun c_3 => ?_) (fun c_3 => ?_)
      · refine lv_iconst (v := 0) hx hb d_M_isUnder_26 (by decide) ?_
        exact W.zret (v := 0) hx hb hr (mr_narz mr_b0) (fun t ht _ => ⟨_, rfl, by unfold mv_M_isUnder; rw [if_neg c_1, if_neg c_2, if_neg c_3], ht⟩) (fun _ h => nomatch h) d_M_isUnder_27
      · refine lv_iconst (v := 1) hx hb d_M_isUnder_22 (by decide) ?_
        refine lv_goto (tgt := 27) hx hb d_M_isUnder_23 (by decide) ?_
        exact W.zret (v := 1) hx hb hr (mr_narz mr_b1) (fun t ht _ => ⟨_, rfl, by unfold mv_M_isUnder; rw [if_neg c_1, if_neg c_2, if_pos c_3], ht⟩) (fun _ h => nomatch h) d_M_isUnder_27
def mv_M_hasBit (a0 : Int32) (a1 : Int32) : Int32 := if ((mr_ushr a0 a1) &&& 1) = 0 then 0 else 1
theorem mv_M_hasBit_b (a0 : Int32) (a1 : Int32) : mr_b01 (mv_M_hasBit a0 a1) := (mr_bi mr_b0 mr_b1)
set_option maxHeartbeats 4000000 in
set_option maxRecDepth 100000 in
theorem mc_M_hasBit (l : Launch) (s0 : State) (a0 : Int32) (a1 : Int32) : Met l y_M_hasBit [Cond.code y_M_hasBit b_M_hasBit 2 (some .boolean)] ({ frames := 0, cells := 0, slots := 0, locals := 0 }) (va_Pc [.int a0, .int a1] (fun U => mr_B s0 U)) (vp_Si (fun r => r = mv_M_hasBit a0 a1)) 0 0 (fun _ => False) := by
  refine Met.ofW (cc := b_M_hasBit) (maxL := 2) (ret := (some .boolean)) (by decide) rfl ?_
  intro p e s m args below meth c s₁ B hml hv
  obtain ⟨rfl, hB⟩ := hv
  have hBH := hB.here
  have hx := B.exec
  have hb := B.bytes
  have hr := B.returns
  have hlocks := B.notSynchronized
  have hts : ∀ w ∈ lw_tbl, w.before [.int a0, .int a1].toArray s = true := hB.hts _
  have hown : s.vm.findClass "MeasureRows" = some m.cls := findClass_of_methodNamed B.named
  have hl := lv_entry ([.int a0, .int a1]) (n := 2) (Nat.le_of_ble_eq_true rfl)
  rw [lg_entry_eq]
  generalize (lg_sl ([.int a0, .int a1]) ++ List.replicate (2 - (lg_sl ([.int a0, .int a1])).length) Slot.unset).toArray = ls at hl ⊢
  have hl : lv_has ls 2 [(0, .int a0), (1, .int a1)] := hl
  refine lv_iload_n hx hb d_M_hasBit_0 rfl (lv_at hl 0 rfl) ?_
  refine lv_iload_n hx hb d_M_hasBit_1 rfl (lv_at hl 1 rfl) ?_
  refine lv_iushr (v := mr_ushr a0 a1) hx hb d_M_hasBit_2 rfl ?_
  refine lv_iconst (v := 1) hx hb d_M_hasBit_3 (by decide) ?_
  refine lv_iand hx hb d_M_hasBit_4 ?_
  refine lv_if_eq (tgt := 12) hx hb d_M_hasBit_5 (by decide) (fun c_1 => ?_) (fun c_1 => ?_)
  · refine lv_iconst (v := 0) hx hb d_M_hasBit_12 (by decide) ?_
    exact W.zret (v := 0) hx hb hr (mr_narz mr_b0) (fun t ht _ => ⟨_, rfl, by unfold mv_M_hasBit; rw [if_pos c_1], ht⟩) (fun _ h => nomatch h) d_M_hasBit_13
  · refine lv_iconst (v := 1) hx hb d_M_hasBit_8 (by decide) ?_
    refine lv_goto (tgt := 13) hx hb d_M_hasBit_9 (by decide) ?_
    exact W.zret (v := 1) hx hb hr (mr_narz mr_b1) (fun t ht _ => ⟨_, rfl, by unfold mv_M_hasBit; rw [if_neg c_1], ht⟩) (fun _ h => nomatch h) d_M_hasBit_13
def mv_D_in (a0 : Int32) (a1 : Int32) (a2 : Int32) : Int32 := if a0 < a1 then 0 else if a2 < a0 then 0 else 1
theorem mv_D_in_b (a0 : Int32) (a1 : Int32) (a2 : Int32) : mr_b01 (mv_D_in a0 a1 a2) := (mr_bi mr_b0 (mr_bi mr_b0 mr_b1))
set_option maxHeartbeats 4000000 in
set_option maxRecDepth 100000 in
theorem mc_D_in (l : Launch) (s0 : State) (a0 : Int32) (a1 : Int32) (a2 : Int32) : Met l y_D_in [Cond.code y_D_in b_D_in 3 (some .boolean)] ({ frames := 0, cells := 0, slots := 0, locals := 0 }) (va_Pc [.int a0, .int a1, .int a2] (fun U => mr_B s0 U)) (vp_Si (fun r => r = mv_D_in a0 a1 a2)) 0 0 (fun _ => False) := by
  refine Met.ofW (cc := b_D_in) (maxL := 3) (ret := (some .boolean)) (by decide) rfl ?_
  intro p e s m args below meth c s₁ B hml hv
  obtain ⟨rfl, hB⟩ := hv
  have hBH := hB.here
  have hx := B.exec
  have hb := B.bytes
  have hr := B.returns
  have hlocks := B.notSynchronized
  have hts : ∀ w ∈ lw_tbl, w.before [.int a0, .int a1, .int a2].toArray s = true := hB.hts _
  have hown : s.vm.findClass "MeasureRowsModel" = some m.cls := findClass_of_methodNamed B.named
  have hl := lv_entry ([.int a0, .int a1, .int a2]) (n := 3) (Nat.le_of_ble_eq_true rfl)
  rw [lg_entry_eq]
  generalize (lg_sl ([.int a0, .int a1, .int a2]) ++ List.replicate (3 - (lg_sl ([.int a0, .int a1, .int a2])).length) Slot.unset).toArray = ls at hl ⊢
  have hl : lv_has ls 3 [(0, .int a0), (1, .int a1), (2, .int a2)] := hl
  refine lv_iload_n hx hb d_D_in_0 rfl (lv_at hl 0 rfl) ?_
  refine lv_iload_n hx hb d_D_in_1 rfl (lv_at hl 1 rfl) ?_
  refine lv_icmp_lt (tgt := 14) hx hb d_D_in_2 (by decide) (fun c_1 => ?_) (fun c_1 => ?_)
  · refine lv_iconst (v := 0) hx hb d_D_in_14 (by decide) ?_
    exact W.zret (v := 0) hx hb hr (mr_narz mr_b0) (fun t ht _ => ⟨_, rfl, by unfold mv_D_in; rw [if_pos c_1], ht⟩) (fun _ h => nomatch h) d_D_in_15
  · refine lv_iload_n hx hb d_D_in_5 rfl (lv_at hl 0 rfl) ?_
    refine lv_iload_n hx hb d_D_in_6 rfl (lv_at hl 2 rfl) ?_
    refine lv_icmp_gt (tgt := 14) hx hb d_D_in_7 (by decide) (fun c_2 => ?_) (fun c_2 => ?_)
    · refine lv_iconst (v := 0) hx hb d_D_in_14 (by decide) ?_
      exact W.zret (v := 0) hx hb hr (mr_narz mr_b0) (fun t ht _ => ⟨_, rfl, by unfold mv_D_in; rw [if_neg c_1, if_pos c_2], ht⟩) (fun _ h => nomatch h) d_D_in_15
    · refine lv_iconst (v := 1) hx hb d_D_in_10 (by decide) ?_
      refine lv_goto (tgt := 15) hx hb d_D_in_11 (by decide) ?_
      exact W.zret (v := 1) hx hb hr (mr_narz mr_b1) (fun t ht _ => ⟨_, rfl, by unfold mv_D_in; rw [if_neg c_1, if_neg c_2], ht⟩) (fun _ h => nomatch h) d_D_in_15
def mv_D_isGroup (a0 : Int32) : Int32 := (mv_D_in a0 16 23)
theorem mv_D_isGroup_b (a0 : Int32) : mr_b01 (mv_D_isGroup a0) := (mv_D_in_b a0 16 23)
set_option maxHeartbeats 4000000 in
set_option maxRecDepth 100000 in
theorem mc_D_isGroup (l : Launch) (s0 : State) (a0 : Int32) : Met l y_D_isGroup [Cond.code y_D_isGroup b_D_isGroup 1 (some .boolean)] ({ frames := 1, cells := 0, slots := 0, locals := 22 }) (va_Pc [.int a0] (fun U => mr_B s0 U)) (vp_Si (fun r => r = mv_D_isGroup a0)) 0 0 (fun _ => False) := by
  refine Met.ofW (cc := b_D_isGroup) (maxL := 1) (ret := (some .boolean)) (by decide) rfl ?_
  intro p e s m args below meth c s₁ B hml hv
  obtain ⟨rfl, hB⟩ := hv
  have hBH := hB.here
  have hx := B.exec
  have hb := B.bytes
  have hr := B.returns
  have hlocks := B.notSynchronized
  have hts : ∀ w ∈ lw_tbl, w.before [.int a0].toArray s = true := hB.hts _
  have hown : s.vm.findClass "MeasureRowsModel" = some m.cls := findClass_of_methodNamed B.named
  have hl := lv_entry ([.int a0]) (n := 1) (Nat.le_of_ble_eq_true rfl)
  rw [lg_entry_eq]
  generalize (lg_sl ([.int a0]) ++ List.replicate (1 - (lg_sl ([.int a0])).length) Slot.unset).toArray = ls at hl ⊢
  have hl : lv_has ls 1 [(0, .int a0)] := hl
  refine lv_iload_n hx hb d_D_isGroup_0 rfl (lv_at hl 0 rfl) ?_
  refine lv_bipush (v := 16) hx hb d_D_isGroup_1 (by decide) ?_
  refine lv_bipush (v := 23) hx hb d_D_isGroup_3 (by decide) ?_
  refine vp_callSi (va_Run.run (va_runS (As := [.int a0, .int 16, .int 23]) (rest := []) ⟨hx, hb, hml, hown, hts⟩ (mc_D_in l s0 a0 16 23) ⟨(mr_cB 3 (hts (Cond.code y_D_in b_D_in 3 (some .boolean)) mw_15) (hts (Cond.initialized y_D_in.cls) mw_16) (hts (Cond.methodLink "MeasureRowsModel" 57 y_D_in) mw_17) rfl rfl (by decide +kernel) ⟨Nat.le_of_ble_eq_true rfl, Nat.le_of_ble_eq_true rfl⟩), (hts (Cond.static y_D_in) mw_18)⟩ (mr_pre0 hBH) rfl rfl hl.1 rfl (lv_room (Nat.le_of_ble_eq_true rfl)) d_D_isGroup_5 ⟨Nat.le_of_ble_eq_true rfl, Nat.le_of_ble_eq_true rfl⟩)) (fun r_1 h_2 => ?_)
  subst h_2
  exact W.zret (v := mv_D_in a0 16 23) hx hb hr (mr_narz (mv_D_in_b a0 16 23)) (fun t ht _ => ⟨_, rfl, rfl, ht⟩) (fun _ h => nomatch h) d_D_isGroup_8
def mv_D_isLand (a0 : Int32) : Int32 := (mv_D_in a0 0 15)
theorem mv_D_isLand_b (a0 : Int32) : mr_b01 (mv_D_isLand a0) := (mv_D_in_b a0 0 15)
set_option maxHeartbeats 4000000 in
set_option maxRecDepth 100000 in
theorem mc_D_isLand (l : Launch) (s0 : State) (a0 : Int32) : Met l y_D_isLand [Cond.code y_D_isLand b_D_isLand 1 (some .boolean)] ({ frames := 1, cells := 0, slots := 0, locals := 22 }) (va_Pc [.int a0] (fun U => mr_B s0 U)) (vp_Si (fun r => r = mv_D_isLand a0)) 0 0 (fun _ => False) := by
  refine Met.ofW (cc := b_D_isLand) (maxL := 1) (ret := (some .boolean)) (by decide) rfl ?_
  intro p e s m args below meth c s₁ B hml hv
  obtain ⟨rfl, hB⟩ := hv
  have hBH := hB.here
  have hx := B.exec
  have hb := B.bytes
  have hr := B.returns
  have hlocks := B.notSynchronized
  have hts : ∀ w ∈ lw_tbl, w.before [.int a0].toArray s = true := hB.hts _
  have hown : s.vm.findClass "MeasureRowsModel" = some m.cls := findClass_of_methodNamed B.named
  have hl := lv_entry ([.int a0]) (n := 1) (Nat.le_of_ble_eq_true rfl)
  rw [lg_entry_eq]
  generalize (lg_sl ([.int a0]) ++ List.replicate (1 - (lg_sl ([.int a0])).length) Slot.unset).toArray = ls at hl ⊢
  have hl : lv_has ls 1 [(0, .int a0)] := hl
  refine lv_iload_n hx hb d_D_isLand_0 rfl (lv_at hl 0 rfl) ?_
  refine lv_iconst (v := 0) hx hb d_D_isLand_1 (by decide) ?_
  refine lv_bipush (v := 15) hx hb d_D_isLand_2 (by decide) ?_
  refine vp_callSi (va_Run.run (va_runS (As := [.int a0, .int 0, .int 15]) (rest := []) ⟨hx, hb, hml, hown, hts⟩ (mc_D_in l s0 a0 0 15) ⟨(mr_cB 3 (hts (Cond.code y_D_in b_D_in 3 (some .boolean)) mw_15) (hts (Cond.initialized y_D_in.cls) mw_16) (hts (Cond.methodLink "MeasureRowsModel" 57 y_D_in) mw_17) rfl rfl (by decide +kernel) ⟨Nat.le_of_ble_eq_true rfl, Nat.le_of_ble_eq_true rfl⟩), (hts (Cond.static y_D_in) mw_18)⟩ (mr_pre0 hBH) rfl rfl hl.1 rfl (lv_room (Nat.le_of_ble_eq_true rfl)) d_D_isLand_4 ⟨Nat.le_of_ble_eq_true rfl, Nat.le_of_ble_eq_true rfl⟩)) (fun r_1 h_2 => ?_)
  subst h_2
  exact W.zret (v := mv_D_in a0 0 15) hx hb hr (mr_narz (mv_D_in_b a0 0 15)) (fun t ht _ => ⟨_, rfl, rfl, ht⟩) (fun _ h => nomatch h) d_D_isLand_7
def mv_D_isDay (a0 : Int32) : Int32 := (mv_D_in a0 0 10000)
theorem mv_D_isDay_b (a0 : Int32) : mr_b01 (mv_D_isDay a0) := (mv_D_in_b a0 0 10000)
set_option maxHeartbeats 4000000 in
set_option maxRecDepth 100000 in
theorem mc_D_isDay (l : Launch) (s0 : State) (a0 : Int32) : Met l y_D_isDay [Cond.code y_D_isDay b_D_isDay 1 (some .boolean)] ({ frames := 1, cells := 0, slots := 0, locals := 22 }) (va_Pc [.int a0] (fun U => mr_B s0 U)) (vp_Si (fun r => r = mv_D_isDay a0)) 0 0 (fun _ => False) := by
  refine Met.ofW (cc := b_D_isDay) (maxL := 1) (ret := (some .boolean)) (by decide) rfl ?_
  intro p e s m args below meth c s₁ B hml hv
  obtain ⟨rfl, hB⟩ := hv
  have hBH := hB.here
  have hx := B.exec
  have hb := B.bytes
  have hr := B.returns
  have hlocks := B.notSynchronized
  have hts : ∀ w ∈ lw_tbl, w.before [.int a0].toArray s = true := hB.hts _
  have hown : s.vm.findClass "MeasureRowsModel" = some m.cls := findClass_of_methodNamed B.named
  have hl := lv_entry ([.int a0]) (n := 1) (Nat.le_of_ble_eq_true rfl)
  rw [lg_entry_eq]
  generalize (lg_sl ([.int a0]) ++ List.replicate (1 - (lg_sl ([.int a0])).length) Slot.unset).toArray = ls at hl ⊢
  have hl : lv_has ls 1 [(0, .int a0)] := hl
  refine lv_iload_n hx hb d_D_isDay_0 rfl (lv_at hl 0 rfl) ?_
  refine lv_iconst (v := 0) hx hb d_D_isDay_1 (by decide) ?_
  refine lv_sipush (v := 10000) hx hb d_D_isDay_2 (by decide) ?_
  refine vp_callSi (va_Run.run (va_runS (As := [.int a0, .int 0, .int 10000]) (rest := []) ⟨hx, hb, hml, hown, hts⟩ (mc_D_in l s0 a0 0 10000) ⟨(mr_cB 3 (hts (Cond.code y_D_in b_D_in 3 (some .boolean)) mw_15) (hts (Cond.initialized y_D_in.cls) mw_16) (hts (Cond.methodLink "MeasureRowsModel" 57 y_D_in) mw_17) rfl rfl (by decide +kernel) ⟨Nat.le_of_ble_eq_true rfl, Nat.le_of_ble_eq_true rfl⟩), (hts (Cond.static y_D_in) mw_18)⟩ (mr_pre0 hBH) rfl rfl hl.1 rfl (lv_room (Nat.le_of_ble_eq_true rfl)) d_D_isDay_5 ⟨Nat.le_of_ble_eq_true rfl, Nat.le_of_ble_eq_true rfl⟩)) (fun r_1 h_2 => ?_)
  subst h_2
  exact W.zret (v := mv_D_in a0 0 10000) hx hb hr (mr_narz (mv_D_in_b a0 0 10000)) (fun t ht _ => ⟨_, rfl, rfl, ht⟩) (fun _ h => nomatch h) d_D_isDay_8
def mv_D_digits (a0 : Int32) : Int32 := if (mv_D_in a0 10 99) = 0 then (if (mv_D_in a0 1000 9999) = 0 then (if (mv_D_in a0 100000 999999) = 0 then 0 else 6) else 4) else 2
set_option maxHeartbeats 4000000 in
set_option maxRecDepth 100000 in
theorem mc_D_digits (l : Launch) (s0 : State) (a0 : Int32) : Met l y_D_digits [Cond.code y_D_digits b_D_digits 1 (some .int)] ({ frames := 1, cells := 0, slots := 0, locals := 22 }) (va_Pc [.int a0] (fun U => mr_B s0 U)) (vp_Si (fun r => r = mv_D_digits a0)) 0 0 (fun _ => False) := by
  refine Met.ofW (cc := b_D_digits) (maxL := 1) (ret := (some .int)) (by decide) rfl ?_
  intro p e s m args below meth c s₁ B hml hv
  obtain ⟨rfl, hB⟩ := hv
  have hBH := hB.here
  have hx := B.exec
  have hb := B.bytes
  have hr := B.returns
  have hlocks := B.notSynchronized
  have hts : ∀ w ∈ lw_tbl, w.before [.int a0].toArray s = true := hB.hts _
  have hown : s.vm.findClass "MeasureRowsModel" = some m.cls := findClass_of_methodNamed B.named
  have hl := lv_entry ([.int a0]) (n := 1) (Nat.le_of_ble_eq_true rfl)
  rw [lg_entry_eq]
  generalize (lg_sl ([.int a0]) ++ List.replicate (1 - (lg_sl ([.int a0])).length) Slot.unset).toArray = ls at hl ⊢
  have hl : lv_has ls 1 [(0, .int a0)] := hl
  refine lv_iload_n hx hb d_D_digits_0 rfl (lv_at hl 0 rfl) ?_
  refine lv_bipush (v := 10) hx hb d_D_digits_1 (by decide) ?_
  refine lv_bipush (v := 99) hx hb d_D_digits_3 (by decide) ?_
  refine vp_callSi (va_Run.run (va_runS (As := [.int a0, .int 10, .int 99]) (rest := []) ⟨hx, hb, hml, hown, hts⟩ (mc_D_in l s0 a0 10 99) ⟨(mr_cB 3 (hts (Cond.code y_D_in b_D_in 3 (some .boolean)) mw_15) (hts (Cond.initialized y_D_in.cls) mw_16) (hts (Cond.methodLink "MeasureRowsModel" 57 y_D_in) mw_17) rfl rfl (by decide +kernel) ⟨Nat.le_of_ble_eq_true rfl, Nat.le_of_ble_eq_true rfl⟩), (hts (Cond.static y_D_in) mw_18)⟩ (mr_pre0 hBH) rfl rfl hl.1 rfl (lv_room (Nat.le_of_ble_eq_true rfl)) d_D_digits_5 ⟨Nat.le_of_ble_eq_true rfl, Nat.le_of_ble_eq_true rfl⟩)) (fun r_1 h_2 => ?_)
  subst h_2
  refine lv_if_eq (tgt := 15) hx hb d_D_digits_8 (by decide) (fun c_3 => ?_) (fun c_3 => ?_)
  · refine lv_iload_n hx hb d_D_digits_15 rfl (lv_at hl 0 rfl) ?_
    refine lv_sipush (v := 1000) hx hb d_D_digits_16 (by decide) ?_
    refine lv_sipush (v := 9999) hx hb d_D_digits_19 (by decide) ?_
    refine vp_callSi (va_Run.run (va_runS (As := [.int a0, .int 1000, .int 9999]) (rest := []) ⟨hx, hb, hml, hown, hts⟩ (mc_D_in l s0 a0 1000 9999) ⟨(mr_cB 3 (hts (Cond.code y_D_in b_D_in 3 (some .boolean)) mw_15) (hts (Cond.initialized y_D_in.cls) mw_16) (hts (Cond.methodLink "MeasureRowsModel" 57 y_D_in) mw_17) rfl rfl (by decide +kernel) ⟨Nat.le_of_ble_eq_true rfl, Nat.le_of_ble_eq_true rfl⟩), (hts (Cond.static y_D_in) mw_18)⟩ (mr_pre0 hBH) rfl rfl hl.1 rfl (lv_room (Nat.le_of_ble_eq_true rfl)) d_D_digits_22 ⟨Nat.le_of_ble_eq_true rfl, Nat.le_of_ble_eq_true rfl⟩)) (fun r_4 h_5 => ?_)
    subst h_5
    refine lv_if_eq (tgt := 32) hx hb d_D_digits_25 (by decide) (fun c_6 => ?_) (fun c_6 => ?_)
    · refine lv_iload_n hx hb d_D_digits_32 rfl (lv_at hl 0 rfl) ?_
      refine lv_ldc (v := 100000) hx hb hown (hts (Cond.constant "MeasureRowsModel" 61 100000) mw_19) d_D_digits_33 ?_
      refine lv_ldc (v := 999999) hx hb hown (hts (Cond.constant "MeasureRowsModel" 62 999999) mw_20) d_D_digits_35 ?_
      refine vp_callSi (va_Run.run (va_runS (As := [.int a0, .int 100000, .int 999999]) (rest := []) ⟨hx, hb, hml, hown, hts⟩ (mc_D_in l s0 a0 100000 999999) ⟨(mr_cB 3 (hts (Cond.code y_D_in b_D_in 3 (some .boolean)) mw_15) (hts (Cond.initialized y_D_in.cls) mw_16) (hts (Cond.methodLink "MeasureRowsModel" 57 y_D_in) mw_17) rfl rfl (by decide +kernel) ⟨Nat.le_of_ble_eq_true rfl, Nat.le_of_ble_eq_true rfl⟩), (hts (Cond.static y_D_in) mw_18)⟩ (mr_pre0 hBH) rfl rfl hl.1 rfl (lv_room (Nat.le_of_ble_eq_true rfl)) d_D_digits_37 ⟨Nat.le_of_ble_eq_true rfl, Nat.le_of_ble_eq_true rfl⟩)) (fun r_7 h_8 => ?_)
      subst h_8
      refine lv_if_eq (tgt := 48) hx hb d_D_digits_40 (by decide) (fun c_9 => ?_) (fun c_9 => ?_)
      · refine lv_iconst (v := 0) hx hb d_D_digits_48 (by decide) ?_
        exact W.iret (v := 0) hx hb hr (fun t ht _ => ⟨_, rfl, by unfold mv_D_digits; rw [if_pos c_3, if_pos c_6, if_pos c_9], ht⟩) (fun _ h => nomatch h) d_D_digits_49
      · refine lv_bipush (v := 6) hx hb d_D_digits_43 (by decide) ?_
        refine lv_goto (tgt := 49) hx hb d_D_digits_45 (by decide) ?_
        exact W.iret (v := 6) hx hb hr (fun t ht _ => ⟨_, rfl, by unfold mv_D_digits; rw [if_pos c_3, if_pos c_6, if_neg c_9], ht⟩) (fun _ h => nomatch h) d_D_digits_49
    · refine lv_iconst (v := 4) hx hb d_D_digits_28 (by decide) ?_
      refine lv_goto (tgt := 49) hx hb d_D_digits_29 (by decide) ?_
      exact W.iret (v := 4) hx hb hr (fun t ht _ => ⟨_, rfl, by unfold mv_D_digits; rw [if_pos c_3, if_neg c_6], ht⟩) (fun _ h => nomatch h) d_D_digits_49
  · refine lv_iconst (v := 2) hx hb d_D_digits_11 (by decide) ?_
    refine lv_goto (tgt := 49) hx hb d_D_digits_12 (by decide) ?_
    exact W.iret (v := 2) hx hb hr (fun t ht _ => ⟨_, rfl, by unfold mv_D_digits; rw [if_neg c_3], ht⟩) (fun _ h => nomatch h) d_D_digits_49
def mv_I_bitCount (a0 : Int32) : Int32 := ((((((((a0 - ((mr_ushr a0 1) &&& 1431655765)) &&& 858993459) + ((mr_ushr (a0 - ((mr_ushr a0 1) &&& 1431655765)) 2) &&& 858993459)) + (mr_ushr (((a0 - ((mr_ushr a0 1) &&& 1431655765)) &&& 858993459) + ((mr_ushr (a0 - ((mr_ushr a0 1) &&& 1431655765)) 2) &&& 858993459)) 4)) &&& 252645135) + (mr_ushr (((((a0 - ((mr_ushr a0 1) &&& 1431655765)) &&& 858993459) + ((mr_ushr (a0 - ((mr_ushr a0 1) &&& 1431655765)) 2) &&& 858993459)) + (mr_ushr (((a0 - ((mr_ushr a0 1) &&& 1431655765)) &&& 858993459) + ((mr_ushr (a0 - ((mr_ushr a0 1) &&& 1431655765)) 2) &&& 858993459)) 4)) &&& 252645135) 8)) + (mr_ushr ((((((a0 - ((mr_ushr a0 1) &&& 1431655765)) &&& 858993459) + ((mr_ushr (a0 - ((mr_ushr a0 1) &&& 1431655765)) 2) &&& 858993459)) + (mr_ushr (((a0 - ((mr_ushr a0 1) &&& 1431655765)) &&& 858993459) + ((mr_ushr (a0 - ((mr_ushr a0 1) &&& 1431655765)) 2) &&& 858993459)) 4)) &&& 252645135) + (mr_ushr (((((a0 - ((mr_ushr a0 1) &&& 1431655765)) &&& 858993459) + ((mr_ushr (a0 - ((mr_ushr a0 1) &&& 1431655765)) 2) &&& 858993459)) + (mr_ushr (((a0 - ((mr_ushr a0 1) &&& 1431655765)) &&& 858993459) + ((mr_ushr (a0 - ((mr_ushr a0 1) &&& 1431655765)) 2) &&& 858993459)) 4)) &&& 252645135) 8)) 16)) &&& 63)
set_option maxHeartbeats 4000000 in
set_option maxRecDepth 100000 in
theorem mc_I_bitCount (l : Launch) (s0 : State) (a0 : Int32) : Met l y_I_bitCount [Cond.code y_I_bitCount b_I_bitCount 1 (some .int)] ({ frames := 0, cells := 0, slots := 0, locals := 0 }) (va_Pc [.int a0] (fun U => mr_B s0 U)) (vp_Si (fun r => r = mv_I_bitCount a0)) 0 0 (fun _ => False) := by
  refine Met.ofW (cc := b_I_bitCount) (maxL := 1) (ret := (some .int)) (by decide) rfl ?_
  intro p e s m args below meth c s₁ B hml hv
  obtain ⟨rfl, hB⟩ := hv
  have hBH := hB.here
  have hx := B.exec
  have hb := B.bytes
  have hr := B.returns
  have hlocks := B.notSynchronized
  have hts : ∀ w ∈ lw_tbl, w.before [.int a0].toArray s = true := hB.hts _
  have hown : s.vm.findClass "java/lang/Integer" = some m.cls := findClass_of_methodNamed B.named
  have hl := lv_entry ([.int a0]) (n := 1) (Nat.le_of_ble_eq_true rfl)
  rw [lg_entry_eq]
  generalize (lg_sl ([.int a0]) ++ List.replicate (1 - (lg_sl ([.int a0])).length) Slot.unset).toArray = ls at hl ⊢
  have hl : lv_has ls 1 [(0, .int a0)] := hl
  refine lv_iload_n hx hb d_I_bitCount_0 rfl (lv_at hl 0 rfl) ?_
  refine lv_iload_n hx hb d_I_bitCount_1 rfl (lv_at hl 0 rfl) ?_
  refine lv_iconst (v := 1) hx hb d_I_bitCount_2 (by decide) ?_
  refine lv_iushr (v := mr_ushr a0 1) hx hb d_I_bitCount_3 rfl ?_
  refine lv_ldcw (v := 1431655765) hx hb hown (hts (Cond.constant "java/lang/Integer" 265 1431655765) mw_21) d_I_bitCount_4 ?_
  refine lv_iand hx hb d_I_bitCount_7 ?_
  refine lv_isub hx hb d_I_bitCount_8 ?_
  refine lv_istore_n (lv' := [(0, .int (a0 - ((mr_ushr a0 1) &&& 1431655765)))]) hx hb d_I_bitCount_9 rfl hl (by decide) rfl (fun ls hl => ?_)
  refine lv_iload_n hx hb d_I_bitCount_10 rfl (lv_at hl 0 rfl) ?_
  refine lv_ldcw (v := 858993459) hx hb hown (hts (Cond.constant "java/lang/Integer" 266 858993459) mw_22) d_I_bitCount_11 ?_
  refine lv_iand hx hb d_I_bitCount_14 ?_
  refine lv_iload_n hx hb d_I_bitCount_15 rfl (lv_at hl 0 rfl) ?_
  refine lv_iconst (v := 2) hx hb d_I_bitCount_16 (by decide) ?_
  refine lv_iushr (v := mr_ushr (a0 - ((mr_ushr a0 1) &&& 1431655765)) 2) hx hb d_I_bitCount_17 rfl ?_
  refine lv_ldcw (v := 858993459) hx hb hown (hts (Cond.constant "java/lang/Integer" 266 858993459) mw_22) d_I_bitCount_18 ?_
  refine lv_iand hx hb d_I_bitCount_21 ?_
  refine lv_iadd hx hb d_I_bitCount_22 ?_
  refine lv_istore_n (lv' := [(0, .int (((a0 - ((mr_ushr a0 1) &&& 1431655765)) &&& 858993459) + ((mr_ushr (a0 - ((mr_ushr a0 1) &&& 1431655765)) 2) &&& 858993459)))]) hx hb d_I_bitCount_23 rfl hl (by decide) rfl (fun ls hl => ?_)
  refine lv_iload_n hx hb d_I_bitCount_24 rfl (lv_at hl 0 rfl) ?_
  refine lv_iload_n hx hb d_I_bitCount_25 rfl (lv_at hl 0 rfl) ?_
  refine lv_iconst (v := 4) hx hb d_I_bitCount_26 (by decide) ?_
  refine lv_iushr (v := mr_ushr (((a0 - ((mr_ushr a0 1) &&& 1431655765)) &&& 858993459) + ((mr_ushr (a0 - ((mr_ushr a0 1) &&& 1431655765)) 2) &&& 858993459)) 4) hx hb d_I_bitCount_27 rfl ?_
  refine lv_iadd hx hb d_I_bitCount_28 ?_
  refine lv_ldcw (v := 252645135) hx hb hown (hts (Cond.constant "java/lang/Integer" 267 252645135) mw_23) d_I_bitCount_29 ?_
  refine lv_iand hx hb d_I_bitCount_32 ?_
  refine lv_istore_n (lv' := [(0, .int (((((a0 - ((mr_ushr a0 1) &&& 1431655765)) &&& 858993459) + ((mr_ushr (a0 - ((mr_ushr a0 1) &&& 1431655765)) 2) &&& 858993459)) + (mr_ushr (((a0 - ((mr_ushr a0 1) &&& 1431655765)) &&& 858993459) + ((mr_ushr (a0 - ((mr_ushr a0 1) &&& 1431655765)) 2) &&& 858993459)) 4)) &&& 252645135))]) hx hb d_I_bitCount_33 rfl hl (by decide) rfl (fun ls hl => ?_)
  refine lv_iload_n hx hb d_I_bitCount_34 rfl (lv_at hl 0 rfl) ?_
  refine lv_iload_n hx hb d_I_bitCount_35 rfl (lv_at hl 0 rfl) ?_
  refine lv_bipush (v := 8) hx hb d_I_bitCount_36 (by decide) ?_
  refine lv_iushr (v := mr_ushr (((((a0 - ((mr_ushr a0 1) &&& 1431655765)) &&& 858993459) + ((mr_ushr (a0 - ((mr_ushr a0 1) &&& 1431655765)) 2) &&& 858993459)) + (mr_ushr (((a0 - ((mr_ushr a0 1) &&& 1431655765)) &&& 858993459) + ((mr_ushr (a0 - ((mr_ushr a0 1) &&& 1431655765)) 2) &&& 858993459)) 4)) &&& 252645135) 8) hx hb d_I_bitCount_38 rfl ?_
  refine lv_iadd hx hb d_I_bitCount_39 ?_
  refine lv_istore_n (lv' := [(0, .int ((((((a0 - ((mr_ushr a0 1) &&& 1431655765)) &&& 858993459) + ((mr_ushr (a0 - ((mr_ushr a0 1) &&& 1431655765)) 2) &&& 858993459)) + (mr_ushr (((a0 - ((mr_ushr a0 1) &&& 1431655765)) &&& 858993459) + ((mr_ushr (a0 - ((mr_ushr a0 1) &&& 1431655765)) 2) &&& 858993459)) 4)) &&& 252645135) + (mr_ushr (((((a0 - ((mr_ushr a0 1) &&& 1431655765)) &&& 858993459) + ((mr_ushr (a0 - ((mr_ushr a0 1) &&& 1431655765)) 2) &&& 858993459)) + (mr_ushr (((a0 - ((mr_ushr a0 1) &&& 1431655765)) &&& 858993459) + ((mr_ushr (a0 - ((mr_ushr a0 1) &&& 1431655765)) 2) &&& 858993459)) 4)) &&& 252645135) 8)))]) hx hb d_I_bitCount_40 rfl hl (by decide) rfl (fun ls hl => ?_)
  refine lv_iload_n hx hb d_I_bitCount_41 rfl (lv_at hl 0 rfl) ?_
  refine lv_iload_n hx hb d_I_bitCount_42 rfl (lv_at hl 0 rfl) ?_
  refine lv_bipush (v := 16) hx hb d_I_bitCount_43 (by decide) ?_
  refine lv_iushr (v := mr_ushr ((((((a0 - ((mr_ushr a0 1) &&& 1431655765)) &&& 858993459) + ((mr_ushr (a0 - ((mr_ushr a0 1) &&& 1431655765)) 2) &&& 858993459)) + (mr_ushr (((a0 - ((mr_ushr a0 1) &&& 1431655765)) &&& 858993459) + ((mr_ushr (a0 - ((mr_ushr a0 1) &&& 1431655765)) 2) &&& 858993459)) 4)) &&& 252645135) + (mr_ushr (((((a0 - ((mr_ushr a0 1) &&& 1431655765)) &&& 858993459) + ((mr_ushr (a0 - ((mr_ushr a0 1) &&& 1431655765)) 2) &&& 858993459)) + (mr_ushr (((a0 - ((mr_ushr a0 1) &&& 1431655765)) &&& 858993459) + ((mr_ushr (a0 - ((mr_ushr a0 1) &&& 1431655765)) 2) &&& 858993459)) 4)) &&& 252645135) 8)) 16) hx hb d_I_bitCount_45 rfl ?_
  refine lv_iadd hx hb d_I_bitCount_46 ?_
  refine lv_istore_n (lv' := [(0, .int (((((((a0 - ((mr_ushr a0 1) &&& 1431655765)) &&& 858993459) + ((mr_ushr (a0 - ((mr_ushr a0 1) &&& 1431655765)) 2) &&& 858993459)) + (mr_ushr (((a0 - ((mr_ushr a0 1) &&& 1431655765)) &&& 858993459) + ((mr_ushr (a0 - ((mr_ushr a0 1) &&& 1431655765)) 2) &&& 858993459)) 4)) &&& 252645135) + (mr_ushr (((((a0 - ((mr_ushr a0 1) &&& 1431655765)) &&& 858993459) + ((mr_ushr (a0 - ((mr_ushr a0 1) &&& 1431655765)) 2) &&& 858993459)) + (mr_ushr (((a0 - ((mr_ushr a0 1) &&& 1431655765)) &&& 858993459) + ((mr_ushr (a0 - ((mr_ushr a0 1) &&& 1431655765)) 2) &&& 858993459)) 4)) &&& 252645135) 8)) + (mr_ushr ((((((a0 - ((mr_ushr a0 1) &&& 1431655765)) &&& 858993459) + ((mr_ushr (a0 - ((mr_ushr a0 1) &&& 1431655765)) 2) &&& 858993459)) + (mr_ushr (((a0 - ((mr_ushr a0 1) &&& 1431655765)) &&& 858993459) + ((mr_ushr (a0 - ((mr_ushr a0 1) &&& 1431655765)) 2) &&& 858993459)) 4)) &&& 252645135) + (mr_ushr (((((a0 - ((mr_ushr a0 1) &&& 1431655765)) &&& 858993459) + ((mr_ushr (a0 - ((mr_ushr a0 1) &&& 1431655765)) 2) &&& 858993459)) + (mr_ushr (((a0 - ((mr_ushr a0 1) &&& 1431655765)) &&& 858993459) + ((mr_ushr (a0 - ((mr_ushr a0 1) &&& 1431655765)) 2) &&& 858993459)) 4)) &&& 252645135) 8)) 16)))]) hx hb d_I_bitCount_47 rfl hl (by decide) rfl (fun ls hl => ?_)
  refine lv_iload_n hx hb d_I_bitCount_48 rfl (lv_at hl 0 rfl) ?_
  refine lv_bipush (v := 63) hx hb d_I_bitCount_49 (by decide) ?_
  refine lv_iand hx hb d_I_bitCount_51 ?_
  exact W.iret (v := (((((((a0 - ((mr_ushr a0 1) &&& 1431655765)) &&& 858993459) + ((mr_ushr (a0 - ((mr_ushr a0 1) &&& 1431655765)) 2) &&& 858993459)) + (mr_ushr (((a0 - ((mr_ushr a0 1) &&& 1431655765)) &&& 858993459) + ((mr_ushr (a0 - ((mr_ushr a0 1) &&& 1431655765)) 2) &&& 858993459)) 4)) &&& 252645135) + (mr_ushr (((((a0 - ((mr_ushr a0 1) &&& 1431655765)) &&& 858993459) + ((mr_ushr (a0 - ((mr_ushr a0 1) &&& 1431655765)) 2) &&& 858993459)) + (mr_ushr (((a0 - ((mr_ushr a0 1) &&& 1431655765)) &&& 858993459) + ((mr_ushr (a0 - ((mr_ushr a0 1) &&& 1431655765)) 2) &&& 858993459)) 4)) &&& 252645135) 8)) + (mr_ushr ((((((a0 - ((mr_ushr a0 1) &&& 1431655765)) &&& 858993459) + ((mr_ushr (a0 - ((mr_ushr a0 1) &&& 1431655765)) 2) &&& 858993459)) + (mr_ushr (((a0 - ((mr_ushr a0 1) &&& 1431655765)) &&& 858993459) + ((mr_ushr (a0 - ((mr_ushr a0 1) &&& 1431655765)) 2) &&& 858993459)) 4)) &&& 252645135) + (mr_ushr (((((a0 - ((mr_ushr a0 1) &&& 1431655765)) &&& 858993459) + ((mr_ushr (a0 - ((mr_ushr a0 1) &&& 1431655765)) 2) &&& 858993459)) + (mr_ushr (((a0 - ((mr_ushr a0 1) &&& 1431655765)) &&& 858993459) + ((mr_ushr (a0 - ((mr_ushr a0 1) &&& 1431655765)) 2) &&& 858993459)) 4)) &&& 252645135) 8)) 16)) &&& 63) hx hb hr (fun t ht _ => ⟨_, rfl, rfl, ht⟩) (fun _ h => nomatch h) d_I_bitCount_52
