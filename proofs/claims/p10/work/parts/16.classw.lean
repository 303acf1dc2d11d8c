def mv_M_member (fm fi : Nat → Int32) (a0 a1 : Int32) : Int32 := if mv_M_isGroup a0 = 0 then 0 else if mv_M_isLand a1 = 0 then (if mv_M_isGroup a1 = 0 then 0 else mv_G_join fm fi a0 a1) else mv_G_join fm fi a0 a1
def mv_M_memM (fm fi : Nat → Int32) (a0 a1 : Int32) : Nat → Int32 := if mv_M_isGroup a0 = 0 then fm else if mv_M_isLand a1 = 0 then (if mv_M_isGroup a1 = 0 then fm else mv_G_joinM fm fi a0 a1) else mv_G_joinM fm fi a0 a1
def mv_M_memI (fm fi : Nat → Int32) (a0 a1 : Int32) : Nat → Int32 := if mv_M_isGroup a0 = 0 then fi else if mv_M_isLand a1 = 0 then (if mv_M_isGroup a1 = 0 then fi else mv_G_joinI fm fi a0 a1) else mv_G_joinI fm fi a0 a1
theorem mw_81 : Cond.code y_G_join b_G_join 5 (some .boolean) ∈ lw_tbl := by decide +kernel
theorem mw_82 : Cond.initialized y_G_join.cls ∈ lw_tbl := by decide +kernel
theorem mw_83 : Cond.methodLink "MeasureRows" 52 y_G_join ∈ lw_tbl := by decide +kernel
theorem mw_84 : Cond.instanceMethod y_G_join ∈ lw_tbl := by decide +kernel
theorem mw_85 : Cond.selects "MeasureRows$Groups" y_G_join y_G_join ∈ lw_tbl := by decide +kernel
theorem mw_86 : Cond.constant "MeasureRows" 135 65535 ∈ lw_tbl := by decide +kernel
set_option maxHeartbeats 4000000 in
set_option maxRecDepth 100000 in
theorem mc_M_member (l : Launch) (s0 : State) (dC : Nat → ClassId) (dI : Nat → Nat → Nat) (cI cR cL cZ : ClassId) (r : Nat → Nat) (rc nw pb lc : Int32) (fm fi : Nat → Int32) (sz : Nat) (a0 : Int32) (a1 : Int32)  : Met l y_M_member [Cond.code y_M_member b_M_member 3 (some .boolean)] ({ frames := 4, cells := 0, slots := 0, locals := 87 }) (mr_PC s0 (dC, dI) [(cI, .int), (cR, .object "MeasureRows$Row"), (cL, .long), (cZ, .boolean)] [.ref (r 0), .int a0, .int a1] [((r 0), .inr (0, mf_M r rc nw pb lc)), ((r 1), .inr (1, [.ref (r 2), .ref (r 3)])), ((r 2), .inl (cI, 8, .inl fm)), ((r 3), .inl (cI, 8, .inl fi))] sz) (va_Qi (fun rr u => rr = mv_M_member fm fi a0 a1 ∧ u.1 = mv_M_memM fm fi a0 a1 ∧ u.2 = mv_M_memI fm fi a0 a1) (fun (u : (Nat → Int32) × (Nat → Int32)) t => mr_W (dC, dI) [(cI, .int), (cR, .object "MeasureRows$Row"), (cL, .long), (cZ, .boolean)] (va_A [((r 0), .inr (0, mf_M r rc nw pb lc)), ((r 1), .inr (1, [.ref (r 2), .ref (r 3)])), ((r 2), .inl (cI, 8, .inl fm)), ((r 3), .inl (cI, 8, .inl fi))] sz) [((r 0), .inr (0, mf_M r rc nw pb lc)), ((r 1), .inr (1, [.ref (r 2), .ref (r 3)])), ((r 2), .inl (cI, 8, .inl u.1)), ((r 3), .inl (cI, 8, .inl u.2))] t) (va_A [((r 0), .inr (0, mf_M r rc nw pb lc)), ((r 1), .inr (1, [.ref (r 2), .ref (r 3)])), ((r 2), .inl (cI, 8, .inl fm)), ((r 3), .inl (cI, 8, .inl fi))] sz)) 0 0 (va_A [((r 0), .inr (0, mf_M r rc nw pb lc)), ((r 1), .inr (1, [.ref (r 2), .ref (r 3)])), ((r 2), .inl (cI, 8, .inl fm)), ((r 3), .inl (cI, 8, .inl fi))] sz) := by
  refine Met.ofW (cc := b_M_member) (maxL := 3) (ret := (some .boolean)) (by decide) rfl ?_
  intro p e s m args below meth c s₁ B hml hv
  obtain ⟨rfl, hsz, hB, hK, hP, hD0⟩ := hv
  subst hsz
  have hA0 := mr_A hB hD0
  have hD := hD0.self (sz := s.heap.size)
  generalize hAe : va_A [((r 0), .inr (0, mf_M r rc nw pb lc)), ((r 1), .inr (1, [.ref (r 2), .ref (r 3)])), ((r 2), .inl (cI, 8, .inl fm)), ((r 3), .inl (cI, 8, .inl fi))] s.heap.size = A at hD hA0 ⊢
  have hA : ∀ q : Nat, s.heap.size ≤ q → A q := fun q h => by rw [← hAe]; exact Or.inr h
  have hS : va_S A s.heap s.heap [] := va_S.rf
  have hP : va_P (dC, dI) mr_cl [((r 0), .inr (0, mf_M r rc nw pb lc)), ((r 1), .inr (1, [.ref (r 2), .ref (r 3)])), ((r 2), .inl (cI, 8, .inl fm)), ((r 3), .inl (cI, 8, .inl fi))] s.heap := hP
  have hBH := hB.at hS hA0
  have hx := B.exec
  have hb := B.bytes
  have hr := B.returns
  have hlocks := B.notSynchronized
  have hts : ∀ w ∈ lw_tbl, w.before [.ref (r 0), .int a0, .int a1].toArray s = true := hB.hts _
  have hown : s.vm.findClass "MeasureRows" = some m.cls := findClass_of_methodNamed B.named
  have hl := lv_entry ([.ref (r 0), .int a0, .int a1]) (n := 3) (Nat.le_of_ble_eq_true rfl)
  rw [lg_entry_eq]
  generalize (lg_sl ([.ref (r 0), .int a0, .int a1]) ++ List.replicate (3 - (lg_sl ([.ref (r 0), .int a0, .int a1])).length) Slot.unset).toArray = ls at hl ⊢
  have hl : lv_has ls 3 [(0, .ref (r 0)), (1, .int a0), (2, .int a1)] := hl
  refine lv_iload_n hx hb d_M_member_0 rfl (lv_at hl 1 rfl) ?_
  refine vp_callSi (va_Run.run (va_runS (As := [.int a0]) (rest := []) ⟨hx, hb, hml, hown, hts⟩ (mc_M_isGroup l s0 a0) ⟨(mr_cB 1 (hts (Cond.code y_M_isGroup b_M_isGroup 1 (some .boolean)) mw_5) (hts (Cond.initialized y_M_isGroup.cls) mw_6) (hts (Cond.methodLink "MeasureRows" 45 y_M_isGroup) mw_7) rfl rfl (by decide +kernel) ⟨Nat.le_of_ble_eq_true rfl, Nat.le_of_ble_eq_true rfl⟩), (hts (Cond.static y_M_isGroup) mw_8)⟩ (mr_pre0 hBH) rfl rfl hl.1 rfl (lv_room (Nat.le_of_ble_eq_true rfl)) d_M_member_1 ⟨Nat.le_of_ble_eq_true rfl, Nat.le_of_ble_eq_true rfl⟩)) (fun r_1 h_2 => ?_)
  subst h_2
  refine lv_if_eq (tgt := 21) hx hb d_M_member_4 (by decide) (fun c_3 => ?_) (fun c_3 => ?_)
  · refine lv_iconst (v := 0) hx hb d_M_member_21 (by decide) ?_
    have hP9 := hP.sub (ws' := [((r 0), .inr (0, mf_M r rc nw pb lc)), ((r 1), .inr (1, [.ref (r 2), .ref (r 3)])), ((r 2), .inl (cI, 8, .inl fm)), ((r 3), .inl (cI, 8, .inl fi))]) [0, 1, 2, 3] rfl
    have hD9 := hD.sub (ws' := [((r 0), .inr (0, mf_M r rc nw pb lc)), ((r 1), .inr (1, [.ref (r 2), .ref (r 3)])), ((r 2), .inl (cI, 8, .inl fm)), ((r 3), .inl (cI, 8, .inl fi))]) [0, 1, 2, 3] (by decide) rfl
    exact W.zret (v := 0) hx hb hr (mr_narz mr_b0) (fun t ht hW => ⟨⟨_, (fm, fi), rfl, ⟨by unfold mv_M_member; rw [if_pos c_3], by unfold mv_M_memM; rw [if_pos c_3], by unfold mv_M_memI; rw [if_pos c_3]⟩, by rw [ht]; exact hP9, va_K.moved hW.alike hK, hD9⟩, hS.F ht⟩) hS.2.2 d_M_member_22
  · refine lv_iload_n hx hb d_M_member_7 rfl (lv_at hl 2 rfl) ?_
    refine vp_callSi (va_Run.run (va_runS (As := [.int a1]) (rest := []) ⟨hx, hb, hml, hown, hts⟩ (mc_M_isLand l s0 a1) ⟨(mr_cB 1 (hts (Cond.code y_M_isLand b_M_isLand 1 (some .boolean)) mw_1) (hts (Cond.initialized y_M_isLand.cls) mw_2) (hts (Cond.methodLink "MeasureRows" 49 y_M_isLand) mw_3) rfl rfl (by decide +kernel) ⟨Nat.le_of_ble_eq_true rfl, Nat.le_of_ble_eq_true rfl⟩), (hts (Cond.static y_M_isLand) mw_4)⟩ (mr_pre0 hBH) rfl rfl hl.1 rfl (lv_room (Nat.le_of_ble_eq_true rfl)) d_M_member_8 ⟨Nat.le_of_ble_eq_true rfl, Nat.le_of_ble_eq_true rfl⟩)) (fun r_4 h_5 => ?_)
    subst h_5
    refine lv_if_ne (tgt := 23) hx hb d_M_member_11 (by decide) (fun c_6 => ?_) (fun c_6 => ?_)
    · refine lv_aload_n hx hb d_M_member_23 rfl (lv_at hl 0 rfl) ?_
      refine va_get (D := (dC, dI)) (ci := 0) (v := .ref (r 1)) (C := R_M) (T := T_M) (N := 9) hx hb hts ti_M hown hK hP 0 rfl rfl 0 (by decide) (hts (Cond.fieldLink "MeasureRows" 10 "MeasureRows" "groups" "LMeasureRows$Groups;") mw_53) (fun _ h9 => h9) rfl d_M_member_24 ?_
      refine lv_iload_n hx hb d_M_member_27 rfl (lv_at hl 1 rfl) ?_
      refine lv_iload_n hx hb d_M_member_28 rfl (lv_at hl 2 rfl) ?_
      have hPc := hP.sub (ws' := [((r 1), .inr (1, [.ref (r 2), .ref (r 3)])), ((r 2), .inl (cI, 8, .inl fm)), ((r 3), .inl (cI, 8, .inl fi))]) [1, 2, 3] rfl
      have hDc := hD.sub (ws' := [((r 1), .inr (1, [.ref (r 2), .ref (r 3)])), ((r 2), .inl (cI, 8, .inl fm)), ((r 3), .inl (cI, 8, .inl fi))]) [1, 2, 3] (by decide) rfl
      have hFc := va_free (wc := [((r 1), .inr (1, [.ref (r 2), .ref (r 3)])), ((r 2), .inl (cI, 8, .inl fm)), ((r 3), .inl (cI, 8, .inl fi))]) hD hS hA [1, 2, 3] rfl
      refine va_calli (va_runV (As := [.int a0, .int a1]) (rest := []) (C := R_G) ⟨hx, hb, hml, hown, hts⟩ (mc_G_join l s0 dC dI cI cR cL cZ (r 1) (r 2) (r 3) fm fi _ a0 a1) ⟨(mr_cB 2 (hts (Cond.code y_G_join b_G_join 5 (some .boolean)) mw_81) (hts (Cond.initialized y_G_join.cls) mw_82) (hts (Cond.methodLink "MeasureRows" 52 y_G_join) mw_83) rfl rfl (by decide +kernel) ⟨Nat.le_of_ble_eq_true rfl, Nat.le_of_ble_eq_true rfl⟩), (hts (Cond.instanceMethod y_G_join) mw_84), (hts (Cond.selects "MeasureRows$Groups" y_G_join y_G_join) mw_85)⟩ (mr_preCV hBH hK hPc (hDc.weaken (fun _ _ _ h => hA0 _ h)) (ci := 1) (q0 := 0) rfl rfl) rfl rfl hl.1 rfl (lv_room (Nat.le_of_ble_eq_true rfl)) d_M_member_29 ⟨Nat.le_of_ble_eq_true rfl, Nat.le_of_ble_eq_true rfl⟩) hS (fun q _ h => hFc q h) hFc (fun r_7 u_8 t H1 locs ht hvm hw hB1 hz1 hk1 hS => ?_)
      obtain ⟨fm_9, fi_10⟩ := u_8
      obtain ⟨hP1, hK1, hD1⟩ := hB1
      rw [ht] at hP1
      obtain ⟨hP, hD⟩ := va_join (wr := [((r 0), .inr (0, mf_M r rc nw pb lc))]) (w1 := [((r 1), .inr (1, [.ref (r 2), .ref (r 3)])), ((r 2), .inl (cI, 8, .inl fm_9)), ((r 3), .inl (cI, 8, .inl fi_10))]) hP hD [1, 2, 3] [0] rfl rfl (by decide) (by decide) hk1 hFc hP1 hD1
      clear hK1 hk1 hPc hDc hFc
      generalize H1 = H at hP hS ht ⊢
      have hP : va_P (dC, dI) mr_cl [((r 0), .inr (0, mf_M r rc nw pb lc)), ((r 1), .inr (1, [.ref (r 2), .ref (r 3)])), ((r 2), .inl (cI, 8, .inl fm_9)), ((r 3), .inl (cI, 8, .inl fi_10))] H := hP
      have hD : va_D A [((r 0), .inr (0, mf_M r rc nw pb lc)), ((r 1), .inr (1, [.ref (r 2), .ref (r 3)])), ((r 2), .inl (cI, 8, .inl fm_9)), ((r 3), .inl (cI, 8, .inl fi_10))] := hD
      have hBH := hB.at hS hA0
      have hP9 := hP.sub (ws' := [((r 0), .inr (0, mf_M r rc nw pb lc)), ((r 1), .inr (1, [.ref (r 2), .ref (r 3)])), ((r 2), .inl (cI, 8, .inl fm_9)), ((r 3), .inl (cI, 8, .inl fi_10))]) [0, 1, 2, 3] rfl
      have hD9 := hD.sub (ws' := [((r 0), .inr (0, mf_M r rc nw pb lc)), ((r 1), .inr (1, [.ref (r 2), .ref (r 3)])), ((r 2), .inl (cI, 8, .inl fm_9)), ((r 3), .inl (cI, 8, .inl fi_10))]) [0, 1, 2, 3] (by decide) rfl
      exact W.zret (v := r_7) hx hb hr (mr_narz (by rw [hw.1]; exact mv_G_join_b _ _ _ _)) (fun t ht hW => ⟨⟨_, (fm_9, fi_10), rfl, ⟨by unfold mv_M_member; rw [if_neg c_3, if_neg c_6, hw.1], by unfold mv_M_memM; rw [if_neg c_3, if_neg c_6]; exact hw.2.1, by unfold mv_M_memI; rw [if_neg c_3, if_neg c_6]; exact hw.2.2⟩, by rw [ht]; exact hP9, va_K.moved hW.alike hK, hD9⟩, hS.F ht⟩) hS.2.2 d_M_member_32
    · refine lv_iload_n hx hb d_M_member_14 rfl (lv_at hl 2 rfl) ?_
      refine vp_callSi (va_Run.run (va_runS (As := [.int a1]) (rest := []) ⟨hx, hb, hml, hown, hts⟩ (mc_M_isGroup l s0 a1) ⟨(mr_cB 1 (hts (Cond.code y_M_isGroup b_M_isGroup 1 (some .boolean)) mw_5) (hts (Cond.initialized y_M_isGroup.cls) mw_6) (hts (Cond.methodLink "MeasureRows" 45 y_M_isGroup) mw_7) rfl rfl (by decide +kernel) ⟨Nat.le_of_ble_eq_true rfl, Nat.le_of_ble_eq_true rfl⟩), (hts (Cond.static y_M_isGroup) mw_8)⟩ (mr_pre0 hBH) rfl rfl hl.1 rfl (lv_room (Nat.le_of_ble_eq_true rfl)) d_M_member_15 ⟨Nat.le_of_ble_eq_true rfl, Nat.le_of_ble_eq_true rfl⟩)) (fun r_11 h_12 => ?_)
      subst h_12
      refine lv_if_ne (tgt := 23) hx hb d_M_member_18 (by decide) (fun c_13 => ?_) (fun c_13 => ?_)
      · refine lv_aload_n hx hb d_M_member_23 rfl (lv_at hl 0 rfl) ?_
        refine va_get (D := (dC, dI)) (ci := 0) (v := .ref (r 1)) (C := R_M) (T := T_M) (N := 9) hx hb hts ti_M hown hK hP 0 rfl rfl 0 (by decide) (hts (Cond.fieldLink "MeasureRows" 10 "MeasureRows" "groups" "LMeasureRows$Groups;") mw_53) (fun _ h9 => h9) rfl d_M_member_24 ?_
        refine lv_iload_n hx hb d_M_member_27 rfl (lv_at hl 1 rfl) ?_
        refine lv_iload_n hx hb d_M_member_28 rfl (lv_at hl 2 rfl) ?_
        have hPc := hP.sub (ws' := [((r 1), .inr (1, [.ref (r 2), .ref (r 3)])), ((r 2), .inl (cI, 8, .inl fm)), ((r 3), .inl (cI, 8, .inl fi))]) [1, 2, 3] rfl
        have hDc := hD.sub (ws' := [((r 1), .inr (1, [.ref (r 2), .ref (r 3)])), ((r 2), .inl (cI, 8, .inl fm)), ((r 3), .inl (cI, 8, .inl fi))]) [1, 2, 3] (by decide) rfl
        have hFc := va_free (wc := [((r 1), .inr (1, [.ref (r 2), .ref (r 3)])), ((r 2), .inl (cI, 8, .inl fm)), ((r 3), .inl (cI, 8, .inl fi))]) hD hS hA [1, 2, 3] rfl
        refine va_calli (va_runV (As := [.int a0, .int a1]) (rest := []) (C := R_G) ⟨hx, hb, hml, hown, hts⟩ (mc_G_join l s0 dC dI cI cR cL cZ (r 1) (r 2) (r 3) fm fi _ a0 a1) ⟨(mr_cB 2 (hts (Cond.code y_G_join b_G_join 5 (some .boolean)) mw_81) (hts (Cond.initialized y_G_join.cls) mw_82) (hts (Cond.methodLink "MeasureRows" 52 y_G_join) mw_83) rfl rfl (by decide +kernel) ⟨Nat.le_of_ble_eq_true rfl, Nat.le_of_ble_eq_true rfl⟩), (hts (Cond.instanceMethod y_G_join) mw_84), (hts (Cond.selects "MeasureRows$Groups" y_G_join y_G_join) mw_85)⟩ (mr_preCV hBH hK hPc (hDc.weaken (fun _ _ _ h => hA0 _ h)) (ci := 1) (q0 := 0) rfl rfl) rfl rfl hl.1 rfl (lv_room (Nat.le_of_ble_eq_true rfl)) d_M_member_29 ⟨Nat.le_of_ble_eq_true rfl, Nat.le_of_ble_eq_true rfl⟩) hS (fun q _ h => hFc q h) hFc (fun r_14 u_15 t H1 locs ht hvm hw hB1 hz1 hk1 hS => ?_)
        obtain ⟨fm_16, fi_17⟩ := u_15
        obtain ⟨hP1, hK1, hD1⟩ := hB1
        rw [ht] at hP1
        obtain ⟨hP, hD⟩ := va_join (wr := [((r 0), .inr (0, mf_M r rc nw pb lc))]) (w1 := [((r 1), .inr (1, [.ref (r 2), .ref (r 3)])), ((r 2), .inl (cI, 8, .inl fm_16)), ((r 3), .inl (cI, 8, .inl fi_17))]) hP hD [1, 2, 3] [0] rfl rfl (by decide) (by decide) hk1 hFc hP1 hD1
        clear hK1 hk1 hPc hDc hFc
        generalize H1 = H at hP hS ht ⊢
        have hP : va_P (dC, dI) mr_cl [((r 0), .inr (0, mf_M r rc nw pb lc)), ((r 1), .inr (1, [.ref (r 2), .ref (r 3)])), ((r 2), .inl (cI, 8, .inl fm_16)), ((r 3), .inl (cI, 8, .inl fi_17))] H := hP
        have hD : va_D A [((r 0), .inr (0, mf_M r rc nw pb lc)), ((r 1), .inr (1, [.ref (r 2), .ref (r 3)])), ((r 2), .inl (cI, 8, .inl fm_16)), ((r 3), .inl (cI, 8, .inl fi_17))] := hD
        have hBH := hB.at hS hA0
        have hP9 := hP.sub (ws' := [((r 0), .inr (0, mf_M r rc nw pb lc)), ((r 1), .inr (1, [.ref (r 2), .ref (r 3)])), ((r 2), .inl (cI, 8, .inl fm_16)), ((r 3), .inl (cI, 8, .inl fi_17))]) [0, 1, 2, 3] rfl
        have hD9 := hD.sub (ws' := [((r 0), .inr (0, mf_M r rc nw pb lc)), ((r 1), .inr (1, [.ref (r 2), .ref (r 3)])), ((r 2), .inl (cI, 8, .inl fm_16)), ((r 3), .inl (cI, 8, .inl fi_17))]) [0, 1, 2, 3] (by decide) rfl
        exact W.zret (v := r_14) hx hb hr (mr_narz (by rw [hw.1]; exact mv_G_join_b _ _ _ _)) (fun t ht hW => ⟨⟨_, (fm_16, fi_17), rfl, ⟨by unfold mv_M_member; rw [if_neg c_3, if_pos c_6, if_neg c_13, hw.1], by unfold mv_M_memM; rw [if_neg c_3, if_pos c_6, if_neg c_13]; exact hw.2.1, by unfold mv_M_memI; rw [if_neg c_3, if_pos c_6, if_neg c_13]; exact hw.2.2⟩, by rw [ht]; exact hP9, va_K.moved hW.alike hK, hD9⟩, hS.F ht⟩) hS.2.2 d_M_member_32
      · refine lv_iconst (v := 0) hx hb d_M_member_21 (by decide) ?_
        have hP9 := hP.sub (ws' := [((r 0), .inr (0, mf_M r rc nw pb lc)), ((r 1), .inr (1, [.ref (r 2), .ref (r 3)])), ((r 2), .inl (cI, 8, .inl fm)), ((r 3), .inl (cI, 8, .inl fi))]) [0, 1, 2, 3] rfl
        have hD9 := hD.sub (ws' := [((r 0), .inr (0, mf_M r rc nw pb lc)), ((r 1), .inr (1, [.ref (r 2), .ref (r 3)])), ((r 2), .inl (cI, 8, .inl fm)), ((r 3), .inl (cI, 8, .inl fi))]) [0, 1, 2, 3] (by decide) rfl
        exact W.zret (v := 0) hx hb hr (mr_narz mr_b0) (fun t ht hW => ⟨⟨_, (fm, fi), rfl, ⟨by unfold mv_M_member; rw [if_neg c_3, if_pos c_6, if_pos c_13], by unfold mv_M_memM; rw [if_neg c_3, if_pos c_6, if_pos c_13], by unfold mv_M_memI; rw [if_neg c_3, if_pos c_6, if_pos c_13]⟩, by rw [ht]; exact hP9, va_K.moved hW.alike hK, hD9⟩, hS.F ht⟩) hS.2.2 d_M_member_22
set_option maxHeartbeats 4000000 in
set_option maxRecDepth 100000 in
theorem mc_M_papers (l : Launch) (s0 : State) (dC : Nat → ClassId) (dI : Nat → Nat → Nat) (cI cR cL cZ : ClassId) (r : Nat → Nat) (rc nw pb lc : Int32) (sz : Nat) (a0 : Int32)  : Met l y_M_papers [Cond.code y_M_papers b_M_papers 2 none] ({ frames := 0, cells := 0, slots := 0, locals := 0 }) (mr_PC s0 (dC, dI) [(cI, .int), (cR, .object "MeasureRows$Row"), (cL, .long), (cZ, .boolean)] [.ref (r 0), .int a0] [((r 0), .inr (0, mf_M r rc nw pb lc))] sz) (va_Qv (fun _ => True) (fun (u : Unit) t => mr_W (dC, dI) [(cI, .int), (cR, .object "MeasureRows$Row"), (cL, .long), (cZ, .boolean)] (va_A [((r 0), .inr (0, mf_M r rc nw pb lc))] sz) [((r 0), .inr (0, mf_M r rc nw (a0 &&& 65535) lc))] t) (va_A [((r 0), .inr (0, mf_M r rc nw pb lc))] sz)) 0 0 (va_A [((r 0), .inr (0, mf_M r rc nw pb lc))] sz) := by
  refine Met.ofW (cc := b_M_papers) (maxL := 2) (ret := none) (by decide) rfl ?_
  intro p e s m args below meth c s₁ B hml hv
  obtain ⟨rfl, hsz, hB, hK, hP, hD0⟩ := hv
  subst hsz
  have hA0 := mr_A hB hD0
  have hD := hD0.self (sz := s.heap.size)
  generalize hAe : va_A [((r 0), .inr (0, mf_M r rc nw pb lc))] s.heap.size = A at hD hA0 ⊢
  have hA : ∀ q : Nat, s.heap.size ≤ q → A q := fun q h => by rw [← hAe]; exact Or.inr h
  have hS : va_S A s.heap s.heap [] := va_S.rf
  have hP : va_P (dC, dI) mr_cl [((r 0), .inr (0, mf_M r rc nw pb lc))] s.heap := hP
  have hBH := hB.at hS hA0
  have hx := B.exec
  have hb := B.bytes
  have hr := B.returns
  have hlocks := B.notSynchronized
  have hts : ∀ w ∈ lw_tbl, w.before [.ref (r 0), .int a0].toArray s = true := hB.hts _
  have hown : s.vm.findClass "MeasureRows" = some m.cls := findClass_of_methodNamed B.named
  have hl := lv_entry ([.ref (r 0), .int a0]) (n := 2) (Nat.le_of_ble_eq_true rfl)
  rw [lg_entry_eq]
  generalize (lg_sl ([.ref (r 0), .int a0]) ++ List.replicate (2 - (lg_sl ([.ref (r 0), .int a0])).length) Slot.unset).toArray = ls at hl ⊢
  have hl : lv_has ls 2 [(0, .ref (r 0)), (1, .int a0)] := hl
  refine lv_aload_n hx hb d_M_papers_0 rfl (lv_at hl 0 rfl) ?_
  refine lv_iload_n hx hb d_M_papers_1 rfl (lv_at hl 1 rfl) ?_
  refine lv_ldc (v := 65535) hx hb hown (hts (Cond.constant "MeasureRows" 135 65535) mw_86) d_M_papers_2 ?_
  refine lv_iand hx hb d_M_papers_4 ?_
  refine va_put (D := (dC, dI)) (ci := 0) (v := .int (a0 &&& 65535)) (ty := .int) (C := R_M) (T := T_M) (N := 9) hx hb hts ti_M t_M to_M tn_M hown hK hP hD hS 0 rfl rfl 4 (by decide) (hts (Cond.fieldLink "MeasureRows" 29 "MeasureRows" "paperBits" "I") mw_59) (fun _ h9 => h9) rfl (by decide +kernel) rfl rfl (Nat.le_of_ble_eq_true rfl) d_M_papers_5 (fun H locs hP hD hS => ?_)
  have hP : va_P (dC, dI) mr_cl [((r 0), .inr (0, mf_M r rc nw (a0 &&& 65535) lc))] H := hP
  have hD : va_D A [((r 0), .inr (0, mf_M r rc nw (a0 &&& 65535) lc))] := hD
  have hBH := hB.at hS hA0
  have hP9 := hP.sub (ws' := [((r 0), .inr (0, mf_M r rc nw (a0 &&& 65535) lc))]) [0] rfl
  have hD9 := hD.sub (ws' := [((r 0), .inr (0, mf_M r rc nw (a0 &&& 65535) lc))]) [0] (by decide) rfl
  exact W.vret hx hb hr (fun t ht hW => ⟨⟨(), rfl, trivial, by rw [ht]; exact hP9, va_K.moved hW.alike hK, hD9⟩, hS.F ht⟩) hS.2.2 d_M_papers_8
