theorem mw_219 : Cond.methodLink "MeasureRows" 71 y_M_levelOf ∈ lw_tbl := by decide +kernel
theorem mw_220 : Cond.stringRef "MeasureRows" 136 "no such code, land or day" ∈ lw_tbl := by decide +kernel
theorem mw_221 : Cond.code y_M_gather b_M_gather 9 (some .int) ∈ lw_tbl := by decide +kernel
theorem mw_222 : Cond.initialized y_M_gather.cls ∈ lw_tbl := by decide +kernel
theorem mw_223 : Cond.methodLink "MeasureRows" 138 y_M_gather ∈ lw_tbl := by decide +kernel
theorem mw_224 : Cond.instanceMethod y_M_gather ∈ lw_tbl := by decide +kernel
theorem mw_225 : Cond.selects "MeasureRows" y_M_gather y_M_gather ∈ lw_tbl := by decide +kernel
theorem mw_226 : Cond.code y_M_keepWithPapers b_M_keepWithPapers 5 (some .int) ∈ lw_tbl := by decide +kernel
theorem mw_227 : Cond.initialized y_M_keepWithPapers.cls ∈ lw_tbl := by decide +kernel
theorem mw_228 : Cond.methodLink "MeasureRows" 142 y_M_keepWithPapers ∈ lw_tbl := by decide +kernel
theorem mw_229 : Cond.instanceMethod y_M_keepWithPapers ∈ lw_tbl := by decide +kernel
theorem mw_230 : Cond.selects "MeasureRows" y_M_keepWithPapers y_M_keepWithPapers ∈ lw_tbl := by decide +kernel
theorem mw_231 : Cond.code y_M_weighKinds b_M_weighKinds 4 none ∈ lw_tbl := by decide +kernel
theorem mw_232 : Cond.initialized y_M_weighKinds.cls ∈ lw_tbl := by decide +kernel
theorem mw_233 : Cond.methodLink "MeasureRows" 145 y_M_weighKinds ∈ lw_tbl := by decide +kernel
theorem mw_234 : Cond.instanceMethod y_M_weighKinds ∈ lw_tbl := by decide +kernel
theorem mw_235 : Cond.selects "MeasureRows" y_M_weighKinds y_M_weighKinds ∈ lw_tbl := by decide +kernel
theorem mw_236 : Cond.code y_M_listUnbeaten b_M_listUnbeaten 5 none ∈ lw_tbl := by decide +kernel
theorem mw_237 : Cond.initialized y_M_listUnbeaten.cls ∈ lw_tbl := by decide +kernel
theorem mw_238 : Cond.methodLink "MeasureRows" 149 y_M_listUnbeaten ∈ lw_tbl := by decide +kernel
theorem mw_239 : Cond.instanceMethod y_M_listUnbeaten ∈ lw_tbl := by decide +kernel
theorem mw_240 : Cond.selects "MeasureRows" y_M_listUnbeaten y_M_listUnbeaten ∈ lw_tbl := by decide +kernel
set_option maxHeartbeats 4000000 in
set_option maxRecDepth 100000 in
theorem mc_M_apply (l : Launch) (hlt : l.stackTraces = false) (s0 : State) (dC : Nat → ClassId) (dI : Nat → Nat → Nat) (cI cR cL cZ : ClassId) (r : Nat → Nat) (n : Nat) (nw pb : Int32) (qc : Nat) (fm fi : Nat → Int32) (fr : Nat → Option Nat) (fl fc fg : Nat → Int32) (L : List Nat) (f : Nat → va_E) (sz : Nat) (a0 : Int32) (a1 : Int32) (a2 : Int32) (a3 : Int32) (hq : qc ≤ 80) (hR : mr_RI cI n L f fr) : mr_Met l y_M_apply [Cond.code y_M_apply b_M_apply 6 (some .int)] ({ frames := 6, cells := 1, slots := 6, locals := 113 }) (mr_PC s0 (dC, dI) [(cI, .int), (cR, .object "MeasureRows$Row"), (cL, .long), (cZ, .boolean)] [.ref (r 0), .int a0, .int a1, .int a2, .int a3] (([((r 0), .inr (0, mf_M r (nI n) nw pb (nI qc))), ((r 1), .inr (1, [.ref (r 2), .ref (r 3)])), ((r 2), .inl (cI, 8, .inl fm)), ((r 3), .inl (cI, 8, .inl fi)), ((r 4), .inl (cR, 80, .inr (.inr (.inr (.inr fr))))), ((r 5), .inl (cI, 80, .inl fl)), ((r 6), .inl (cI, 80, .inl fc)), ((r 7), .inl (cI, 8, .inl fg))] : va_W) ++ va_pl L f) sz) (va_Qi (fun _ u => u.1 ≤ 80) (fun (u : Nat × (Nat → Int32) × (Nat → Int32) × (Nat → Int32)) t => mr_W (dC, dI) [(cI, .int), (cR, .object "MeasureRows$Row"), (cL, .long), (cZ, .boolean)] (va_A (([((r 0), .inr (0, mf_M r (nI n) nw pb (nI qc))), ((r 1), .inr (1, [.ref (r 2), .ref (r 3)])), ((r 2), .inl (cI, 8, .inl fm)), ((r 3), .inl (cI, 8, .inl fi)), ((r 4), .inl (cR, 80, .inr (.inr (.inr (.inr fr))))), ((r 5), .inl (cI, 80, .inl fl)), ((r 6), .inl (cI, 80, .inl fc)), ((r 7), .inl (cI, 8, .inl fg))] : va_W) ++ va_pl L f) sz) (([((r 0), .inr (0, mf_M r (nI n) nw pb (nI u.1))), ((r 1), .inr (1, [.ref (r 2), .ref (r 3)])), ((r 2), .inl (cI, 8, .inl fm)), ((r 3), .inl (cI, 8, .inl fi)), ((r 4), .inl (cR, 80, .inr (.inr (.inr (.inr fr))))), ((r 5), .inl (cI, 80, .inl u.2.1)), ((r 6), .inl (cI, 80, .inl u.2.2.1)), ((r 7), .inl (cI, 8, .inl u.2.2.2))] : va_W) ++ va_pl L f) t) (va_A (([((r 0), .inr (0, mf_M r (nI n) nw pb (nI qc))), ((r 1), .inr (1, [.ref (r 2), .ref (r 3)])), ((r 2), .inl (cI, 8, .inl fm)), ((r 3), .inl (cI, 8, .inl fi)), ((r 4), .inl (cR, 80, .inr (.inr (.inr (.inr fr))))), ((r 5), .inl (cI, 80, .inl fl)), ((r 6), .inl (cI, 80, .inl fc)), ((r 7), .inl (cI, 8, .inl fg))] : va_W) ++ va_pl L f) sz)) (fun E => E = mr_iae) 1 6 (va_A (([((r 0), .inr (0, mf_M r (nI n) nw pb (nI qc))), ((r 1), .inr (1, [.ref (r 2), .ref (r 3)])), ((r 2), .inl (cI, 8, .inl fm)), ((r 3), .inl (cI, 8, .inl fi)), ((r 4), .inl (cR, 80, .inr (.inr (.inr (.inr fr))))), ((r 5), .inl (cI, 80, .inl fl)), ((r 6), .inl (cI, 80, .inl fc)), ((r 7), .inl (cI, 8, .inl fg))] : va_W) ++ va_pl L f) sz) := by
  refine mr_of (cc := b_M_apply) (maxL := 6) (ret := (some .int)) (by decide) rfl ?_
  intro p e s m args below meth c s₁ B hml hno hv
  obtain ⟨rfl, hsz, hB, hK, hP, hD0⟩ := hv
  subst hsz
  have hA0 := mr_A hB hD0
  have hD := hD0.self (sz := s.heap.size)
  generalize hAe : va_A (([((r 0), .inr (0, mf_M r (nI n) nw pb (nI qc))), ((r 1), .inr (1, [.ref (r 2), .ref (r 3)])), ((r 2), .inl (cI, 8, .inl fm)), ((r 3), .inl (cI, 8, .inl fi)), ((r 4), .inl (cR, 80, .inr (.inr (.inr (.inr fr))))), ((r 5), .inl (cI, 80, .inl fl)), ((r 6), .inl (cI, 80, .inl fc)), ((r 7), .inl (cI, 8, .inl fg))] : va_W) ++ va_pl L f) s.heap.size = A at hD hA0 ⊢
  have hA : ∀ q : Nat, s.heap.size ≤ q → A q := fun q h => by rw [← hAe]; exact Or.inr h
  have hS : va_S A s.heap s.heap [] := va_S.rf
  have hP : va_P (dC, dI) mr_cl (([((r 0), .inr (0, mf_M r (nI n) nw pb (nI qc))), ((r 1), .inr (1, [.ref (r 2), .ref (r 3)])), ((r 2), .inl (cI, 8, .inl fm)), ((r 3), .inl (cI, 8, .inl fi)), ((r 4), .inl (cR, 80, .inr (.inr (.inr (.inr fr))))), ((r 5), .inl (cI, 80, .inl fl)), ((r 6), .inl (cI, 80, .inl fc)), ((r 7), .inl (cI, 8, .inl fg))] : va_W) ++ va_pl L f) s.heap := hP
  have hBH := hB.at hS hA0
  have hx := B.exec
  have hb := B.bytes
  have hr := B.returns
  have hlocks := B.notSynchronized
  have hts : ∀ w ∈ lw_tbl, w.before [.ref (r 0), .int a0, .int a1, .int a2, .int a3].toArray s = true := hB.hts _
  have hown : s.vm.findClass "MeasureRows" = some m.cls := findClass_of_methodNamed B.named
  have hl := lv_entry ([.ref (r 0), .int a0, .int a1, .int a2, .int a3]) (n := 6) (Nat.le_of_ble_eq_true rfl)
  rw [lg_entry_eq]
  generalize (lg_sl ([.ref (r 0), .int a0, .int a1, .int a2, .int a3]) ++ List.replicate (6 - (lg_sl ([.ref (r 0), .int a0, .int a1, .int a2, .int a3])).length) Slot.unset).toArray = ls at hl ⊢
  have hl : lv_has ls 6 [(0, .ref (r 0)), (1, .int a0), (2, .int a1), (3, .int a2), (4, .int a3)] := hl
  refine lv_iload_n hx hb d_M_apply_0 rfl (lv_at hl 1 rfl) ?_
  refine vp_callSi (va_Run.run (va_runS (As := [.int a0]) (rest := []) ⟨hx, hb, hml, hown, hts⟩ (mc_M_levelOf l s0 a0) ⟨(mr_cB 1 (hts (Cond.code y_M_levelOf b_M_levelOf 1 (some .int)) mw_99) (hts (Cond.initialized y_M_levelOf.cls) mw_100) (hts (Cond.methodLink "MeasureRows" 71 y_M_levelOf) mw_219) rfl rfl (by decide +kernel) ⟨Nat.le_of_ble_eq_true rfl, Nat.le_of_ble_eq_true rfl⟩), (hts (Cond.static y_M_levelOf) mw_102)⟩ (mr_pre0 hBH) rfl rfl hl.1 rfl (lv_room (Nat.le_of_ble_eq_true rfl)) d_M_apply_1 ⟨Nat.le_of_ble_eq_true rfl, Nat.le_of_ble_eq_true rfl⟩)) (fun r_1 h_2 => ?_)
  subst h_2
  refine lv_iconst (v := 3) hx hb d_M_apply_4 (by decide) ?_
  refine lv_icmp_ne (tgt := 30) hx hb d_M_apply_5 (by decide) (fun c_3 => ?_) (fun c_3 => ?_)
  · obtain ⟨sa, hstr⟩ := mr_str (hts (Cond.stringRef "MeasureRows" 136 "no such code, land or day") mw_220) hown
    exact mr_throw (names := mr_up) hx hb hlt hown (by decide +kernel) (by decide +kernel) (hts (Cond.classLink "MeasureRows" 78 mr_iae) mw_139) (hts (Cond.initialized mr_iae) mw_140) hstr (hB.own _ mr_a_iae) (hl.1.trans hml.symm) d_M_apply_30 d_M_apply_33 d_M_apply_34 d_M_apply_36 d_M_apply_39 hno (Nat.le_of_ble_eq_true rfl) (Nat.le_of_ble_eq_true rfl) (Nat.le_of_ble_eq_true rfl) (Nat.le_of_ble_eq_true rfl) hlocks rfl (Nat.le_of_ble_eq_true rfl) (Nat.le_of_ble_eq_true rfl)
  · refine lv_iload_n hx hb d_M_apply_8 rfl (lv_at hl 2 rfl) ?_
    refine vp_callSi (va_Run.run (va_runS (As := [.int a1]) (rest := []) ⟨hx, hb, hml, hown, hts⟩ (mc_M_isLand l s0 a1) ⟨(mr_cB 1 (hts (Cond.code y_M_isLand b_M_isLand 1 (some .boolean)) mw_1) (hts (Cond.initialized y_M_isLand.cls) mw_2) (hts (Cond.methodLink "MeasureRows" 49 y_M_isLand) mw_3) rfl rfl (by decide +kernel) ⟨Nat.le_of_ble_eq_true rfl, Nat.le_of_ble_eq_true rfl⟩), (hts (Cond.static y_M_isLand) mw_4)⟩ (mr_pre0 hBH) rfl rfl hl.1 rfl (lv_room (Nat.le_of_ble_eq_true rfl)) d_M_apply_9 ⟨Nat.le_of_ble_eq_true rfl, Nat.le_of_ble_eq_true rfl⟩)) (fun r_4 h_5 => ?_)
    subst h_5
    refine lv_if_eq (tgt := 30) hx hb d_M_apply_12 (by decide) (fun c_6 => ?_) (fun c_6 => ?_)
    · obtain ⟨sa, hstr⟩ := mr_str (hts (Cond.stringRef "MeasureRows" 136 "no such code, land or day") mw_220) hown
      exact mr_throw (names := mr_up) hx hb hlt hown (by decide +kernel) (by decide +kernel) (hts (Cond.classLink "MeasureRows" 78 mr_iae) mw_139) (hts (Cond.initialized mr_iae) mw_140) hstr (hB.own _ mr_a_iae) (hl.1.trans hml.symm) d_M_apply_30 d_M_apply_33 d_M_apply_34 d_M_apply_36 d_M_apply_39 hno (Nat.le_of_ble_eq_true rfl) (Nat.le_of_ble_eq_true rfl) (Nat.le_of_ble_eq_true rfl) (Nat.le_of_ble_eq_true rfl) hlocks rfl (Nat.le_of_ble_eq_true rfl) (Nat.le_of_ble_eq_true rfl)
    · refine lv_iload_n hx hb d_M_apply_15 rfl (lv_at hl 3 rfl) ?_
      refine vp_callSi (va_Run.run (va_runS (As := [.int a2]) (rest := []) ⟨hx, hb, hml, hown, hts⟩ (mc_M_isDay l s0 a2) ⟨(mr_cB 1 (hts (Cond.code y_M_isDay b_M_isDay 1 (some .boolean)) mw_9) (hts (Cond.initialized y_M_isDay.cls) mw_10) (hts (Cond.methodLink "MeasureRows" 83 y_M_isDay) mw_11) rfl rfl (by decide +kernel) ⟨Nat.le_of_ble_eq_true rfl, Nat.le_of_ble_eq_true rfl⟩), (hts (Cond.static y_M_isDay) mw_12)⟩ (mr_pre0 hBH) rfl rfl hl.1 rfl (lv_room (Nat.le_of_ble_eq_true rfl)) d_M_apply_16 ⟨Nat.le_of_ble_eq_true rfl, Nat.le_of_ble_eq_true rfl⟩)) (fun r_7 h_8 => ?_)
      subst h_8
      refine lv_if_eq (tgt := 30) hx hb d_M_apply_19 (by decide) (fun c_9 => ?_) (fun c_9 => ?_)
      · obtain ⟨sa, hstr⟩ := mr_str (hts (Cond.stringRef "MeasureRows" 136 "no such code, land or day") mw_220) hown
        exact mr_throw (names := mr_up) hx hb hlt hown (by decide +kernel) (by decide +kernel) (hts (Cond.classLink "MeasureRows" 78 mr_iae) mw_139) (hts (Cond.initialized mr_iae) mw_140) hstr (hB.own _ mr_a_iae) (hl.1.trans hml.symm) d_M_apply_30 d_M_apply_33 d_M_apply_34 d_M_apply_36 d_M_apply_39 hno (Nat.le_of_ble_eq_true rfl) (Nat.le_of_ble_eq_true rfl) (Nat.le_of_ble_eq_true rfl) (Nat.le_of_ble_eq_true rfl) hlocks rfl (Nat.le_of_ble_eq_true rfl) (Nat.le_of_ble_eq_true rfl)
      · refine lv_iload hx hb d_M_apply_22 (lv_at hl 4 rfl) ?_
        refine vp_callSi (va_Run.run (va_runS (As := [.int a3]) (rest := []) ⟨hx, hb, hml, hown, hts⟩ (mc_M_isDay l s0 a3) ⟨(mr_cB 1 (hts (Cond.code y_M_isDay b_M_isDay 1 (some .boolean)) mw_9) (hts (Cond.initialized y_M_isDay.cls) mw_10) (hts (Cond.methodLink "MeasureRows" 83 y_M_isDay) mw_11) rfl rfl (by decide +kernel) ⟨Nat.le_of_ble_eq_true rfl, Nat.le_of_ble_eq_true rfl⟩), (hts (Cond.static y_M_isDay) mw_12)⟩ (mr_pre0 hBH) rfl rfl hl.1 rfl (lv_room (Nat.le_of_ble_eq_true rfl)) d_M_apply_24 ⟨Nat.le_of_ble_eq_true rfl, Nat.le_of_ble_eq_true rfl⟩)) (fun r_10 h_11 => ?_)
        subst h_11
        refine lv_if_ne (tgt := 40) hx hb d_M_apply_27 (by decide) (fun c_12 => ?_) (fun c_12 => ?_)
        · refine lv_aload_n hx hb d_M_apply_40 rfl (lv_at hl 0 rfl) ?_
          refine lv_aload_n hx hb d_M_apply_41 rfl (lv_at hl 0 rfl) ?_
          refine va_get (D := (dC, dI)) (ci := 0) (v := .ref (r 6)) (C := R_M) (T := T_M) (N := 9) hx hb hts ti_M hown hK hP 0 rfl rfl 7 (by decide) (hts (Cond.fieldLink "MeasureRows" 39 "MeasureRows" "candidates" "[I") mw_62) (fun _ h9 => h9) rfl d_M_apply_42 ?_
          refine lv_iload_n hx hb d_M_apply_45 rfl (lv_at hl 1 rfl) ?_
          refine lv_iload_n hx hb d_M_apply_46 rfl (lv_at hl 2 rfl) ?_
          refine lv_iload_n hx hb d_M_apply_47 rfl (lv_at hl 3 rfl) ?_
          refine lv_iload hx hb d_M_apply_48 (lv_at hl 4 rfl) ?_
          have hFc := mr_Afree hD hS hA
          refine va_calli (va_runV (As := [.ref (r 6), .int a0, .int a1, .int a2, .int a3]) (rest := []) (C := R_M) ⟨hx, hb, hml, hown, hts⟩ (mc_M_gather6 l s0 dC dI cI cR cL cZ r n nw pb (nI qc) fm fi fr fl fc fg L f _ a0 a1 a2 a3 hR) ⟨(mr_cB 5 (hts (Cond.code y_M_gather b_M_gather 9 (some .int)) mw_221) (hts (Cond.initialized y_M_gather.cls) mw_222) (hts (Cond.methodLink "MeasureRows" 138 y_M_gather) mw_223) rfl rfl (by decide +kernel) ⟨Nat.le_of_ble_eq_true rfl, Nat.le_of_ble_eq_true rfl⟩), (hts (Cond.instanceMethod y_M_gather) mw_224), (hts (Cond.selects "MeasureRows" y_M_gather y_M_gather) mw_225)⟩ (mr_preCV hBH hK hP (hD.weaken (fun _ _ _ h => hA0 _ h)) (ci := 0) (q0 := 0) rfl rfl) rfl rfl hl.1 rfl (lv_room (Nat.le_of_ble_eq_true rfl)) d_M_apply_50 ⟨Nat.le_of_ble_eq_true rfl, Nat.le_of_ble_eq_true rfl⟩) hS (fun q _ h => hFc q h) hFc (fun r_13 u_14 t9 H1 locs ht9 hvm hw hB1 hz1 hk1 hS => ?_)
          obtain ⟨q_15, ft_16⟩ := u_14
          obtain ⟨hP1, hK1, hD1⟩ := hB1
          rw [ht9] at hP1
          have hP := hP1
          have hD := hD1.weaken (fun _ _ _ h => hFc _ h)
          clear hP1 hD1 hK1 hk1 hFc
          generalize H1 = H at hP hS ⊢
          have hP : va_P (dC, dI) mr_cl (([((r 0), .inr (0, mf_M r (nI n) nw pb (nI qc))), ((r 1), .inr (1, [.ref (r 2), .ref (r 3)])), ((r 2), .inl (cI, 8, .inl fm)), ((r 3), .inl (cI, 8, .inl fi)), ((r 4), .inl (cR, 80, .inr (.inr (.inr (.inr fr))))), ((r 5), .inl (cI, 80, .inl fl)), ((r 6), .inl (cI, 80, .inl ft_16)), ((r 7), .inl (cI, 8, .inl fg))] : va_W) ++ va_pl L f) H := hP
          have hD : va_D A (([((r 0), .inr (0, mf_M r (nI n) nw pb (nI qc))), ((r 1), .inr (1, [.ref (r 2), .ref (r 3)])), ((r 2), .inl (cI, 8, .inl fm)), ((r 3), .inl (cI, 8, .inl fi)), ((r 4), .inl (cR, 80, .inr (.inr (.inr (.inr fr))))), ((r 5), .inl (cI, 80, .inl fl)), ((r 6), .inl (cI, 80, .inl ft_16)), ((r 7), .inl (cI, 8, .inl fg))] : va_W) ++ va_pl L f) := hD
          have hBH := hB.at hS hA0
          obtain ⟨rfl, hq_q_15⟩ : r_13 = nI q_15 ∧ q_15 ≤ n := hw
          refine lv_istore (lv' := [(5, .int (nI q_15)), (0, .ref (r 0)), (1, .int a0), (2, .int a1), (3, .int a2), (4, .int a3)]) hx hb d_M_apply_53 hl (by decide) rfl (fun ls hl => ?_)
          refine lv_aload_n hx hb d_M_apply_55 rfl (lv_at hl 1 rfl) ?_
          refine lv_iload hx hb d_M_apply_56 (lv_at hl 0 rfl) ?_
          have hFc := mr_Afree hD hS hA
          refine va_calli (va_runV (As := [.int (nI q_15)]) (rest := []) (C := R_M) ⟨hx, hb, hml, hown, hts⟩ (mc_M_keepWithPapers l s0 dC dI cI cR cL cZ r n nw pb (nI qc) fm fi fr fl ft_16 fg L f q_15 _ (by have := hR.1; omega) hR) ⟨(mr_cB 1 (hts (Cond.code y_M_keepWithPapers b_M_keepWithPapers 5 (some .int)) mw_226) (hts (Cond.initialized y_M_keepWithPapers.cls) mw_227) (hts (Cond.methodLink "MeasureRows" 142 y_M_keepWithPapers) mw_228) rfl rfl (by decide +kernel) ⟨Nat.le_of_ble_eq_true rfl, Nat.le_of_ble_eq_true rfl⟩), (hts (Cond.instanceMethod y_M_keepWithPapers) mw_229), (hts (Cond.selects "MeasureRows" y_M_keepWithPapers y_M_keepWithPapers) mw_230)⟩ (mr_preCV hBH hK hP (hD.weaken (fun _ _ _ h => hA0 _ h)) (ci := 0) (q0 := 0) rfl rfl) rfl rfl hl.1 rfl (lv_room (Nat.le_of_ble_eq_true rfl)) d_M_apply_58 ⟨Nat.le_of_ble_eq_true rfl, Nat.le_of_ble_eq_true rfl⟩) hS (fun q _ h => hFc q h) hFc (fun r_17 u_18 t9 H1 locs ht9 hvm hw hB1 hz1 hk1 hS => ?_)
          obtain ⟨q_19, ft_20⟩ := u_18
          obtain ⟨hP1, hK1, hD1⟩ := hB1
          rw [ht9] at hP1
          have hP := hP1
          have hD := hD1.weaken (fun _ _ _ h => hFc _ h)
          clear hP1 hD1 hK1 hk1 hFc
          generalize H1 = H at hP hS ⊢
          have hP : va_P (dC, dI) mr_cl (([((r 0), .inr (0, mf_M r (nI n) nw pb (nI qc))), ((r 1), .inr (1, [.ref (r 2), .ref (r 3)])), ((r 2), .inl (cI, 8, .inl fm)), ((r 3), .inl (cI, 8, .inl fi)), ((r 4), .inl (cR, 80, .inr (.inr (.inr (.inr fr))))), ((r 5), .inl (cI, 80, .inl fl)), ((r 6), .inl (cI, 80, .inl ft_20)), ((r 7), .inl (cI, 8, .inl fg))] : va_W) ++ va_pl L f) H := hP
          have hD : va_D A (([((r 0), .inr (0, mf_M r (nI n) nw pb (nI qc))), ((r 1), .inr (1, [.ref (r 2), .ref (r 3)])), ((r 2), .inl (cI, 8, .inl fm)), ((r 3), .inl (cI, 8, .inl fi)), ((r 4), .inl (cR, 80, .inr (.inr (.inr (.inr fr))))), ((r 5), .inl (cI, 80, .inl fl)), ((r 6), .inl (cI, 80, .inl ft_20)), ((r 7), .inl (cI, 8, .inl fg))] : va_W) ++ va_pl L f) := hD
          have hBH := hB.at hS hA0
          obtain ⟨rfl, hq_q_19⟩ : r_17 = nI q_19 ∧ q_19 ≤ q_15 := hw
          refine lv_istore (lv' := [(5, .int (nI q_19)), (0, .ref (r 0)), (1, .int a0), (2, .int a1), (3, .int a2), (4, .int a3)]) hx hb d_M_apply_61 hl (by decide) rfl (fun ls hl => ?_)
          refine lv_iload hx hb d_M_apply_63 (lv_at hl 0 rfl) ?_
          refine lv_if_ne (tgt := 70) hx hb d_M_apply_65 (by decide) (fun c_21 => ?_) (fun c_21 => ?_)
          · refine lv_aload_n hx hb d_M_apply_70 rfl (lv_at hl 1 rfl) ?_
            refine lv_iload hx hb d_M_apply_71 (lv_at hl 0 rfl) ?_
            have hFc := mr_Afree hD hS hA
            refine va_callv (va_runV (As := [.int (nI q_19)]) (rest := []) (C := R_M) ⟨hx, hb, hml, hown, hts⟩ (mc_M_weighKinds l s0 dC dI cI cR cL cZ r n nw pb (nI qc) fm fi fr fl ft_20 fg L f q_19 _ (by have := hR.1; omega) hR) ⟨(mr_cB 1 (hts (Cond.code y_M_weighKinds b_M_weighKinds 4 none) mw_231) (hts (Cond.initialized y_M_weighKinds.cls) mw_232) (hts (Cond.methodLink "MeasureRows" 145 y_M_weighKinds) mw_233) rfl rfl (by decide +kernel) ⟨Nat.le_of_ble_eq_true rfl, Nat.le_of_ble_eq_true rfl⟩), (hts (Cond.instanceMethod y_M_weighKinds) mw_234), (hts (Cond.selects "MeasureRows" y_M_weighKinds y_M_weighKinds) mw_235)⟩ (mr_preCV hBH hK hP (hD.weaken (fun _ _ _ h => hA0 _ h)) (ci := 0) (q0 := 0) rfl rfl) rfl rfl hl.1 rfl (lv_room (Nat.le_of_ble_eq_true rfl)) d_M_apply_73 ⟨Nat.le_of_ble_eq_true rfl, Nat.le_of_ble_eq_true rfl⟩) hS (fun q _ h => hFc q h) hFc (fun u_23 t9 H1 locs ht9 hvm hw hB1 hz1 hk1 hS => ?_)
            obtain ⟨hP1, hK1, hD1⟩ := hB1
            rw [ht9] at hP1
            have hP := hP1
            have hD := hD1.weaken (fun _ _ _ h => hFc _ h)
            clear hP1 hD1 hK1 hk1 hFc
            generalize H1 = H at hP hS ⊢
            have hP : va_P (dC, dI) mr_cl (([((r 0), .inr (0, mf_M r (nI n) nw pb (nI qc))), ((r 1), .inr (1, [.ref (r 2), .ref (r 3)])), ((r 2), .inl (cI, 8, .inl fm)), ((r 3), .inl (cI, 8, .inl fi)), ((r 4), .inl (cR, 80, .inr (.inr (.inr (.inr fr))))), ((r 5), .inl (cI, 80, .inl fl)), ((r 6), .inl (cI, 80, .inl ft_20)), ((r 7), .inl (cI, 8, .inl u_23))] : va_W) ++ va_pl L f) H := hP
            have hD : va_D A (([((r 0), .inr (0, mf_M r (nI n) nw pb (nI qc))), ((r 1), .inr (1, [.ref (r 2), .ref (r 3)])), ((r 2), .inl (cI, 8, .inl fm)), ((r 3), .inl (cI, 8, .inl fi)), ((r 4), .inl (cR, 80, .inr (.inr (.inr (.inr fr))))), ((r 5), .inl (cI, 80, .inl fl)), ((r 6), .inl (cI, 80, .inl ft_20)), ((r 7), .inl (cI, 8, .inl u_23))] : va_W) ++ va_pl L f) := hD
            have hBH := hB.at hS hA0
            refine lv_aload_n hx hb d_M_apply_76 rfl (lv_at hl 1 rfl) ?_
            refine lv_iload hx hb d_M_apply_77 (lv_at hl 0 rfl) ?_
            have hFc := mr_Afree hD hS hA
            refine va_callv (va_runV (As := [.int (nI q_19)]) (rest := []) (C := R_M) ⟨hx, hb, hml, hown, hts⟩ (mc_M_listUnbeaten l s0 dC dI cI cR cL cZ r n nw pb (nI qc) fm fi fr fl ft_20 u_23 L f q_19 _ (by have := hR.1; omega) hR) ⟨(mr_cB 1 (hts (Cond.code y_M_listUnbeaten b_M_listUnbeaten 5 none) mw_236) (hts (Cond.initialized y_M_listUnbeaten.cls) mw_237) (hts (Cond.methodLink "MeasureRows" 149 y_M_listUnbeaten) mw_238) rfl rfl (by decide +kernel) ⟨Nat.le_of_ble_eq_true rfl, Nat.le_of_ble_eq_true rfl⟩), (hts (Cond.instanceMethod y_M_listUnbeaten) mw_239), (hts (Cond.selects "MeasureRows" y_M_listUnbeaten y_M_listUnbeaten) mw_240)⟩ (mr_preCV hBH hK hP (hD.weaken (fun _ _ _ h => hA0 _ h)) (ci := 0) (q0 := 0) rfl rfl) rfl rfl hl.1 rfl (lv_room (Nat.le_of_ble_eq_true rfl)) d_M_apply_79 ⟨Nat.le_of_ble_eq_true rfl, Nat.le_of_ble_eq_true rfl⟩) hS (fun q _ h => hFc q h) hFc (fun u_25 t9 H1 locs ht9 hvm hw hB1 hz1 hk1 hS => ?_)
            obtain ⟨q_26, ft_27⟩ := u_25
            obtain ⟨hP1, hK1, hD1⟩ := hB1
            have hq_q_26 : q_26 ≤ 80 := hw
            rw [ht9] at hP1
            have hP := hP1
            have hD := hD1.weaken (fun _ _ _ h => hFc _ h)
            clear hP1 hD1 hK1 hk1 hFc
            generalize H1 = H at hP hS ⊢
            have hP : va_P (dC, dI) mr_cl (([((r 0), .inr (0, mf_M r (nI n) nw pb (nI q_26))), ((r 1), .inr (1, [.ref (r 2), .ref (r 3)])), ((r 2), .inl (cI, 8, .inl fm)), ((r 3), .inl (cI, 8, .inl fi)), ((r 4), .inl (cR, 80, .inr (.inr (.inr (.inr fr))))), ((r 5), .inl (cI, 80, .inl ft_27)), ((r 6), .inl (cI, 80, .inl ft_20)), ((r 7), .inl (cI, 8, .inl u_23))] : va_W) ++ va_pl L f) H := hP
            have hD : va_D A (([((r 0), .inr (0, mf_M r (nI n) nw pb (nI q_26))), ((r 1), .inr (1, [.ref (r 2), .ref (r 3)])), ((r 2), .inl (cI, 8, .inl fm)), ((r 3), .inl (cI, 8, .inl fi)), ((r 4), .inl (cR, 80, .inr (.inr (.inr (.inr fr))))), ((r 5), .inl (cI, 80, .inl ft_27)), ((r 6), .inl (cI, 80, .inl ft_20)), ((r 7), .inl (cI, 8, .inl u_23))] : va_W) ++ va_pl L f) := hD
            have hBH := hB.at hS hA0
            refine lv_aload_n hx hb d_M_apply_82 rfl (lv_at hl 1 rfl) ?_
            refine va_get (D := (dC, dI)) (ci := 0) (v := .int (nI q_26)) (C := R_M) (T := T_M) (N := 9) hx hb hts ti_M hown hK hP 0 rfl rfl 6 (by decide) (hts (Cond.fieldLink "MeasureRows" 36 "MeasureRows" "listedCount" "I") mw_61) (fun _ h9 => h9) rfl d_M_apply_83 ?_
            have hP9 := hP
            have hD9 := hD
            refine mr_ret ?_
            refine W.widen (k := 1) (n := 6) (by omega) (by omega) ?_
            exact W.iret (v := nI q_26) hx hb hr (fun t ht hW => ⟨⟨_, (q_26, ft_27, ft_20, u_23), rfl, hq_q_26, by rw [ht]; exact hP9, va_K.moved hW.alike hK, hD9⟩, hS.F ht⟩) hS.2.2 d_M_apply_86
          · refine lv_iconst (v := 0) hx hb d_M_apply_68 (by decide) ?_
            have hP9 := hP
            have hD9 := hD
            refine mr_ret ?_
            refine W.widen (k := 1) (n := 6) (by omega) (by omega) ?_
            exact W.iret (v := 0) hx hb hr (fun t ht hW => ⟨⟨_, (qc, fl, ft_20, fg), rfl, hq, by rw [ht]; exact hP9, va_K.moved hW.alike hK, hD9⟩, hS.F ht⟩) hS.2.2 d_M_apply_69
        · obtain ⟨sa, hstr⟩ := mr_str (hts (Cond.stringRef "MeasureRows" 136 "no such code, land or day") mw_220) hown
          exact mr_throw (names := mr_up) hx hb hlt hown (by decide +kernel) (by decide +kernel) (hts (Cond.classLink "MeasureRows" 78 mr_iae) mw_139) (hts (Cond.initialized mr_iae) mw_140) hstr (hB.own _ mr_a_iae) (hl.1.trans hml.symm) d_M_apply_30 d_M_apply_33 d_M_apply_34 d_M_apply_36 d_M_apply_39 hno (Nat.le_of_ble_eq_true rfl) (Nat.le_of_ble_eq_true rfl) (Nat.le_of_ble_eq_true rfl) (Nat.le_of_ble_eq_true rfl) hlocks rfl (Nat.le_of_ble_eq_true rfl) (Nat.le_of_ble_eq_true rfl)
