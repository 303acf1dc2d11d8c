
def mk_M_apply (a0 a1 a2 a3 : Int32) : Int32 := if (mv_M_levelOf a0) = 3 then (if (mv_M_isLand a1) = 0 then 1 else if (mv_M_isDay a2) = 0 then 1 else if (mv_M_isDay a3) = 0 then 1 else 0) else 1
set_option maxHeartbeats 4000000 in
set_option maxRecDepth 100000 in
theorem mc_M_applyX (l : Launch) (hlt : l.stackTraces = false) (s0 : State) (dC : Nat → ClassId) (dI : Nat → Nat → Nat) (cI cR cL cZ : ClassId) (r : Nat → Nat) (n : Nat) (nw pb : Int32) (qc : Nat) (fm fi : Nat → Int32) (fr : Nat → Option Nat) (fl fc fg : Nat → Int32) (L : List Nat) (f : Nat → va_E) (fco fla ffi fki fra fkn cls cpa fe fa fk : Nat → Int32) (sz : Nat) (a0 : Int32) (a1 : Int32) (a2 : Int32) (a3 : Int32) (hq : qc ≤ 80) (hX : mr_RX cI n L f fr fco fla ffi fki fra fkn cls cpa fe fa fk) (hN : mr_NX n nw fco fki fra fkn fe fk) : mr_Met l y_M_apply [Cond.code y_M_apply b_M_apply 6 (some .int)] ({ frames := 6, cells := 1, slots := 6, locals := 113 }) (mr_PC s0 (dC, dI) [(cI, .int), (cR, .object "MeasureRows$Row"), (cL, .long), (cZ, .boolean)] [.ref (r 0), .int a0, .int a1, .int a2, .int a3] (([((r 0), .inr (0, mf_M r (nI n) nw pb (nI qc))), ((r 1), .inr (1, [.ref (r 2), .ref (r 3)])), ((r 2), .inl (cI, 8, .inl fm)), ((r 3), .inl (cI, 8, .inl fi)), ((r 4), .inl (cR, 80, .inr (.inr (.inr (.inr fr))))), ((r 5), .inl (cI, 80, .inl fl)), ((r 6), .inl (cI, 80, .inl fc)), ((r 7), .inl (cI, 8, .inl fg))] : va_W) ++ va_pl L f) sz) (va_Qi (fun rr u => u.1 ≤ 80 ∧ mk_M_apply a0 a1 a2 a3 = 0 ∧ rr = nI (mr_tot (mv_ub (mv_kp (fun j => mv_gP fkn fco fla ffi fe fa fk fi cls (j + 1) a0 a1 a2 a3) cpa pb) (mr_ww fco fra) (mr_kd fki) n) (mr_kd fki) n 8)) (fun (u : Nat × (Nat → Int32) × (Nat → Int32) × (Nat → Int32)) t => mr_W (dC, dI) [(cI, .int), (cR, .object "MeasureRows$Row"), (cL, .long), (cZ, .boolean)] (va_A (([((r 0), .inr (0, mf_M r (nI n) nw pb (nI qc))), ((r 1), .inr (1, [.ref (r 2), .ref (r 3)])), ((r 2), .inl (cI, 8, .inl fm)), ((r 3), .inl (cI, 8, .inl fi)), ((r 4), .inl (cR, 80, .inr (.inr (.inr (.inr fr))))), ((r 5), .inl (cI, 80, .inl fl)), ((r 6), .inl (cI, 80, .inl fc)), ((r 7), .inl (cI, 8, .inl fg))] : va_W) ++ va_pl L f) sz) (([((r 0), .inr (0, mf_M r (nI n) nw pb (nI u.1))), ((r 1), .inr (1, [.ref (r 2), .ref (r 3)])), ((r 2), .inl (cI, 8, .inl fm)), ((r 3), .inl (cI, 8, .inl fi)), ((r 4), .inl (cR, 80, .inr (.inr (.inr (.inr fr))))), ((r 5), .inl (cI, 80, .inl u.2.1)), ((r 6), .inl (cI, 80, .inl u.2.2.1)), ((r 7), .inl (cI, 8, .inl u.2.2.2))] : va_W) ++ va_pl L f) t) (va_A (([((r 0), .inr (0, mf_M r (nI n) nw pb (nI qc))), ((r 1), .inr (1, [.ref (r 2), .ref (r 3)])), ((r 2), .inl (cI, 8, .inl fm)), ((r 3), .inl (cI, 8, .inl fi)), ((r 4), .inl (cR, 80, .inr (.inr (.inr (.inr fr))))), ((r 5), .inl (cI, 80, .inl fl)), ((r 6), .inl (cI, 80, .inl fc)), ((r 7), .inl (cI, 8, .inl fg))] : va_W) ++ va_pl L f) sz)) (fun E => (E = mr_iae ∧ mk_M_apply a0 a1 a2 a3 = 1)) 1 6 (va_A (([((r 0), .inr (0, mf_M r (nI n) nw pb (nI qc))), ((r 1), .inr (1, [.ref (r 2), .ref (r 3)])), ((r 2), .inl (cI, 8, .inl fm)), ((r 3), .inl (cI, 8, .inl fi)), ((r 4), .inl (cR, 80, .inr (.inr (.inr (.inr fr))))), ((r 5), .inl (cI, 80, .inl fl)), ((r 6), .inl (cI, 80, .inl fc)), ((r 7), .inl (cI, 8, .inl fg))] : va_W) ++ va_pl L f) sz) := by
  refine mr_of (cc := b_M_apply) (maxL := 6) (ret := (some .int)) (by decide) rfl ?_
  intro p e s m args below meth c s₁ B hml hno hv
  obtain ⟨rfl, hsz, hB, hK, hP, hD0⟩ := hv
  subst hsz
  have hA0 := mr_A hB hD0
  have hD := hD0.self (sz := s.heap.size)
  generalize hAe : va_A (([((r 0), .inr (0, mf_M r (nI n) nw pb (nI qc))), ((r 1), .inr (1, [.ref (r 2), .ref (r 3)])), ((r 2), .inl (cI, 8, .inl fm)), ((r 3), .inl (cI, 8, .inl fi)), ((r 4), .inl (cR, 80, .inr (.inr (.inr (.inr fr))))), ((r 5), .inl (cI, 80, .inl fl)), ((r 6), .inl (cI, 80, .inl fc)), ((r 7), .inl (cI, 8, .inl fg))] : va_W) ++ va_pl L f) s.heap.size = A at hD hA0 ⊢
  have hA : ∀ q : Nat, s.heap.size ≤ q → A q := fun q h => by rw [← hAe]; exact Or.inr h
  have hS : va_S A s.heap s.heap [] := va_S.rf
  have hP : va_P (dC, dI) mr_cl (([((r 0), .inr (0, mf_M r (nI n) nw pb (nI qc))), ((r 1), .inr (1, [.ref (r 2), .ref (r 3)])), ((r 2), .inl (cI, 8, .inl fm)), ((r 3), .inl (cI, 8, .inl fi)), ((r 4), .inl (cR, 80, .inr (.inr (.inr (.inr fr))))), ((r 5), .inl (cI, 80, .inl fl)), ((r 6), .inl (cI, 80, .inl fc)), ((r 7), .inl (cI, 8, .inl fg))] : va_W) ++ va_pl L f) s.heap := hP
  have hBH := hB.at hS hA0
  have hx := B.exec
  have hb := B.bytes
  have hr := B.returns
  have hlocks := B.notSynchronized
  have hts : ∀ w ∈ lw_tbl, w.before [.ref (r 0), .int a0, .int a1, .int a2, .int a3].toArray s = true := hB.hts _
  have hown : s.vm.findClass "MeasureRows" = some m.cls := findClass_of_methodNamed B.named
  have hl := lv_entry ([.ref (r 0), .int a0, .int a1, .int a2, .int a3]) (n := 6) (Nat.le_of_ble_eq_true rfl)
  rw [lg_entry_eq]
  generalize (lg_sl ([.ref (r 0), .int a0, .int a1, .int a2, .int a3]) ++ List.replicate (6 - (lg_sl ([.ref (r 0), .int a0, .int a1, .int a2, .int a3])).length) Slot.unset).toArray = ls at hl ⊢
  have hl : lv_has ls 6 [(0, .ref (r 0)), (1, .int a0), (2, .int a1), (3, .int a2), (4, .int a3)] := hl
  refine lv_iload_n hx hb d_M_apply_0 rfl (lv_at hl 1 rfl) ?_
  refine vp_callSi (va_Run.run (va_runS (As := [.int a0]) (rest := []) ⟨hx, hb, hml, hown, hts⟩ (mc_M_levelOf l s0 a0) ⟨(mr_cB 1 (hts (Cond.code y_M_levelOf b_M_levelOf 1 (some .int)) mw_99) (hts (Cond.initialized y_M_levelOf.cls) mw_100) (hts (Cond.methodLink "MeasureRows" 71 y_M_levelOf) mw_219) rfl rfl (by decide +kernel) ⟨Nat.le_of_ble_eq_true rfl, Nat.le_of_ble_eq_true rfl⟩), (hts (Cond.static y_M_levelOf) mw_102)⟩ (mr_pre0 hBH) rfl rfl hl.1 rfl (lv_room (Nat.le_of_ble_eq_true rfl)) d_M_apply_1 ⟨Nat.le_of_ble_eq_true rfl, Nat.le_of_ble_eq_true rfl⟩)) (fun r_1 h_2 => ?_)
  subst h_2
  refine lv_iconst (v := 3) hx hb d_M_apply_4 (by decide) ?_
  refine lv_icmp_ne (tgt := 30) hx hb d_M_apply_5 (by decide) (fun c_3 => ?_) (fun c_3 => ?_)
  · obtain ⟨sa, hstr⟩ := mr_str (hts (Cond.stringRef "MeasureRows" 136 "no such code, land or day") mw_220) hown
    exact mr_throw (names := mr_up) hx hb hlt hown (by decide +kernel) (by decide +kernel) (hts (Cond.classLink "MeasureRows" 78 mr_iae) mw_139) (hts (Cond.initialized mr_iae) mw_140) hstr (hB.own _ mr_a_iae) (hl.1.trans hml.symm) d_M_apply_30 d_M_apply_33 d_M_apply_34 d_M_apply_36 d_M_apply_39 hno (Nat.le_of_ble_eq_true rfl) (Nat.le_of_ble_eq_true rfl) (Nat.le_of_ble_eq_true rfl) (Nat.le_of_ble_eq_true rfl) hlocks ⟨rfl, by unfold mk_M_apply; rw [if_neg c_3]⟩ (Nat.le_of_ble_eq_true rfl) (Nat.le_of_ble_eq_true rfl)
  · refine lv_iload_n hx hb d_M_apply_8 rfl (lv_at hl 2 rfl) ?_
    refine vp_callSi (va_Run.run (va_runS (As := [.int a1]) (rest := []) ⟨hx, hb, hml, hown, hts⟩ (mc_M_isLand l s0 a1) ⟨(mr_cB 1 (hts (Cond.code y_M_isLand b_M_isLand 1 (some .boolean)) mw_1) (hts (Cond.initialized y_M_isLand.cls) mw_2) (hts (Cond.methodLink "MeasureRows" 49 y_M_isLand) mw_3) rfl rfl (by decide +kernel) ⟨Nat.le_of_ble_eq_true rfl, Nat.le_of_ble_eq_true rfl⟩), (hts (Cond.static y_M_isLand) mw_4)⟩ (mr_pre0 hBH) rfl rfl hl.1 rfl (lv_room (Nat.le_of_ble_eq_true rfl)) d_M_apply_9 ⟨Nat.le_of_ble_eq_true rfl, Nat.le_of_ble_eq_true rfl⟩)) (fun r_4 h_5 => ?_)
    subst h_5
    refine lv_if_eq (tgt := 30) hx hb d_M_apply_12 (by decide) (fun c_6 => ?_) (fun c_6 => ?_)
    · obtain ⟨sa, hstr⟩ := mr_str (hts (Cond.stringRef "MeasureRows" 136 "no such code, land or day") mw_220) hown
      exact mr_throw (names := mr_up) hx hb hlt hown (by decide +kernel) (by decide +kernel) (hts (Cond.classLink "MeasureRows" 78 mr_iae) mw_139) (hts (Cond.initialized mr_iae) mw_140) hstr (hB.own _ mr_a_iae) (hl.1.trans hml.symm) d_M_apply_30 d_M_apply_33 d_M_apply_34 d_M_apply_36 d_M_apply_39 hno (Nat.le_of_ble_eq_true rfl) (Nat.le_of_ble_eq_true rfl) (Nat.le_of_ble_eq_true rfl) (Nat.le_of_ble_eq_true rfl) hlocks ⟨rfl, by unfold mk_M_apply; rw [if_pos c_3, if_pos c_6]⟩ (Nat.le_of_ble_eq_true rfl) (Nat.le_of_ble_eq_true rfl)
    · refine lv_iload_n hx hb d_M_apply_15 rfl (lv_at hl 3 rfl) ?_
      refine vp_callSi (va_Run.run (va_runS (As := [.int a2]) (rest := []) ⟨hx, hb, hml, hown, hts⟩ (mc_M_isDay l s0 a2) ⟨(mr_cB 1 (hts (Cond.code y_M_isDay b_M_isDay 1 (some .boolean)) mw_9) (hts (Cond.initialized y_M_isDay.cls) mw_10) (hts (Cond.methodLink "MeasureRows" 83 y_M_isDay) mw_11) rfl rfl (by decide +kernel) ⟨Nat.le_of_ble_eq_true rfl, Nat.le_of_ble_eq_true rfl⟩), (hts (Cond.static y_M_isDay) mw_12)⟩ (mr_pre0 hBH) rfl rfl hl.1 rfl (lv_room (Nat.le_of_ble_eq_true rfl)) d_M_apply_16 ⟨Nat.le_of_ble_eq_true rfl, Nat.le_of_ble_eq_true rfl⟩)) (fun r_7 h_8 => ?_)
      subst h_8
      refine lv_if_eq (tgt := 30) hx hb d_M_apply_19 (by decide) (fun c_9 => ?_) (fun c_9 => ?_)
      · obtain ⟨sa, hstr⟩ := mr_str (hts (Cond.stringRef "MeasureRows" 136 "no such code, land or day") mw_220) hown
        exact mr_throw (names := mr_up) hx hb hlt hown (by decide +kernel) (by decide +kernel) (hts (Cond.classLink "MeasureRows" 78 mr_iae) mw_139) (hts (Cond.initialized mr_iae) mw_140) hstr (hB.own _ mr_a_iae) (hl.1.trans hml.symm) d_M_apply_30 d_M_apply_33 d_M_apply_34 d_M_apply_36 d_M_apply_39 hno (Nat.le_of_ble_eq_true rfl) (Nat.le_of_ble_eq_true rfl) (Nat.le_of_ble_eq_true rfl) (Nat.le_of_ble_eq_true rfl) hlocks ⟨rfl, by unfold mk_M_apply; rw [if_pos c_3, if_neg c_6, if_pos c_9]⟩ (Nat.le_of_ble_eq_true rfl) (Nat.le_of_ble_eq_true rfl)
      · refine lv_iload hx hb d_M_apply_22 (lv_at hl 4 rfl) ?_
        refine vp_callSi (va_Run.run (va_runS (As := [.int a3]) (rest := []) ⟨hx, hb, hml, hown, hts⟩ (mc_M_isDay l s0 a3) ⟨(mr_cB 1 (hts (Cond.code y_M_isDay b_M_isDay 1 (some .boolean)) mw_9) (hts (Cond.initialized y_M_isDay.cls) mw_10) (hts (Cond.methodLink "MeasureRows" 83 y_M_isDay) mw_11) rfl rfl (by decide +kernel) ⟨Nat.le_of_ble_eq_true rfl, Nat.le_of_ble_eq_true rfl⟩), (hts (Cond.static y_M_isDay) mw_12)⟩ (mr_pre0 hBH) rfl rfl hl.1 rfl (lv_room (Nat.le_of_ble_eq_true rfl)) d_M_apply_24 ⟨Nat.le_of_ble_eq_true rfl, Nat.le_of_ble_eq_true rfl⟩)) (fun r_10 h_11 => ?_)
        subst h_11
        refine lv_if_ne (tgt := 40) hx hb d_M_apply_27 (by decide) (fun c_12 => ?_) (fun c_12 => ?_)
        · refine lv_aload_n hx hb d_M_apply_40 rfl (lv_at hl 0 rfl) ?_
          refine lv_aload_n hx hb d_M_apply_41 rfl (lv_at hl 0 rfl) ?_
          refine va_get (D := (dC, dI)) (ci := 0) (v := .ref (r 6)) (C := R_M) (T := T_M) (N := 9) hx hb hts ti_M hown hK hP 0 rfl rfl 7 (by decide) (hts (Cond.fieldLink "MeasureRows" 39 "MeasureRows" "candidates" "[I") mw_62) (fun _ h9 => h9) rfl d_M_apply_42 ?_
          refine lv_iload_n hx hb d_M_apply_45 rfl (lv_at hl 1 rfl) ?_
          refine lv_iload_n hx hb d_M_apply_46 rfl (lv_at hl 2 rfl) ?_
          refine lv_iload_n hx hb d_M_apply_47 rfl (lv_at hl 3 rfl) ?_
          refine lv_iload hx hb d_M_apply_48 (lv_at hl 4 rfl) ?_
          have hFc := mr_Afree hD hS hA
          refine va_calli (va_runV (As := [.ref (r 6), .int a0, .int a1, .int a2, .int a3]) (rest := []) (C := R_M) ⟨hx, hb, hml, hown, hts⟩ (mc_M_gather6X l s0 dC dI cI cR cL cZ r n nw pb (nI qc) fm fi fr fl fc fg L f fco fla ffi fki fra fkn cls cpa fe fa fk _ a0 a1 a2 a3 hX hN) ⟨(mr_cB 5 (hts (Cond.code y_M_gather b_M_gather 9 (some .int)) mw_221) (hts (Cond.initialized y_M_gather.cls) mw_222) (hts (Cond.methodLink "MeasureRows" 138 y_M_gather) mw_223) rfl rfl (by decide +kernel) ⟨Nat.le_of_ble_eq_true rfl, Nat.le_of_ble_eq_true rfl⟩), (hts (Cond.instanceMethod y_M_gather) mw_224), (hts (Cond.selects "MeasureRows" y_M_gather y_M_gather) mw_225)⟩ (mr_preCV hBH hK hP (hD.weaken (fun _ _ _ h => hA0 _ h)) (ci := 0) (q0 := 0) rfl rfl) rfl rfl hl.1 rfl (lv_room (Nat.le_of_ble_eq_true rfl)) d_M_apply_50 ⟨Nat.le_of_ble_eq_true rfl, Nat.le_of_ble_eq_true rfl⟩) hS (fun q _ h => hFc q h) hFc (fun r_13 u_14 t9 H1 locs ht9 hvm hw hB1 hz1 hk1 hS => ?_)
          obtain ⟨hP1, hK1, hD1⟩ := hB1
          rw [ht9] at hP1
          have hP := hP1
          have hD := hD1.weaken (fun _ _ _ h => hFc _ h)
          clear hP1 hD1 hK1 hk1 hFc
          generalize H1 = H at hP hS ⊢
          have hP : va_P (dC, dI) mr_cl (([((r 0), .inr (0, mf_M r (nI n) nw pb (nI qc))), ((r 1), .inr (1, [.ref (r 2), .ref (r 3)])), ((r 2), .inl (cI, 8, .inl fm)), ((r 3), .inl (cI, 8, .inl fi)), ((r 4), .inl (cR, 80, .inr (.inr (.inr (.inr fr))))), ((r 5), .inl (cI, 80, .inl fl)), ((r 6), .inl (cI, 80, .inl u_14)), ((r 7), .inl (cI, 8, .inl fg))] : va_W) ++ va_pl L f) H := hP
          have hD : va_D A (([((r 0), .inr (0, mf_M r (nI n) nw pb (nI qc))), ((r 1), .inr (1, [.ref (r 2), .ref (r 3)])), ((r 2), .inl (cI, 8, .inl fm)), ((r 3), .inl (cI, 8, .inl fi)), ((r 4), .inl (cR, 80, .inr (.inr (.inr (.inr fr))))), ((r 5), .inl (cI, 80, .inl fl)), ((r 6), .inl (cI, 80, .inl u_14)), ((r 7), .inl (cI, 8, .inl fg))] : va_W) ++ va_pl L f) := hD
          have hBH := hB.at hS hA0
          obtain ⟨rfl, hga⟩ : r_13 = nI (mr_cnt (fun j => mv_gP fkn fco fla ffi fe fa fk fi cls (j + 1) a0 a1 a2 a3) n) ∧ ∀ m, m < n → ¬ (fun j => mv_gP fkn fco fla ffi fe fa fk fi cls (j + 1) a0 a1 a2 a3) m = 0 → u_14 (mr_cnt (fun j => mv_gP fkn fco fla ffi fe fa fk fi cls (j + 1) a0 a1 a2 a3) m) = nI (m + 1) := hw
          refine lv_istore (lv' := [(5, .int (nI (mr_cnt (fun j => mv_gP fkn fco fla ffi fe fa fk fi cls (j + 1) a0 a1 a2 a3) n))), (0, .ref (r 0)), (1, .int a0), (2, .int a1), (3, .int a2), (4, .int a3)]) hx hb d_M_apply_53 hl (by decide) rfl (fun ls hl => ?_)
          refine lv_aload_n hx hb d_M_apply_55 rfl (lv_at hl 1 rfl) ?_
          refine lv_iload hx hb d_M_apply_56 (lv_at hl 0 rfl) ?_
          have hFc := mr_Afree hD hS hA
          refine va_calli (va_runV (As := [.int (nI (mr_cnt (fun j => mv_gP fkn fco fla ffi fe fa fk fi cls (j + 1) a0 a1 a2 a3) n))]) (rest := []) (C := R_M) ⟨hx, hb, hml, hown, hts⟩ (mc_M_keepWithPapersX l s0 dC dI cI cR cL cZ r n nw pb (nI qc) fm fi fr fl u_14 fg L f fco fla ffi fki fra fkn cls cpa fe fa fk (mr_cnt (fun j => mv_gP fkn fco fla ffi fe fa fk fi cls (j + 1) a0 a1 a2 a3) n) (fun j => mv_gP fkn fco fla ffi fe fa fk fi cls (j + 1) a0 a1 a2 a3) _ (Nat.le_trans (mr_cnt_le _ _) hX.1) rfl hga hX hN) ⟨(mr_cB 1 (hts (Cond.code y_M_keepWithPapers b_M_keepWithPapers 5 (some .int)) mw_226) (hts (Cond.initialized y_M_keepWithPapers.cls) mw_227) (hts (Cond.methodLink "MeasureRows" 142 y_M_keepWithPapers) mw_228) rfl rfl (by decide +kernel) ⟨Nat.le_of_ble_eq_true rfl, Nat.le_of_ble_eq_true rfl⟩), (hts (Cond.instanceMethod y_M_keepWithPapers) mw_229), (hts (Cond.selects "MeasureRows" y_M_keepWithPapers y_M_keepWithPapers) mw_230)⟩ (mr_preCV hBH hK hP (hD.weaken (fun _ _ _ h => hA0 _ h)) (ci := 0) (q0 := 0) rfl rfl) rfl rfl hl.1 rfl (lv_room (Nat.le_of_ble_eq_true rfl)) d_M_apply_58 ⟨Nat.le_of_ble_eq_true rfl, Nat.le_of_ble_eq_true rfl⟩) hS (fun q _ h => hFc q h) hFc (fun r_15 u_16 t9 H1 locs ht9 hvm hw hB1 hz1 hk1 hS => ?_)
          obtain ⟨hP1, hK1, hD1⟩ := hB1
          rw [ht9] at hP1
          have hP := hP1
          have hD := hD1.weaken (fun _ _ _ h => hFc _ h)
          clear hP1 hD1 hK1 hk1 hFc
          generalize H1 = H at hP hS ⊢
          have hP : va_P (dC, dI) mr_cl (([((r 0), .inr (0, mf_M r (nI n) nw pb (nI qc))), ((r 1), .inr (1, [.ref (r 2), .ref (r 3)])), ((r 2), .inl (cI, 8, .inl fm)), ((r 3), .inl (cI, 8, .inl fi)), ((r 4), .inl (cR, 80, .inr (.inr (.inr (.inr fr))))), ((r 5), .inl (cI, 80, .inl fl)), ((r 6), .inl (cI, 80, .inl u_16)), ((r 7), .inl (cI, 8, .inl fg))] : va_W) ++ va_pl L f) H := hP
          have hD : va_D A (([((r 0), .inr (0, mf_M r (nI n) nw pb (nI qc))), ((r 1), .inr (1, [.ref (r 2), .ref (r 3)])), ((r 2), .inl (cI, 8, .inl fm)), ((r 3), .inl (cI, 8, .inl fi)), ((r 4), .inl (cR, 80, .inr (.inr (.inr (.inr fr))))), ((r 5), .inl (cI, 80, .inl fl)), ((r 6), .inl (cI, 80, .inl u_16)), ((r 7), .inl (cI, 8, .inl fg))] : va_W) ++ va_pl L f) := hD
          have hBH := hB.at hS hA0
          obtain ⟨rfl, hkp⟩ : r_15 = nI (mr_cnt (mv_kp (fun j => mv_gP fkn fco fla ffi fe fa fk fi cls (j + 1) a0 a1 a2 a3) cpa pb) n) ∧ ∀ m, m < n → ¬ (mv_kp (fun j => mv_gP fkn fco fla ffi fe fa fk fi cls (j + 1) a0 a1 a2 a3) cpa pb) m = 0 → u_16 (mr_cnt (mv_kp (fun j => mv_gP fkn fco fla ffi fe fa fk fi cls (j + 1) a0 a1 a2 a3) cpa pb) m) = nI (m + 1) := hw
          refine lv_istore (lv' := [(5, .int (nI (mr_cnt (mv_kp (fun j => mv_gP fkn fco fla ffi fe fa fk fi cls (j + 1) a0 a1 a2 a3) cpa pb) n))), (0, .ref (r 0)), (1, .int a0), (2, .int a1), (3, .int a2), (4, .int a3)]) hx hb d_M_apply_61 hl (by decide) rfl (fun ls hl => ?_)
          refine lv_iload hx hb d_M_apply_63 (lv_at hl 0 rfl) ?_
          refine lv_if_ne (tgt := 70) hx hb d_M_apply_65 (by decide) (fun c_17 => ?_) (fun c_17 => ?_)
          · refine lv_aload_n hx hb d_M_apply_70 rfl (lv_at hl 1 rfl) ?_
            refine lv_iload hx hb d_M_apply_71 (lv_at hl 0 rfl) ?_
            have hFc := mr_Afree hD hS hA
            refine va_callv (va_runV (As := [.int (nI (mr_cnt (mv_kp (fun j => mv_gP fkn fco fla ffi fe fa fk fi cls (j + 1) a0 a1 a2 a3) cpa pb) n))]) (rest := []) (C := R_M) ⟨hx, hb, hml, hown, hts⟩ (mc_M_weighKindsX l s0 dC dI cI cR cL cZ r n nw pb (nI qc) fm fi fr fl u_16 fg L f fco fla ffi fki fra fkn cls cpa fe fa fk (mr_cnt (mv_kp (fun j => mv_gP fkn fco fla ffi fe fa fk fi cls (j + 1) a0 a1 a2 a3) cpa pb) n) (mv_kp (fun j => mv_gP fkn fco fla ffi fe fa fk fi cls (j + 1) a0 a1 a2 a3) cpa pb) _ (Nat.le_trans (mr_cnt_le _ _) hX.1) rfl hkp hX hN) ⟨(mr_cB 1 (hts (Cond.code y_M_weighKinds b_M_weighKinds 4 none) mw_231) (hts (Cond.initialized y_M_weighKinds.cls) mw_232) (hts (Cond.methodLink "MeasureRows" 145 y_M_weighKinds) mw_233) rfl rfl (by decide +kernel) ⟨Nat.le_of_ble_eq_true rfl, Nat.le_of_ble_eq_true rfl⟩), (hts (Cond.instanceMethod y_M_weighKinds) mw_234), (hts (Cond.selects "MeasureRows" y_M_weighKinds y_M_weighKinds) mw_235)⟩ (mr_preCV hBH hK hP (hD.weaken (fun _ _ _ h => hA0 _ h)) (ci := 0) (q0 := 0) rfl rfl) rfl rfl hl.1 rfl (lv_room (Nat.le_of_ble_eq_true rfl)) d_M_apply_73 ⟨Nat.le_of_ble_eq_true rfl, Nat.le_of_ble_eq_true rfl⟩) hS (fun q _ h => hFc q h) hFc (fun u_19 t9 H1 locs ht9 hvm hw hB1 hz1 hk1 hS => ?_)
            obtain ⟨hP1, hK1, hD1⟩ := hB1
            rw [ht9] at hP1
            have hP := hP1
            have hD := hD1.weaken (fun _ _ _ h => hFc _ h)
            clear hP1 hD1 hK1 hk1 hFc
            generalize H1 = H at hP hS ⊢
            have hP : va_P (dC, dI) mr_cl (([((r 0), .inr (0, mf_M r (nI n) nw pb (nI qc))), ((r 1), .inr (1, [.ref (r 2), .ref (r 3)])), ((r 2), .inl (cI, 8, .inl fm)), ((r 3), .inl (cI, 8, .inl fi)), ((r 4), .inl (cR, 80, .inr (.inr (.inr (.inr fr))))), ((r 5), .inl (cI, 80, .inl fl)), ((r 6), .inl (cI, 80, .inl u_16)), ((r 7), .inl (cI, 8, .inl u_19))] : va_W) ++ va_pl L f) H := hP
            have hD : va_D A (([((r 0), .inr (0, mf_M r (nI n) nw pb (nI qc))), ((r 1), .inr (1, [.ref (r 2), .ref (r 3)])), ((r 2), .inl (cI, 8, .inl fm)), ((r 3), .inl (cI, 8, .inl fi)), ((r 4), .inl (cR, 80, .inr (.inr (.inr (.inr fr))))), ((r 5), .inl (cI, 80, .inl fl)), ((r 6), .inl (cI, 80, .inl u_16)), ((r 7), .inl (cI, 8, .inl u_19))] : va_W) ++ va_pl L f) := hD
            have hBH := hB.at hS hA0
            have hwt : ∀ k, k < 8 → u_19 k = mr_wt (mv_kp (fun j => mv_gP fkn fco fla ffi fe fa fk fi cls (j + 1) a0 a1 a2 a3) cpa pb) (mr_ww fco fra) (mr_kd fki) n k := hw
            refine lv_aload_n hx hb d_M_apply_76 rfl (lv_at hl 1 rfl) ?_
            refine lv_iload hx hb d_M_apply_77 (lv_at hl 0 rfl) ?_
            have hFc := mr_Afree hD hS hA
            refine va_callv (va_runV (As := [.int (nI (mr_cnt (mv_kp (fun j => mv_gP fkn fco fla ffi fe fa fk fi cls (j + 1) a0 a1 a2 a3) cpa pb) n))]) (rest := []) (C := R_M) ⟨hx, hb, hml, hown, hts⟩ (mc_M_listUnbeatenX l s0 dC dI cI cR cL cZ r n nw pb (nI qc) fm fi fr fl u_16 u_19 L f fco fla ffi fki fra fkn cls cpa fe fa fk (mr_cnt (mv_kp (fun j => mv_gP fkn fco fla ffi fe fa fk fi cls (j + 1) a0 a1 a2 a3) cpa pb) n) (mv_kp (fun j => mv_gP fkn fco fla ffi fe fa fk fi cls (j + 1) a0 a1 a2 a3) cpa pb) _ (Nat.le_trans (mr_cnt_le _ _) hX.1) rfl hkp hwt hX hN) ⟨(mr_cB 1 (hts (Cond.code y_M_listUnbeaten b_M_listUnbeaten 5 none) mw_236) (hts (Cond.initialized y_M_listUnbeaten.cls) mw_237) (hts (Cond.methodLink "MeasureRows" 149 y_M_listUnbeaten) mw_238) rfl rfl (by decide +kernel) ⟨Nat.le_of_ble_eq_true rfl, Nat.le_of_ble_eq_true rfl⟩), (hts (Cond.instanceMethod y_M_listUnbeaten) mw_239), (hts (Cond.selects "MeasureRows" y_M_listUnbeaten y_M_listUnbeaten) mw_240)⟩ (mr_preCV hBH hK hP (hD.weaken (fun _ _ _ h => hA0 _ h)) (ci := 0) (q0 := 0) rfl rfl) rfl rfl hl.1 rfl (lv_room (Nat.le_of_ble_eq_true rfl)) d_M_apply_79 ⟨Nat.le_of_ble_eq_true rfl, Nat.le_of_ble_eq_true rfl⟩) hS (fun q _ h => hFc q h) hFc (fun u_21 t9 H1 locs ht9 hvm hw hB1 hz1 hk1 hS => ?_)
            obtain ⟨q_22, ft_23⟩ := u_21
            obtain ⟨hP1, hK1, hD1⟩ := hB1
            rw [ht9] at hP1
            have hP := hP1
            have hD := hD1.weaken (fun _ _ _ h => hFc _ h)
            clear hP1 hD1 hK1 hk1 hFc
            generalize H1 = H at hP hS ⊢
            have hP : va_P (dC, dI) mr_cl (([((r 0), .inr (0, mf_M r (nI n) nw pb (nI q_22))), ((r 1), .inr (1, [.ref (r 2), .ref (r 3)])), ((r 2), .inl (cI, 8, .inl fm)), ((r 3), .inl (cI, 8, .inl fi)), ((r 4), .inl (cR, 80, .inr (.inr (.inr (.inr fr))))), ((r 5), .inl (cI, 80, .inl ft_23)), ((r 6), .inl (cI, 80, .inl u_16)), ((r 7), .inl (cI, 8, .inl u_19))] : va_W) ++ va_pl L f) H := hP
            have hD : va_D A (([((r 0), .inr (0, mf_M r (nI n) nw pb (nI q_22))), ((r 1), .inr (1, [.ref (r 2), .ref (r 3)])), ((r 2), .inl (cI, 8, .inl fm)), ((r 3), .inl (cI, 8, .inl fi)), ((r 4), .inl (cR, 80, .inr (.inr (.inr (.inr fr))))), ((r 5), .inl (cI, 80, .inl ft_23)), ((r 6), .inl (cI, 80, .inl u_16)), ((r 7), .inl (cI, 8, .inl u_19))] : va_W) ++ va_pl L f) := hD
            have hBH := hB.at hS hA0
            have hlq : q_22 = mr_tot (mv_ub (mv_kp (fun j => mv_gP fkn fco fla ffi fe fa fk fi cls (j + 1) a0 a1 a2 a3) cpa pb) (mr_ww fco fra) (mr_kd fki) n) (mr_kd fki) n 8 := hw
            refine lv_aload_n hx hb d_M_apply_82 rfl (lv_at hl 1 rfl) ?_
            refine va_get (D := (dC, dI)) (ci := 0) (v := .int (nI q_22)) (C := R_M) (T := T_M) (N := 9) hx hb hts ti_M hown hK hP 0 rfl rfl 6 (by decide) (hts (Cond.fieldLink "MeasureRows" 36 "MeasureRows" "listedCount" "I") mw_61) (fun _ h9 => h9) rfl d_M_apply_83 ?_
            have hk0 : mk_M_apply a0 a1 a2 a3 = 0 := by unfold mk_M_apply; rw [if_pos c_3, if_neg c_6, if_neg c_9, if_neg c_12]
            have hle := mr_tot_le (mv_ub (mv_kp (fun j => mv_gP fkn fco fla ffi fe fa fk fi cls (j + 1) a0 a1 a2 a3) cpa pb) (mr_ww fco fra) (mr_kd fki) n) (mr_kd fki) n 8
            have hl2 := mr_cnt_le (fun m => if (mr_kd fki) m < 8 then mv_ub (mv_kp (fun j => mv_gP fkn fco fla ffi fe fa fk fi cls (j + 1) a0 a1 a2 a3) cpa pb) (mr_ww fco fra) (mr_kd fki) n m else 0) n
            have hP9 := hP
            have hD9 := hD
            refine mr_ret ?_
            refine W.widen (k := 1) (n := 6) (by omega) (by omega) ?_
            exact W.iret (v := nI q_22) hx hb hr (fun t ht hW => ⟨⟨_, (q_22, ft_23, u_16, u_19), rfl, ⟨(by show q_22 ≤ 80; have := hX.1; omega), hk0, by rw [← hlq]⟩, by rw [ht]; exact hP9, va_K.moved hW.alike hK, hD9⟩, hS.F ht⟩) hS.2.2 d_M_apply_86
          · refine lv_iconst (v := 0) hx hb d_M_apply_68 (by decide) ?_
            have hk0 : mk_M_apply a0 a1 a2 a3 = 0 := by unfold mk_M_apply; rw [if_pos c_3, if_neg c_6, if_neg c_9, if_neg c_12]
            have hc0 : mr_cnt (mv_kp (fun j => mv_gP fkn fco fla ffi fe fa fk fi cls (j + 1) a0 a1 a2 a3) cpa pb) n = 0 := (nI_eq (b := 0) (by have := mr_cnt_le (mv_kp (fun j => mv_gP fkn fco fla ffi fe fa fk fi cls (j + 1) a0 a1 a2 a3) cpa pb) n; have := hX.1; omega) (by omega)).mp c_17
            have hP9 := hP
            have hD9 := hD
            refine mr_ret ?_
            refine W.widen (k := 1) (n := 6) (by omega) (by omega) ?_
            exact W.iret (v := 0) hx hb hr (fun t ht hW => ⟨⟨_, (qc, fl, u_16, fg), rfl, ⟨hq, hk0, by rw [mr_tot0 hc0]; rfl⟩, by rw [ht]; exact hP9, va_K.moved hW.alike hK, hD9⟩, hS.F ht⟩) hS.2.2 d_M_apply_69
        · obtain ⟨sa, hstr⟩ := mr_str (hts (Cond.stringRef "MeasureRows" 136 "no such code, land or day") mw_220) hown
          exact mr_throw (names := mr_up) hx hb hlt hown (by decide +kernel) (by decide +kernel) (hts (Cond.classLink "MeasureRows" 78 mr_iae) mw_139) (hts (Cond.initialized mr_iae) mw_140) hstr (hB.own _ mr_a_iae) (hl.1.trans hml.symm) d_M_apply_30 d_M_apply_33 d_M_apply_34 d_M_apply_36 d_M_apply_39 hno (Nat.le_of_ble_eq_true rfl) (Nat.le_of_ble_eq_true rfl) (Nat.le_of_ble_eq_true rfl) (Nat.le_of_ble_eq_true rfl) hlocks ⟨rfl, by unfold mk_M_apply; rw [if_pos c_3, if_neg c_6, if_neg c_9, if_pos c_12]⟩ (Nat.le_of_ble_eq_true rfl) (Nat.le_of_ble_eq_true rfl)
set_option maxHeartbeats 4000000 in
set_option maxRecDepth 100000 in
theorem mc_L_applyX (l : Launch) (hlt : l.stackTraces = false) (s0 : State) (dC : Nat → ClassId) (dI : Nat → Nat → Nat) (cI cR cL cZ : ClassId) (r : Nat → Nat) (n : Nat) (nw pb : Int32) (qc : Nat) (fm fi : Nat → Int32) (fr : Nat → Option Nat) (fl fc fg : Nat → Int32) (L : List Nat) (f : Nat → va_E) (fco fla ffi fki fra fkn cls cpa fe fa fk : Nat → Int32) (o : Nat) (fo : Nat → Int64) (sz : Nat) (a0 : Int32) (a1 : Int32) (a2 : Int32) (a3 : Int32) (hq : qc ≤ 80) (hX : mr_RX cI n L f fr fco fla ffi fki fra fkn cls cpa fe fa fk) (hN : mr_NX n nw fco fki fra fkn fe fk) : Met l y_L_apply [Cond.codeWith y_L_apply b_L_apply 7 (some .int) [(0, 14, 17, 22)]] ({ frames := 7, cells := 1, slots := 6, locals := 138 }) (mr_PC s0 (dC, dI) [(cI, .int), (cR, .object "MeasureRows$Row"), (cL, .long), (cZ, .boolean)] [.ref (r 0), .int a0, .int a1, .int a2, .int a3, .ref o] (([(o, .inl (cL, 1, .inr (.inl fo))), ((r 0), .inr (0, mf_M r (nI n) nw pb (nI qc))), ((r 1), .inr (1, [.ref (r 2), .ref (r 3)])), ((r 2), .inl (cI, 8, .inl fm)), ((r 3), .inl (cI, 8, .inl fi)), ((r 4), .inl (cR, 80, .inr (.inr (.inr (.inr fr))))), ((r 5), .inl (cI, 80, .inl fl)), ((r 6), .inl (cI, 80, .inl fc)), ((r 7), .inl (cI, 8, .inl fg))] : va_W) ++ va_pl L f) sz) (va_Qi (fun rr u => rr = mk_M_apply a0 a1 a2 a3 ∧ (mk_M_apply a0 a1 a2 a3 = 0 → u 0 = ((nI (mr_tot (mv_ub (mv_kp (fun j => mv_gP fkn fco fla ffi fe fa fk fi cls (j + 1) a0 a1 a2 a3) cpa pb) (mr_ww fco fra) (mr_kd fki) n) (mr_kd fki) n 8) : Int32).toInt64))) (fun (u : Nat → Int64) t => ∃ (q9 : Nat) (fl9 fc9 fg9 : Nat → Int32), q9 ≤ 80 ∧ mr_W (dC, dI) [(cI, .int), (cR, .object "MeasureRows$Row"), (cL, .long), (cZ, .boolean)] (va_A (([(o, .inl (cL, 1, .inr (.inl fo))), ((r 0), .inr (0, mf_M r (nI n) nw pb (nI qc))), ((r 1), .inr (1, [.ref (r 2), .ref (r 3)])), ((r 2), .inl (cI, 8, .inl fm)), ((r 3), .inl (cI, 8, .inl fi)), ((r 4), .inl (cR, 80, .inr (.inr (.inr (.inr fr))))), ((r 5), .inl (cI, 80, .inl fl)), ((r 6), .inl (cI, 80, .inl fc)), ((r 7), .inl (cI, 8, .inl fg))] : va_W) ++ va_pl L f) sz) (([(o, .inl (cL, 1, .inr (.inl u))), ((r 0), .inr (0, mf_M r (nI n) nw pb (nI q9))), ((r 1), .inr (1, [.ref (r 2), .ref (r 3)])), ((r 2), .inl (cI, 8, .inl fm)), ((r 3), .inl (cI, 8, .inl fi)), ((r 4), .inl (cR, 80, .inr (.inr (.inr (.inr fr))))), ((r 5), .inl (cI, 80, .inl fl9)), ((r 6), .inl (cI, 80, .inl fc9)), ((r 7), .inl (cI, 8, .inl fg9))] : va_W) ++ va_pl L f) t) (va_A (([(o, .inl (cL, 1, .inr (.inl fo))), ((r 0), .inr (0, mf_M r (nI n) nw pb (nI qc))), ((r 1), .inr (1, [.ref (r 2), .ref (r 3)])), ((r 2), .inl (cI, 8, .inl fm)), ((r 3), .inl (cI, 8, .inl fi)), ((r 4), .inl (cR, 80, .inr (.inr (.inr (.inr fr))))), ((r 5), .inl (cI, 80, .inl fl)), ((r 6), .inl (cI, 80, .inl fc)), ((r 7), .inl (cI, 8, .inl fg))] : va_W) ++ va_pl L f) sz)) 1 6 (va_A (([(o, .inl (cL, 1, .inr (.inl fo))), ((r 0), .inr (0, mf_M r (nI n) nw pb (nI qc))), ((r 1), .inr (1, [.ref (r 2), .ref (r 3)])), ((r 2), .inl (cI, 8, .inl fm)), ((r 3), .inl (cI, 8, .inl fi)), ((r 4), .inl (cR, 80, .inr (.inr (.inr (.inr fr))))), ((r 5), .inl (cI, 80, .inl fl)), ((r 6), .inl (cI, 80, .inl fc)), ((r 7), .inl (cI, 8, .inl fg))] : va_W) ++ va_pl L f) sz) := by
  refine mr_ofH (cc := b_L_apply) (maxL := 7) (ret := (some .int)) (by decide) ?_
  intro p e s m args below meth c s₁ B hml htab hv
  obtain ⟨rfl, hsz, hB, hK, hP, hD0⟩ := hv
  subst hsz
  have hA0 := mr_A hB hD0
  have hD := hD0.self (sz := s.heap.size)
  generalize hAe : va_A (([(o, .inl (cL, 1, .inr (.inl fo))), ((r 0), .inr (0, mf_M r (nI n) nw pb (nI qc))), ((r 1), .inr (1, [.ref (r 2), .ref (r 3)])), ((r 2), .inl (cI, 8, .inl fm)), ((r 3), .inl (cI, 8, .inl fi)), ((r 4), .inl (cR, 80, .inr (.inr (.inr (.inr fr))))), ((r 5), .inl (cI, 80, .inl fl)), ((r 6), .inl (cI, 80, .inl fc)), ((r 7), .inl (cI, 8, .inl fg))] : va_W) ++ va_pl L f) s.heap.size = A at hD hA0 ⊢
  have hA : ∀ q : Nat, s.heap.size ≤ q → A q := fun q h => by rw [← hAe]; exact Or.inr h
  have hS : va_S A s.heap s.heap [] := va_S.rf
  have hP : va_P (dC, dI) mr_cl (([(o, .inl (cL, 1, .inr (.inl fo))), ((r 0), .inr (0, mf_M r (nI n) nw pb (nI qc))), ((r 1), .inr (1, [.ref (r 2), .ref (r 3)])), ((r 2), .inl (cI, 8, .inl fm)), ((r 3), .inl (cI, 8, .inl fi)), ((r 4), .inl (cR, 80, .inr (.inr (.inr (.inr fr))))), ((r 5), .inl (cI, 80, .inl fl)), ((r 6), .inl (cI, 80, .inl fc)), ((r 7), .inl (cI, 8, .inl fg))] : va_W) ++ va_pl L f) s.heap := hP
  have hBH := hB.at hS hA0
  have hx := B.exec
  have hb := B.bytes
  have hr := B.returns
  have hlocks := B.notSynchronized
  have hts : ∀ w ∈ lw_tbl, w.before [.ref (r 0), .int a0, .int a1, .int a2, .int a3, .ref o].toArray s = true := hB.hts _
  have hown : s.vm.findClass "MeasureRowsLaw" = some m.cls := findClass_of_methodNamed B.named
  have hl := lv_entry ([.ref (r 0), .int a0, .int a1, .int a2, .int a3, .ref o]) (n := 7) (Nat.le_of_ble_eq_true rfl)
  rw [lg_entry_eq]
  generalize (lg_sl ([.ref (r 0), .int a0, .int a1, .int a2, .int a3, .ref o]) ++ List.replicate (7 - (lg_sl ([.ref (r 0), .int a0, .int a1, .int a2, .int a3, .ref o])).length) Slot.unset).toArray = ls at hl ⊢
  have hl : lv_has ls 7 [(0, .ref (r 0)), (1, .int a0), (2, .int a1), (3, .int a2), (4, .int a3), (5, .ref o)] := hl
  obtain ⟨x0, ht0, s0a, s0b, s0c, s0d⟩ := mr_tab1 htab
  refine lv_aload hx hb d_L_apply_0 (lv_at hl 5 rfl) ?_
  refine lv_iconst (v := 0) hx hb d_L_apply_2 (by decide) ?_
  refine lv_aload_n hx hb d_L_apply_3 rfl (lv_at hl 0 rfl) ?_
  refine lv_iload_n hx hb d_L_apply_4 rfl (lv_at hl 1 rfl) ?_
  refine lv_iload_n hx hb d_L_apply_5 rfl (lv_at hl 2 rfl) ?_
  refine lv_iload_n hx hb d_L_apply_6 rfl (lv_at hl 3 rfl) ?_
  refine lv_iload hx hb d_L_apply_7 (lv_at hl 4 rfl) ?_
  have hPc : va_P (dC, dI) mr_cl (([((r 0), .inr (0, mf_M r (nI n) nw pb (nI qc))), ((r 1), .inr (1, [.ref (r 2), .ref (r 3)])), ((r 2), .inl (cI, 8, .inl fm)), ((r 3), .inl (cI, 8, .inl fi)), ((r 4), .inl (cR, 80, .inr (.inr (.inr (.inr fr))))), ((r 5), .inl (cI, 80, .inl fl)), ((r 6), .inl (cI, 80, .inl fc)), ((r 7), .inl (cI, 8, .inl fg))] : va_W) ++ va_pl L f) s.heap := fun k y h => hP (k + 1) y h
  have hDc : va_D A (([((r 0), .inr (0, mf_M r (nI n) nw pb (nI qc))), ((r 1), .inr (1, [.ref (r 2), .ref (r 3)])), ((r 2), .inl (cI, 8, .inl fm)), ((r 3), .inl (cI, 8, .inl fi)), ((r 4), .inl (cR, 80, .inr (.inr (.inr (.inr fr))))), ((r 5), .inl (cI, 80, .inl fl)), ((r 6), .inl (cI, 80, .inl fc)), ((r 7), .inl (cI, 8, .inl fg))] : va_W) ++ va_pl L f) := ⟨fun i j p q h1 h2 h => Nat.succ.inj (hD.1 (i + 1) (j + 1) p q h1 h2 h), fun k q h => hD.2 (k + 1) q h⟩
  have hFc : ∀ q : Nat, va_A (([((r 0), .inr (0, mf_M r (nI n) nw pb (nI qc))), ((r 1), .inr (1, [.ref (r 2), .ref (r 3)])), ((r 2), .inl (cI, 8, .inl fm)), ((r 3), .inl (cI, 8, .inl fi)), ((r 4), .inl (cR, 80, .inr (.inr (.inr (.inr fr))))), ((r 5), .inl (cI, 80, .inl fl)), ((r 6), .inl (cI, 80, .inl fc)), ((r 7), .inl (cI, 8, .inl fg))] : va_W) ++ va_pl L f) s.heap.size q → A q := fun q h => h.elim (fun ⟨k, e, h⟩ => hD.2 (k + 1) (q, e) h) (fun h => hA q h)
  refine mr_callVw (As := [.int a0, .int a1, .int a2, .int a3]) (rest := [.int 0, .ref o]) (C := R_M) ⟨hx, hb, hml, hown, hts⟩ (mc_M_applyX l hlt s0 dC dI cI cR cL cZ r n nw pb qc fm fi fr fl fc fg L f fco fla ffi fki fra fkn cls cpa fe fa fk _ a0 a1 a2 a3 hq hX hN) ⟨(mr_cB 4 (hts (Cond.code y_M_apply b_M_apply 6 (some .int)) mw_370) (hts (Cond.initialized y_M_apply.cls) mw_371) (hts (Cond.methodLink "MeasureRowsLaw" 30 y_M_apply) mw_372) rfl rfl (by decide +kernel) ⟨Nat.le_of_ble_eq_true rfl, Nat.le_of_ble_eq_true rfl⟩), (hts (Cond.instanceMethod y_M_apply) mw_373), (hts (Cond.selects "MeasureRows" y_M_apply y_M_apply) mw_374)⟩ (mr_preCV hBH hK hPc (hDc.weaken (fun _ _ _ h => hA0 _ h)) (ci := 0) (q0 := 0) rfl rfl) rfl hl.1 rfl (Nat.le_of_ble_eq_true rfl) d_L_apply_9 ⟨Nat.le_of_ble_eq_true rfl, Nat.le_of_ble_eq_true rfl⟩ hS (fun q _ h => hFc q h) hFc (fun r9 u9 t H1 locs ht hvm hw hB1 hz1 hk1 hS => ?_) (fun E9 hE => ?_)
  · obtain ⟨q9, fl9, fc9, fg9⟩ := u9
    obtain ⟨hq9, hk0, rfl⟩ := hw
    have hq9 : q9 ≤ 80 := hq9
    obtain ⟨hP1, hK1, hD1⟩ := hB1
    rw [ht] at hP1
    obtain ⟨hP, hD⟩ := mr_tl hP hD hk1 hFc hP1 hD1
    clear hK1 hk1 hPc hDc hFc
    generalize H1 = H at hP hS ht ⊢
    have hP : va_P (dC, dI) mr_cl (([(o, .inl (cL, 1, .inr (.inl fo))), ((r 0), .inr (0, mf_M r (nI n) nw pb (nI q9))), ((r 1), .inr (1, [.ref (r 2), .ref (r 3)])), ((r 2), .inl (cI, 8, .inl fm)), ((r 3), .inl (cI, 8, .inl fi)), ((r 4), .inl (cR, 80, .inr (.inr (.inr (.inr fr))))), ((r 5), .inl (cI, 80, .inl fl9)), ((r 6), .inl (cI, 80, .inl fc9)), ((r 7), .inl (cI, 8, .inl fg9))] : va_W) ++ va_pl L f) H := hP
    have hD : va_D A (([(o, .inl (cL, 1, .inr (.inl fo))), ((r 0), .inr (0, mf_M r (nI n) nw pb (nI q9))), ((r 1), .inr (1, [.ref (r 2), .ref (r 3)])), ((r 2), .inl (cI, 8, .inl fm)), ((r 3), .inl (cI, 8, .inl fi)), ((r 4), .inl (cR, 80, .inr (.inr (.inr (.inr fr))))), ((r 5), .inl (cI, 80, .inl fl9)), ((r 6), .inl (cI, 80, .inl fc9)), ((r 7), .inl (cI, 8, .inl fg9))] : va_W) ++ va_pl L f) := hD
    have hBH := hB.at hS hA0
    refine W.widen (k := 1) (n := 6) (Nat.le_of_ble_eq_true rfl) (Nat.le_of_ble_eq_true rfl) ?_
    refine lv_i2l (v := (nI (mr_tot (mv_ub (mv_kp (fun j => mv_gP fkn fco fla ffi fe fa fk fi cls (j + 1) a0 a1 a2 a3) cpa pb) (mr_ww fco fra) (mr_kd fki) n) (mr_kd fki) n 8)).toInt64) hx hb d_L_apply_12 rfl ?_
    refine va_last (D := (dC, dI)) hx hb hK hP hD hS 0 2 rfl rfl (i := 0) (by unfold vp_in; decide) d_L_apply_13 (fun H locs hP hD hS => ?_)
    have hP : va_P (dC, dI) mr_cl (([(o, .inl (cL, 1, .inr (.inl (vp_updL fo (0 : Int32).toNatClampNeg ((nI (mr_tot (mv_ub (mv_kp (fun j => mv_gP fkn fco fla ffi fe fa fk fi cls (j + 1) a0 a1 a2 a3) cpa pb) (mr_ww fco fra) (mr_kd fki) n) (mr_kd fki) n 8)).toInt64))))), ((r 0), .inr (0, mf_M r (nI n) nw pb (nI q9))), ((r 1), .inr (1, [.ref (r 2), .ref (r 3)])), ((r 2), .inl (cI, 8, .inl fm)), ((r 3), .inl (cI, 8, .inl fi)), ((r 4), .inl (cR, 80, .inr (.inr (.inr (.inr fr))))), ((r 5), .inl (cI, 80, .inl fl9)), ((r 6), .inl (cI, 80, .inl fc9)), ((r 7), .inl (cI, 8, .inl fg9))] : va_W) ++ va_pl L f) H := hP
    have hD : va_D A (([(o, .inl (cL, 1, .inr (.inl (vp_updL fo (0 : Int32).toNatClampNeg ((nI (mr_tot (mv_ub (mv_kp (fun j => mv_gP fkn fco fla ffi fe fa fk fi cls (j + 1) a0 a1 a2 a3) cpa pb) (mr_ww fco fra) (mr_kd fki) n) (mr_kd fki) n 8)).toInt64))))), ((r 0), .inr (0, mf_M r (nI n) nw pb (nI q9))), ((r 1), .inr (1, [.ref (r 2), .ref (r 3)])), ((r 2), .inl (cI, 8, .inl fm)), ((r 3), .inl (cI, 8, .inl fi)), ((r 4), .inl (cR, 80, .inr (.inr (.inr (.inr fr))))), ((r 5), .inl (cI, 80, .inl fl9)), ((r 6), .inl (cI, 80, .inl fc9)), ((r 7), .inl (cI, 8, .inl fg9))] : va_W) ++ va_pl L f) := hD
    have hBH := hB.at hS hA0
    refine lv_goto (tgt := 21) hx hb d_L_apply_14 (by decide) ?_
    refine lv_iconst (v := 0) hx hb d_L_apply_21 (by decide) ?_
    exact W.iret (v := 0) hx hb hr (fun t ht hW => ⟨⟨_, (vp_updL fo (0 : Int32).toNatClampNeg ((nI (mr_tot (mv_ub (mv_kp (fun j => mv_gP fkn fco fla ffi fe fa fk fi cls (j + 1) a0 a1 a2 a3) cpa pb) (mr_ww fco fra) (mr_kd fki) n) (mr_kd fki) n 8)).toInt64)), rfl, ⟨hk0.symm, fun _ => rfl⟩, q9, fl9, fc9, fg9, hq9, ⟨by rw [ht]; exact hP, va_K.moved hW.alike hK, hD⟩⟩, hS.F ht⟩) hS.2.2 d_L_apply_22
  · obtain ⟨rfl, hkE⟩ := hE
    refine ⟨17, ⟨[], [], x0, mr_iae, ht0, s0c, mr_cov s0a s0b (by decide), by rw [s0d]; decide, (by rw [s0d]; exact (hts (Cond.classLink "MeasureRowsLaw" 22 mr_iae) mw_363)), (hts (Cond.castable mr_iae mr_iae) mw_364), (fun y hy => nomatch hy)⟩, fun q9 H1 hz hk1 => ?_⟩
    have hS : va_S A s.heap H1 [] := ⟨Nat.le_trans hS.1 hz, fun a h1 h2 => (hk1 a (Nat.lt_of_lt_of_le h1 hS.1)).trans (hS.2.1 a h1 h2), hS.2.2⟩
    have hP := hP.kept (fun k x hx => hk1 x.1 (hP k x hx).lt)
    generalize H1 = H at hP hS ⊢
    refine W.widen (k := 1) (n := 6) (Nat.le_of_ble_eq_true rfl) (Nat.le_of_ble_eq_true rfl) ?_
    refine lv_astore (lv' := [(6, .ref q9), (0, .ref (r 0)), (1, .int a0), (2, .int a1), (3, .int a2), (4, .int a3), (5, .ref o)]) hx hb d_L_apply_17 hl (by decide) rfl (fun ls hl => ?_)
    refine lv_iconst (v := 1) hx hb d_L_apply_19 (by decide) ?_
    exact W.iret (v := 1) hx hb hr (fun t ht hW => ⟨⟨_, fo, rfl, ⟨hkE.symm, fun h => absurd (hkE.symm.trans h) (by decide)⟩, qc, fl, fc, fg, hq, ⟨by rw [ht]; exact hP, va_K.moved hW.alike hK, hD⟩⟩, hS.F ht⟩) hS.2.2 d_L_apply_20
