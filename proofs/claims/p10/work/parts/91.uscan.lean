def mk_M_scan (a0 a1 a2 : Int32) : Int32 := if (mv_M_levelOf a0) = 0 then 1 else if (mv_M_isLand a1) = 0 then 1 else if (mv_M_isDay a2) = 0 then 1 else 0

set_option maxHeartbeats 4000000 in
set_option maxRecDepth 100000 in
theorem mc_M_scanX (l : Launch) (hlt : l.stackTraces = false) (s0 : State) (dC : Nat → ClassId) (dI : Nat → Nat → Nat) (cI cR cL cZ : ClassId) (r : Nat → Nat) (n : Nat) (nw pb : Int32) (qc : Nat) (fm fi : Nat → Int32) (fr : Nat → Option Nat) (fl fc fg : Nat → Int32) (L : List Nat) (f : Nat → va_E) (fco fla ffi fki fra fkn cls cpa fe fa fk : Nat → Int32) (sz : Nat) (a0 : Int32) (a1 : Int32) (a2 : Int32) (hq : qc ≤ 80) (hX : mr_RX cI n L f fr fco fla ffi fki fra fkn cls cpa fe fa fk) (hN : mr_NX n nw fco fki fra fkn fe fk) : mr_Met l y_M_scan [Cond.code y_M_scan b_M_scan 5 (some .int)] ({ frames := 6, cells := 1, slots := 6, locals := 113 }) (mr_PC s0 (dC, dI) [(cI, .int), (cR, .object "MeasureRows$Row"), (cL, .long), (cZ, .boolean)] [.ref (r 0), .int a0, .int a1, .int a2] (([((r 0), .inr (0, mf_M r (nI n) nw pb (nI qc))), ((r 1), .inr (1, [.ref (r 2), .ref (r 3)])), ((r 2), .inl (cI, 8, .inl fm)), ((r 3), .inl (cI, 8, .inl fi)), ((r 4), .inl (cR, 80, .inr (.inr (.inr (.inr fr))))), ((r 5), .inl (cI, 80, .inl fl)), ((r 6), .inl (cI, 80, .inl fc)), ((r 7), .inl (cI, 8, .inl fg))] : va_W) ++ va_pl L f) sz) (va_Qi (fun rr u => u.1 ≤ 80 ∧ mk_M_scan a0 a1 a2 = 0 ∧ rr = nI (mr_cnt (fun j => mv_gP fkn fco fla ffi fe fa fk fi cls (j + 1) a0 a1 a2 nw) n)) (fun (u : Nat × (Nat → Int32) × (Nat → Int32) × (Nat → Int32)) t => mr_W (dC, dI) [(cI, .int), (cR, .object "MeasureRows$Row"), (cL, .long), (cZ, .boolean)] (va_A (([((r 0), .inr (0, mf_M r (nI n) nw pb (nI qc))), ((r 1), .inr (1, [.ref (r 2), .ref (r 3)])), ((r 2), .inl (cI, 8, .inl fm)), ((r 3), .inl (cI, 8, .inl fi)), ((r 4), .inl (cR, 80, .inr (.inr (.inr (.inr fr))))), ((r 5), .inl (cI, 80, .inl fl)), ((r 6), .inl (cI, 80, .inl fc)), ((r 7), .inl (cI, 8, .inl fg))] : va_W) ++ va_pl L f) sz) (([((r 0), .inr (0, mf_M r (nI n) nw pb (nI u.1))), ((r 1), .inr (1, [.ref (r 2), .ref (r 3)])), ((r 2), .inl (cI, 8, .inl fm)), ((r 3), .inl (cI, 8, .inl fi)), ((r 4), .inl (cR, 80, .inr (.inr (.inr (.inr fr))))), ((r 5), .inl (cI, 80, .inl u.2.1)), ((r 6), .inl (cI, 80, .inl u.2.2.1)), ((r 7), .inl (cI, 8, .inl u.2.2.2))] : va_W) ++ va_pl L f) t) (va_A (([((r 0), .inr (0, mf_M r (nI n) nw pb (nI qc))), ((r 1), .inr (1, [.ref (r 2), .ref (r 3)])), ((r 2), .inl (cI, 8, .inl fm)), ((r 3), .inl (cI, 8, .inl fi)), ((r 4), .inl (cR, 80, .inr (.inr (.inr (.inr fr))))), ((r 5), .inl (cI, 80, .inl fl)), ((r 6), .inl (cI, 80, .inl fc)), ((r 7), .inl (cI, 8, .inl fg))] : va_W) ++ va_pl L f) sz)) (fun E => (E = mr_iae ∧ mk_M_scan a0 a1 a2 = 1)) 1 6 (va_A (([((r 0), .inr (0, mf_M r (nI n) nw pb (nI qc))), ((r 1), .inr (1, [.ref (r 2), .ref (r 3)])), ((r 2), .inl (cI, 8, .inl fm)), ((r 3), .inl (cI, 8, .inl fi)), ((r 4), .inl (cR, 80, .inr (.inr (.inr (.inr fr))))), ((r 5), .inl (cI, 80, .inl fl)), ((r 6), .inl (cI, 80, .inl fc)), ((r 7), .inl (cI, 8, .inl fg))] : va_W) ++ va_pl L f) sz) := by
  refine mr_of (cc := b_M_scan) (maxL := 5) (ret := (some .int)) (by decide) rfl ?_
  intro p e s m args below meth c s₁ B hml hno hv
  obtain ⟨rfl, hsz, hB, hK, hP, hD0⟩ := hv
  subst hsz
  have hA0 := mr_A hB hD0
  have hD := hD0.self (sz := s.heap.size)
  generalize hAe : va_A (([((r 0), .inr (0, mf_M r (nI n) nw pb (nI qc))), ((r 1), .inr (1, [.ref (r 2), .ref (r 3)])), ((r 2), .inl (cI, 8, .inl fm)), ((r 3), .inl (cI, 8, .inl fi)), ((r 4), .inl (cR, 80, .inr (.inr (.inr (.inr fr))))), ((r 5), .inl (cI, 80, .inl fl)), ((r 6), .inl (cI, 80, .inl fc)), ((r 7), .inl (cI, 8, .inl fg))] : va_W) ++ va_pl L f) s.heap.size = A at hD hA0 ⊢
  have hA : ∀ q : Nat, s.heap.size ≤ q → A q := fun q h => by rw [← hAe]; exact Or.inr h
  have hS : va_S A s.heap s.heap [] := va_S.rf
  have hP : va_P (dC, dI) mr_cl (([((r 0), .inr (0, mf_M r (nI n) nw pb (nI qc))), ((r 1), .inr (1, [.ref (r 2), .ref (r 3)])), ((r 2), .inl (cI, 8, .inl fm)), ((r 3), .inl (cI, 8, .inl fi)), ((r 4), .inl (cR, 80, .inr (.inr (.inr (.inr fr))))), ((r 5), .inl (cI, 80, .inl fl)), ((r 6), .inl (cI, 80, .inl fc)), ((r 7), .inl (cI, 8, .inl fg))] : va_W) ++ va_pl L f) s.heap := hP
  have hBH := hB.at hS hA0
  have hx := B.exec
  have hb := B.bytes
  have hr := B.returns
  have hlocks := B.notSynchronized
  have hts : ∀ w ∈ lw_tbl, w.before [.ref (r 0), .int a0, .int a1, .int a2].toArray s = true := hB.hts _
  have hown : s.vm.findClass "MeasureRows" = some m.cls := findClass_of_methodNamed B.named
  have hl := lv_entry ([.ref (r 0), .int a0, .int a1, .int a2]) (n := 5) (Nat.le_of_ble_eq_true rfl)
  rw [lg_entry_eq]
  generalize (lg_sl ([.ref (r 0), .int a0, .int a1, .int a2]) ++ List.replicate (5 - (lg_sl ([.ref (r 0), .int a0, .int a1, .int a2])).length) Slot.unset).toArray = ls at hl ⊢
  have hl : lv_has ls 5 [(0, .ref (r 0)), (1, .int a0), (2, .int a1), (3, .int a2)] := hl
  refine lv_iload_n hx hb d_M_scan_0 rfl (lv_at hl 1 rfl) ?_
  refine vp_callSi (va_Run.run (va_runS (As := [.int a0]) (rest := []) ⟨hx, hb, hml, hown, hts⟩ (mc_M_levelOf l s0 a0) ⟨(mr_cB 1 (hts (Cond.code y_M_levelOf b_M_levelOf 1 (some .int)) mw_99) (hts (Cond.initialized y_M_levelOf.cls) mw_100) (hts (Cond.methodLink "MeasureRows" 71 y_M_levelOf) mw_219) rfl rfl (by decide +kernel) ⟨Nat.le_of_ble_eq_true rfl, Nat.le_of_ble_eq_true rfl⟩), (hts (Cond.static y_M_levelOf) mw_102)⟩ (mr_pre0 hBH) rfl rfl hl.1 rfl (lv_room (Nat.le_of_ble_eq_true rfl)) d_M_scan_1 ⟨Nat.le_of_ble_eq_true rfl, Nat.le_of_ble_eq_true rfl⟩)) (fun r_1 h_2 => ?_)
  subst h_2
  refine lv_if_eq (tgt := 21) hx hb d_M_scan_4 (by decide) (fun c_3 => ?_) (fun c_3 => ?_)
  · obtain ⟨sa, hstr⟩ := mr_str (hts (Cond.stringRef "MeasureRows" 136 "no such code, land or day") mw_220) hown
    exact mr_throw (names := mr_up) hx hb hlt hown (by decide +kernel) (by decide +kernel) (hts (Cond.classLink "MeasureRows" 78 mr_iae) mw_139) (hts (Cond.initialized mr_iae) mw_140) hstr (hB.own _ mr_a_iae) (hl.1.trans hml.symm) d_M_scan_21 d_M_scan_24 d_M_scan_25 d_M_scan_27 d_M_scan_30 hno (Nat.le_of_ble_eq_true rfl) (Nat.le_of_ble_eq_true rfl) (Nat.le_of_ble_eq_true rfl) (Nat.le_of_ble_eq_true rfl) hlocks ⟨rfl, by unfold mk_M_scan; rw [if_pos c_3]⟩ (Nat.le_of_ble_eq_true rfl) (Nat.le_of_ble_eq_true rfl)
  · refine lv_iload_n hx hb d_M_scan_7 rfl (lv_at hl 2 rfl) ?_
    refine vp_callSi (va_Run.run (va_runS (As := [.int a1]) (rest := []) ⟨hx, hb, hml, hown, hts⟩ (mc_M_isLand l s0 a1) ⟨(mr_cB 1 (hts (Cond.code y_M_isLand b_M_isLand 1 (some .boolean)) mw_1) (hts (Cond.initialized y_M_isLand.cls) mw_2) (hts (Cond.methodLink "MeasureRows" 49 y_M_isLand) mw_3) rfl rfl (by decide +kernel) ⟨Nat.le_of_ble_eq_true rfl, Nat.le_of_ble_eq_true rfl⟩), (hts (Cond.static y_M_isLand) mw_4)⟩ (mr_pre0 hBH) rfl rfl hl.1 rfl (lv_room (Nat.le_of_ble_eq_true rfl)) d_M_scan_8 ⟨Nat.le_of_ble_eq_true rfl, Nat.le_of_ble_eq_true rfl⟩)) (fun r_4 h_5 => ?_)
    subst h_5
    refine lv_if_eq (tgt := 21) hx hb d_M_scan_11 (by decide) (fun c_6 => ?_) (fun c_6 => ?_)
    · obtain ⟨sa, hstr⟩ := mr_str (hts (Cond.stringRef "MeasureRows" 136 "no such code, land or day") mw_220) hown
      exact mr_throw (names := mr_up) hx hb hlt hown (by decide +kernel) (by decide +kernel) (hts (Cond.classLink "MeasureRows" 78 mr_iae) mw_139) (hts (Cond.initialized mr_iae) mw_140) hstr (hB.own _ mr_a_iae) (hl.1.trans hml.symm) d_M_scan_21 d_M_scan_24 d_M_scan_25 d_M_scan_27 d_M_scan_30 hno (Nat.le_of_ble_eq_true rfl) (Nat.le_of_ble_eq_true rfl) (Nat.le_of_ble_eq_true rfl) (Nat.le_of_ble_eq_true rfl) hlocks ⟨rfl, by unfold mk_M_scan; rw [if_neg c_3, if_pos c_6]⟩ (Nat.le_of_ble_eq_true rfl) (Nat.le_of_ble_eq_true rfl)
    · refine lv_iload_n hx hb d_M_scan_14 rfl (lv_at hl 3 rfl) ?_
      refine vp_callSi (va_Run.run (va_runS (As := [.int a2]) (rest := []) ⟨hx, hb, hml, hown, hts⟩ (mc_M_isDay l s0 a2) ⟨(mr_cB 1 (hts (Cond.code y_M_isDay b_M_isDay 1 (some .boolean)) mw_9) (hts (Cond.initialized y_M_isDay.cls) mw_10) (hts (Cond.methodLink "MeasureRows" 83 y_M_isDay) mw_11) rfl rfl (by decide +kernel) ⟨Nat.le_of_ble_eq_true rfl, Nat.le_of_ble_eq_true rfl⟩), (hts (Cond.static y_M_isDay) mw_12)⟩ (mr_pre0 hBH) rfl rfl hl.1 rfl (lv_room (Nat.le_of_ble_eq_true rfl)) d_M_scan_15 ⟨Nat.le_of_ble_eq_true rfl, Nat.le_of_ble_eq_true rfl⟩)) (fun r_7 h_8 => ?_)
      subst h_8
      refine lv_if_ne (tgt := 31) hx hb d_M_scan_18 (by decide) (fun c_9 => ?_) (fun c_9 => ?_)
      · refine lv_aload_n hx hb d_M_scan_31 rfl (lv_at hl 0 rfl) ?_
        refine lv_aload_n hx hb d_M_scan_32 rfl (lv_at hl 0 rfl) ?_
        refine va_get (D := (dC, dI)) (ci := 0) (v := .ref (r 5)) (C := R_M) (T := T_M) (N := 9) hx hb hts ti_M hown hK hP 0 rfl rfl 5 (by decide) (hts (Cond.fieldLink "MeasureRows" 32 "MeasureRows" "listed" "[I") mw_60) (fun _ h9 => h9) rfl d_M_scan_33 ?_
        refine lv_iload_n hx hb d_M_scan_36 rfl (lv_at hl 1 rfl) ?_
        refine lv_iload_n hx hb d_M_scan_37 rfl (lv_at hl 2 rfl) ?_
        refine lv_iload_n hx hb d_M_scan_38 rfl (lv_at hl 3 rfl) ?_
        refine lv_aload_n hx hb d_M_scan_39 rfl (lv_at hl 0 rfl) ?_
        refine va_get (D := (dC, dI)) (ci := 0) (v := .int nw) (C := R_M) (T := T_M) (N := 9) hx hb hts ti_M hown hK hP 0 rfl rfl 3 (by decide) (hts (Cond.fieldLink "MeasureRows" 26 "MeasureRows" "now" "I") mw_58) (fun _ h9 => h9) rfl d_M_scan_40 ?_
        have hFc := mr_Afree hD hS hA
        refine va_calli (va_runV (As := [.ref (r 5), .int a0, .int a1, .int a2, .int nw]) (rest := []) (C := R_M) ⟨hx, hb, hml, hown, hts⟩ (mc_M_gather5X l s0 dC dI cI cR cL cZ r n nw pb (nI qc) fm fi fr fl fc fg L f fco fla ffi fki fra fkn cls cpa fe fa fk _ a0 a1 a2 nw hX hN) ⟨(mr_cB 5 (hts (Cond.code y_M_gather b_M_gather 9 (some .int)) mw_221) (hts (Cond.initialized y_M_gather.cls) mw_222) (hts (Cond.methodLink "MeasureRows" 138 y_M_gather) mw_223) rfl rfl (by decide +kernel) ⟨Nat.le_of_ble_eq_true rfl, Nat.le_of_ble_eq_true rfl⟩), (hts (Cond.instanceMethod y_M_gather) mw_224), (hts (Cond.selects "MeasureRows" y_M_gather y_M_gather) mw_225)⟩ (mr_preCV hBH hK hP (hD.weaken (fun _ _ _ h => hA0 _ h)) (ci := 0) (q0 := 0) rfl rfl) rfl rfl hl.1 rfl (lv_room (Nat.le_of_ble_eq_true rfl)) d_M_scan_43 ⟨Nat.le_of_ble_eq_true rfl, Nat.le_of_ble_eq_true rfl⟩) hS (fun q _ h => hFc q h) hFc (fun r_10 u_11 t9 H1 locs ht9 hvm hw hB1 hz1 hk1 hS => ?_)
        obtain ⟨hP1, hK1, hD1⟩ := hB1
        rw [ht9] at hP1
        have hP := hP1
        have hD := hD1.weaken (fun _ _ _ h => hFc _ h)
        clear hP1 hD1 hK1 hk1 hFc
        generalize H1 = H at hP hS ⊢
        have hP : va_P (dC, dI) mr_cl (([((r 0), .inr (0, mf_M r (nI n) nw pb (nI qc))), ((r 1), .inr (1, [.ref (r 2), .ref (r 3)])), ((r 2), .inl (cI, 8, .inl fm)), ((r 3), .inl (cI, 8, .inl fi)), ((r 4), .inl (cR, 80, .inr (.inr (.inr (.inr fr))))), ((r 5), .inl (cI, 80, .inl u_11)), ((r 6), .inl (cI, 80, .inl fc)), ((r 7), .inl (cI, 8, .inl fg))] : va_W) ++ va_pl L f) H := hP
        have hD : va_D A (([((r 0), .inr (0, mf_M r (nI n) nw pb (nI qc))), ((r 1), .inr (1, [.ref (r 2), .ref (r 3)])), ((r 2), .inl (cI, 8, .inl fm)), ((r 3), .inl (cI, 8, .inl fi)), ((r 4), .inl (cR, 80, .inr (.inr (.inr (.inr fr))))), ((r 5), .inl (cI, 80, .inl u_11)), ((r 6), .inl (cI, 80, .inl fc)), ((r 7), .inl (cI, 8, .inl fg))] : va_W) ++ va_pl L f) := hD
        have hBH := hB.at hS hA0
        obtain ⟨rfl, hga⟩ : r_10 = nI (mr_cnt (fun j => mv_gP fkn fco fla ffi fe fa fk fi cls (j + 1) a0 a1 a2 nw) n) ∧ ∀ m, m < n → ¬ (fun j => mv_gP fkn fco fla ffi fe fa fk fi cls (j + 1) a0 a1 a2 nw) m = 0 → u_11 (mr_cnt (fun j => mv_gP fkn fco fla ffi fe fa fk fi cls (j + 1) a0 a1 a2 nw) m) = nI (m + 1) := hw
        refine lv_istore (lv' := [(4, .int (nI (mr_cnt (fun j => mv_gP fkn fco fla ffi fe fa fk fi cls (j + 1) a0 a1 a2 nw) n))), (0, .ref (r 0)), (1, .int a0), (2, .int a1), (3, .int a2)]) hx hb d_M_scan_46 hl (by decide) rfl (fun ls hl => ?_)
        refine lv_iload hx hb d_M_scan_48 (lv_at hl 0 rfl) ?_
        refine lv_if_le (tgt := 59) hx hb d_M_scan_50 (by decide) (fun c_12 => ?_) (fun c_12 => ?_)
        · refine lv_iload hx hb d_M_scan_59 (lv_at hl 0 rfl) ?_
          have hk0 : mk_M_scan a0 a1 a2 = 0 := by unfold mk_M_scan; rw [if_neg c_3, if_neg c_6, if_neg c_9]
          have hP9 := hP
          have hD9 := hD
          refine mr_ret ?_
          refine W.widen (k := 1) (n := 6) (by omega) (by omega) ?_
          exact W.iret (v := nI (mr_cnt (fun j => mv_gP fkn fco fla ffi fe fa fk fi cls (j + 1) a0 a1 a2 nw) n)) hx hb hr (fun t ht hW => ⟨⟨_, (qc, u_11, fc, fg), rfl, ⟨hq, hk0, rfl⟩, by rw [ht]; exact hP9, va_K.moved hW.alike hK, hD9⟩, hS.F ht⟩) hS.2.2 d_M_scan_61
        · refine lv_aload_n hx hb d_M_scan_53 rfl (lv_at hl 1 rfl) ?_
          refine lv_iload hx hb d_M_scan_54 (lv_at hl 0 rfl) ?_
          refine va_put (D := (dC, dI)) (ci := 0) (v := .int (nI (mr_cnt (fun j => mv_gP fkn fco fla ffi fe fa fk fi cls (j + 1) a0 a1 a2 nw) n))) (ty := .int) (C := R_M) (T := T_M) (N := 9) hx hb hts ti_M t_M to_M tn_M hown hK hP hD hS 0 rfl rfl 6 (by decide) (hts (Cond.fieldLink "MeasureRows" 36 "MeasureRows" "listedCount" "I") mw_61) (fun _ h9 => h9) rfl (by decide +kernel) rfl rfl (Nat.le_of_ble_eq_true rfl) d_M_scan_56 (fun H locs hP hD hS => ?_)
          have hP : va_P (dC, dI) mr_cl (([((r 0), .inr (0, mf_M r (nI n) nw pb (nI (mr_cnt (fun j => mv_gP fkn fco fla ffi fe fa fk fi cls (j + 1) a0 a1 a2 nw) n)))), ((r 1), .inr (1, [.ref (r 2), .ref (r 3)])), ((r 2), .inl (cI, 8, .inl fm)), ((r 3), .inl (cI, 8, .inl fi)), ((r 4), .inl (cR, 80, .inr (.inr (.inr (.inr fr))))), ((r 5), .inl (cI, 80, .inl u_11)), ((r 6), .inl (cI, 80, .inl fc)), ((r 7), .inl (cI, 8, .inl fg))] : va_W) ++ va_pl L f) H := hP
          have hD : va_D A (([((r 0), .inr (0, mf_M r (nI n) nw pb (nI (mr_cnt (fun j => mv_gP fkn fco fla ffi fe fa fk fi cls (j + 1) a0 a1 a2 nw) n)))), ((r 1), .inr (1, [.ref (r 2), .ref (r 3)])), ((r 2), .inl (cI, 8, .inl fm)), ((r 3), .inl (cI, 8, .inl fi)), ((r 4), .inl (cR, 80, .inr (.inr (.inr (.inr fr))))), ((r 5), .inl (cI, 80, .inl u_11)), ((r 6), .inl (cI, 80, .inl fc)), ((r 7), .inl (cI, 8, .inl fg))] : va_W) ++ va_pl L f) := hD
          have hBH := hB.at hS hA0
          refine lv_iload hx hb d_M_scan_59 (lv_at hl 0 rfl) ?_
          have hk0 : mk_M_scan a0 a1 a2 = 0 := by unfold mk_M_scan; rw [if_neg c_3, if_neg c_6, if_neg c_9]
          have hP9 := hP
          have hD9 := hD
          refine mr_ret ?_
          refine W.widen (k := 1) (n := 6) (by omega) (by omega) ?_
          exact W.iret (v := nI (mr_cnt (fun j => mv_gP fkn fco fla ffi fe fa fk fi cls (j + 1) a0 a1 a2 nw) n)) hx hb hr (fun t ht hW => ⟨⟨_, ((mr_cnt (fun j => mv_gP fkn fco fla ffi fe fa fk fi cls (j + 1) a0 a1 a2 nw) n), u_11, fc, fg), rfl, ⟨(Nat.le_trans (mr_cnt_le _ _) hX.1), hk0, rfl⟩, by rw [ht]; exact hP9, va_K.moved hW.alike hK, hD9⟩, hS.F ht⟩) hS.2.2 d_M_scan_61
      · obtain ⟨sa, hstr⟩ := mr_str (hts (Cond.stringRef "MeasureRows" 136 "no such code, land or day") mw_220) hown
        exact mr_throw (names := mr_up) hx hb hlt hown (by decide +kernel) (by decide +kernel) (hts (Cond.classLink "MeasureRows" 78 mr_iae) mw_139) (hts (Cond.initialized mr_iae) mw_140) hstr (hB.own _ mr_a_iae) (hl.1.trans hml.symm) d_M_scan_21 d_M_scan_24 d_M_scan_25 d_M_scan_27 d_M_scan_30 hno (Nat.le_of_ble_eq_true rfl) (Nat.le_of_ble_eq_true rfl) (Nat.le_of_ble_eq_true rfl) (Nat.le_of_ble_eq_true rfl) hlocks ⟨rfl, by unfold mk_M_scan; rw [if_neg c_3, if_neg c_6, if_pos c_9]⟩ (Nat.le_of_ble_eq_true rfl) (Nat.le_of_ble_eq_true rfl)
