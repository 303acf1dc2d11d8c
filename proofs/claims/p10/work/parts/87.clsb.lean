
def mv_M_change (n : Nat) (nw : Int32) (ffi fe fa fk : Nat → Int32) (a0 : Int32) (a1 : Int32) (a2 : Int32) : Int32 := if (mv_M_isDay a0) = 0 then 0 else if (mv_M_isDay a1) = 0 then 0 else (mr_fst (mr_nth (mv_ch ffi fe fa fk nw a0 a1) a2) n)
def mk_M_change (n : Nat) (nw : Int32) (ffi fe fa fk : Nat → Int32) (a0 : Int32) (a1 : Int32) (a2 : Int32) : Int32 := if (mv_M_isDay a0) = 0 then 1 else if (mv_M_isDay a1) = 0 then 1 else 0
set_option maxHeartbeats 4000000 in
set_option maxRecDepth 100000 in
theorem mc_M_changeX (l : Launch) (hlt : l.stackTraces = false) (s0 : State) (dC : Nat → ClassId) (dI : Nat → Nat → Nat) (cI cR cL cZ : ClassId) (r : Nat → Nat) (n : Nat) (nw pb lc : Int32) (fm fi : Nat → Int32) (fr : Nat → Option Nat) (fl fc fg : Nat → Int32) (L : List Nat) (f : Nat → va_E) (fco fla ffi fki fra fkn cls cpa fe fa fk : Nat → Int32) (a0 : Int32) (a1 : Int32) (a2 : Int32) (hX : mr_RX cI n L f fr fco fla ffi fki fra fkn cls cpa fe fa fk) (hN : mr_NX n nw fco fki fra fkn fe fk) : mr_Met l y_M_change [Cond.code y_M_change b_M_change 7 (some .int)] ({ frames := 6, cells := 1, slots := 6, locals := 92 }) (mr_PW s0 (dC, dI) [(cI, .int), (cR, .object "MeasureRows$Row"), (cL, .long), (cZ, .boolean)] [.ref (r 0), .int a0, .int a1, .int a2] (([((r 0), .inr (0, mf_M r (nI n) nw pb lc)), ((r 1), .inr (1, [.ref (r 2), .ref (r 3)])), ((r 2), .inl (cI, 8, .inl fm)), ((r 3), .inl (cI, 8, .inl fi)), ((r 4), .inl (cR, 80, .inr (.inr (.inr (.inr fr))))), ((r 5), .inl (cI, 80, .inl fl)), ((r 6), .inl (cI, 80, .inl fc)), ((r 7), .inl (cI, 8, .inl fg))] : va_W) ++ va_pl L f)) (vp_Si (fun r => mk_M_change n nw ffi fe fa fk a0 a1 a2 = 0 ∧ r = mv_M_change n nw ffi fe fa fk a0 a1 a2)) (fun E => (E = mr_iae ∧ mk_M_change n nw ffi fe fa fk a0 a1 a2 = 1)) 1 6 (fun _ => False) := by
  refine mr_of (cc := b_M_change) (maxL := 7) (ret := (some .int)) (by decide) rfl ?_
  intro p e s m args below meth c s₁ B hml hno hv
  obtain ⟨rfl, hB, hK, hP⟩ := hv
  have hBH := hB.here
  have hx := B.exec
  have hb := B.bytes
  have hr := B.returns
  have hlocks := B.notSynchronized
  have hts : ∀ w ∈ lw_tbl, w.before [.ref (r 0), .int a0, .int a1, .int a2].toArray s = true := hB.hts _
  have hown : s.vm.findClass "MeasureRows" = some m.cls := findClass_of_methodNamed B.named
  have hl := lv_entry ([.ref (r 0), .int a0, .int a1, .int a2]) (n := 7) (Nat.le_of_ble_eq_true rfl)
  rw [lg_entry_eq]
  generalize (lg_sl ([.ref (r 0), .int a0, .int a1, .int a2]) ++ List.replicate (7 - (lg_sl ([.ref (r 0), .int a0, .int a1, .int a2])).length) Slot.unset).toArray = ls at hl ⊢
  have hl : lv_has ls 7 [(0, .ref (r 0)), (1, .int a0), (2, .int a1), (3, .int a2)] := hl
  refine lv_iload_n hx hb d_M_change_0 rfl (lv_at hl 1 rfl) ?_
  refine vp_callSi (va_Run.run (va_runS (As := [.int a0]) (rest := []) ⟨hx, hb, hml, hown, hts⟩ (mc_M_isDay l s0 a0) ⟨(mr_cB 1 (hts (Cond.code y_M_isDay b_M_isDay 1 (some .boolean)) mw_9) (hts (Cond.initialized y_M_isDay.cls) mw_10) (hts (Cond.methodLink "MeasureRows" 83 y_M_isDay) mw_11) rfl rfl (by decide +kernel) ⟨Nat.le_of_ble_eq_true rfl, Nat.le_of_ble_eq_true rfl⟩), (hts (Cond.static y_M_isDay) mw_12)⟩ (mr_pre0 hBH) rfl rfl hl.1 rfl (lv_room (Nat.le_of_ble_eq_true rfl)) d_M_change_1 ⟨Nat.le_of_ble_eq_true rfl, Nat.le_of_ble_eq_true rfl⟩)) (fun r_1 h_2 => ?_)
  subst h_2
  refine lv_if_eq (tgt := 14) hx hb d_M_change_4 (by decide) (fun c_3 => ?_) (fun c_3 => ?_)
  · obtain ⟨sa, hstr⟩ := mr_str (hts (Cond.stringRef "MeasureRows" 89 "no such days") mw_138) hown
    exact mr_throw (names := mr_up) hx hb hlt hown (by decide +kernel) (by decide +kernel) (hts (Cond.classLink "MeasureRows" 78 mr_iae) mw_139) (hts (Cond.initialized mr_iae) mw_140) hstr (hB.own _ mr_a_iae) (hl.1.trans hml.symm) d_M_change_14 d_M_change_17 d_M_change_18 d_M_change_20 d_M_change_23 hno (Nat.le_of_ble_eq_true rfl) (Nat.le_of_ble_eq_true rfl) (Nat.le_of_ble_eq_true rfl) (Nat.le_of_ble_eq_true rfl) hlocks ⟨rfl, by unfold mk_M_change; rw [if_pos c_3]⟩ (Nat.le_of_ble_eq_true rfl) (Nat.le_of_ble_eq_true rfl)
  · refine lv_iload_n hx hb d_M_change_7 rfl (lv_at hl 2 rfl) ?_
    refine vp_callSi (va_Run.run (va_runS (As := [.int a1]) (rest := []) ⟨hx, hb, hml, hown, hts⟩ (mc_M_isDay l s0 a1) ⟨(mr_cB 1 (hts (Cond.code y_M_isDay b_M_isDay 1 (some .boolean)) mw_9) (hts (Cond.initialized y_M_isDay.cls) mw_10) (hts (Cond.methodLink "MeasureRows" 83 y_M_isDay) mw_11) rfl rfl (by decide +kernel) ⟨Nat.le_of_ble_eq_true rfl, Nat.le_of_ble_eq_true rfl⟩), (hts (Cond.static y_M_isDay) mw_12)⟩ (mr_pre0 hBH) rfl rfl hl.1 rfl (lv_room (Nat.le_of_ble_eq_true rfl)) d_M_change_8 ⟨Nat.le_of_ble_eq_true rfl, Nat.le_of_ble_eq_true rfl⟩)) (fun r_4 h_5 => ?_)
    subst h_5
    refine lv_if_ne (tgt := 24) hx hb d_M_change_11 (by decide) (fun c_6 => ?_) (fun c_6 => ?_)
    · refine lv_iconst (v := 0) hx hb d_M_change_24 (by decide) ?_
      refine lv_istore (lv' := [(4, .int 0), (0, .ref (r 0)), (1, .int a0), (2, .int a1), (3, .int a2)]) hx hb d_M_change_25 hl (by decide) rfl (fun ls hl => ?_)
      refine lv_iconst (v := 1) hx hb d_M_change_27 (by decide) ?_
      refine lv_istore (lv' := [(5, .int 1), (4, .int 0), (0, .ref (r 0)), (1, .int a0), (2, .int a1), (3, .int a2)]) hx hb d_M_change_28 hl (by decide) rfl (fun ls hl => ?_)
      refine mr_loop (N := n) (I := fun j H locs ls => H = s.heap ∧ locs = [] ∧ ∃ ps : Int32, ps = nI (mr_cnt (mv_ch ffi fe fa fk nw a0 a1) j) ∧ (∀ i, i < j → (mr_nth (mv_ch ffi fe fa fk nw a0 a1) a2) i = 0) ∧ lv_has ls 7 [(5, .int (nI (j + 1))), (4, .int ps), (0, .ref (r 0)), (1, .int a0), (2, .int a1), (3, .int a2)]) (fun j H locs ls hj hI ih => ?_) (fun H locs ls hI => ?_) 0 _ _ _ (Nat.zero_le _) ⟨rfl, rfl, 0, rfl, fun i hi => absurd hi (Nat.not_lt_zero i), (lv_sub hl [0, 1, 2, 3, 4, 5] rfl)⟩
      · obtain ⟨rfl, rfl, ps, hz9, hex9, hl⟩ := hI
        refine lv_iload hx hb d_M_change_30 (lv_at hl 0 rfl) ?_
        refine lv_aload_n hx hb d_M_change_32 rfl (lv_at hl 2 rfl) ?_
        refine va_get (D := (dC, dI)) (ci := 0) (v := .int (nI n)) (C := R_M) (T := T_M) (N := 9) hx hb hts ti_M hown hK hP 0 rfl rfl 2 (by decide) (hts (Cond.fieldLink "MeasureRows" 22 "MeasureRows" "rowCount" "I") mw_57) (fun _ h9 => h9) rfl d_M_change_33 ?_
        refine lv_icmp_gt (tgt := 93) hx hb d_M_change_36 (by decide) (fun c_7 => absurd c_7 (nI_nlt (by omega) (by have := hX.1; omega))) (fun _ => ?_)
        refine lv_aload_n hx hb d_M_change_39 rfl (lv_at hl 2 rfl) ?_
        refine lv_iload hx hb d_M_change_40 (lv_at hl 0 rfl) ?_
        refine va_csq (va_Run.run (va_runV (As := [.int (nI (j + 1))]) (rest := []) (C := R_M) ⟨hx, hb, hml, hown, hts⟩ (mc_M_find l s0 dC dI cI cR cL cZ r n nw pb lc fr (nI (j + 1)) hX.1) ⟨(mr_cB 1 (hts (Cond.code y_M_find b_M_find 2 (some (.object "MeasureRows$Row"))) mw_117) (hts (Cond.initialized y_M_find.cls) mw_118) (hts (Cond.methodLink "MeasureRows" 111 y_M_find) mw_119) rfl rfl (by decide +kernel) ⟨Nat.le_of_ble_eq_true rfl, Nat.le_of_ble_eq_true rfl⟩), (hts (Cond.instanceMethod y_M_find) mw_120), (hts (Cond.selects "MeasureRows" y_M_find y_M_find) mw_121)⟩ (mr_preV hBH hK (hP.sub (ws' := [((r 0), .inr (0, mf_M r (nI n) nw pb lc)), ((r 4), .inl (cR, 80, .inr (.inr (.inr (.inr fr)))))]) [0, 4] rfl) (ci := 0) (q0 := 0) rfl rfl) rfl rfl hl.1 rfl (lv_room (Nat.le_of_ble_eq_true rfl)) d_M_change_42 ⟨Nat.le_of_ble_eq_true rfl, Nat.le_of_ble_eq_true rfl⟩)) (fun r_8 h_9 => ?_)
        subst h_9
        obtain ⟨a_13, ql_13, qk_13, k_13, t_13, ld_13, kd_13, hf_13, hfi_13, m1_13, m2_13, m3_13, e1_13, e2_13, e3_13, hke_13, hte_13, hk_13, ht_13, ho_13, hne_13, hld_13⟩ := mr_fy hX hN (i := (j + 1)) (by omega) (by omega)
        refine mr_topv (show va_rf (mv_M_find n fr (nI (j + 1))) = .ref a_13 by rw [hf_13]; rfl) ?_
        have hPr_13 := mr_row3 (X := [((r 0), .inr (0, mf_M r (nI n) nw pb lc)), ((r 1), .inr (1, [.ref (r 2), .ref (r 3)])), ((r 2), .inl (cI, 8, .inl fm)), ((r 3), .inl (cI, 8, .inl fi)), ((r 4), .inl (cR, 80, .inr (.inr (.inr (.inr fr))))), ((r 5), .inl (cI, 80, .inl fl)), ((r 6), .inl (cI, 80, .inl fc)), ((r 7), .inl (cI, 8, .inl fg))]) hP m1_13 m2_13 m3_13 e1_13 e2_13 e3_13
        refine lv_astore (lv' := [(6, .ref a_13), (5, .int (nI (j + 1))), (4, .int ps), (0, .ref (r 0)), (1, .int a0), (2, .int a1), (3, .int a2)]) hx hb d_M_change_45 hl (by decide) rfl (fun ls hl => ?_)
        refine lv_aload hx hb d_M_change_47 (lv_at hl 0 rfl) ?_
        refine lv_ifnull hx hb d_M_change_49 ?_
        refine lv_aload hx hb d_M_change_52 (lv_at hl 0 rfl) ?_
        refine lv_iload_n hx hb d_M_change_54 rfl (lv_at hl 4 rfl) ?_
        refine lv_aload_n hx hb d_M_change_55 rfl (lv_at hl 3 rfl) ?_
        refine va_get (D := (dC, dI)) (ci := 0) (v := .int nw) (C := R_M) (T := T_M) (N := 9) hx hb hts ti_M hown hK hP 0 rfl rfl 3 (by decide) (hts (Cond.fieldLink "MeasureRows" 26 "MeasureRows" "now" "I") mw_58) (fun _ h9 => h9) rfl d_M_change_56 ?_
        refine vp_callSi (va_Run.run (va_runV (As := [.int a0, .int nw]) (rest := []) (C := R_R) ⟨hx, hb, hml, hown, hts⟩ (mc_R_lastsOn l s0 dC dI cI cR cL cZ a_13 ql_13 qk_13 (fco (j + 1)) (fla (j + 1)) (ffi (j + 1)) (nI k_13) (fra (j + 1)) (fkn (j + 1)) (cls (j + 1)) (cpa (j + 1)) t_13 ld_13 kd_13 a0 nw ht_13) ⟨(mr_cB 2 (hts (Cond.code y_R_lastsOn b_R_lastsOn 3 (some .boolean)) mw_141) (hts (Cond.initialized y_R_lastsOn.cls) mw_142) (hts (Cond.methodLink "MeasureRows" 152 y_R_lastsOn) mw_143) rfl rfl (by decide +kernel) ⟨Nat.le_of_ble_eq_true rfl, Nat.le_of_ble_eq_true rfl⟩), (hts (Cond.instanceMethod y_R_lastsOn) mw_144), (hts (Cond.selects "MeasureRows$Row" y_R_lastsOn y_R_lastsOn) mw_145)⟩ (mr_preV hBH hK (hPr_13.sub (ws' := [(a_13, .inr (2, [.int (fco (j + 1)), .int (fla (j + 1)), .int (ffi (j + 1)), .int (nI k_13), .int (fra (j + 1)), .int (fkn (j + 1)), .int (cls (j + 1)), .int (cpa (j + 1)), .int (nI t_13), .ref ql_13, .ref qk_13])), (ql_13, .inl (cI, 8, .inl ld_13)), (qk_13, .inl (cI, 8, .inl kd_13))]) [0, 1, 2] rfl) (ci := 2) (q0 := 0) rfl rfl) rfl rfl hl.1 rfl (lv_room (Nat.le_of_ble_eq_true rfl)) d_M_change_59 ⟨Nat.le_of_ble_eq_true rfl, Nat.le_of_ble_eq_true rfl⟩)) (fun r_10 h_11 => ?_)
        subst h_11
        refine mr_top (mr_lasts hN (by omega) (by omega) hte_13 ht_13 ho_13 hld_13 a0 nw (hN.2 (j + 1) (by omega) (by omega)).2.2.2.2.1) ?_
        refine lv_aload hx hb d_M_change_62 (lv_at hl 0 rfl) ?_
        refine lv_iload_n hx hb d_M_change_64 rfl (lv_at hl 5 rfl) ?_
        refine lv_aload_n hx hb d_M_change_65 rfl (lv_at hl 3 rfl) ?_
        refine va_get (D := (dC, dI)) (ci := 0) (v := .int nw) (C := R_M) (T := T_M) (N := 9) hx hb hts ti_M hown hK hP 0 rfl rfl 3 (by decide) (hts (Cond.fieldLink "MeasureRows" 26 "MeasureRows" "now" "I") mw_58) (fun _ h9 => h9) rfl d_M_change_66 ?_
        refine vp_callSi (va_Run.run (va_runV (As := [.int a1, .int nw]) (rest := [.int (mv_D_lasts ffi fe fa fk (j + 1) a0 nw)]) (C := R_R) ⟨hx, hb, hml, hown, hts⟩ (mc_R_lastsOn l s0 dC dI cI cR cL cZ a_13 ql_13 qk_13 (fco (j + 1)) (fla (j + 1)) (ffi (j + 1)) (nI k_13) (fra (j + 1)) (fkn (j + 1)) (cls (j + 1)) (cpa (j + 1)) t_13 ld_13 kd_13 a1 nw ht_13) ⟨(mr_cB 2 (hts (Cond.code y_R_lastsOn b_R_lastsOn 3 (some .boolean)) mw_141) (hts (Cond.initialized y_R_lastsOn.cls) mw_142) (hts (Cond.methodLink "MeasureRows" 152 y_R_lastsOn) mw_143) rfl rfl (by decide +kernel) ⟨Nat.le_of_ble_eq_true rfl, Nat.le_of_ble_eq_true rfl⟩), (hts (Cond.instanceMethod y_R_lastsOn) mw_144), (hts (Cond.selects "MeasureRows$Row" y_R_lastsOn y_R_lastsOn) mw_145)⟩ (mr_preV hBH hK (hPr_13.sub (ws' := [(a_13, .inr (2, [.int (fco (j + 1)), .int (fla (j + 1)), .int (ffi (j + 1)), .int (nI k_13), .int (fra (j + 1)), .int (fkn (j + 1)), .int (cls (j + 1)), .int (cpa (j + 1)), .int (nI t_13), .ref ql_13, .ref qk_13])), (ql_13, .inl (cI, 8, .inl ld_13)), (qk_13, .inl (cI, 8, .inl kd_13))]) [0, 1, 2] rfl) (ci := 2) (q0 := 0) rfl rfl) rfl rfl hl.1 rfl (lv_room (Nat.le_of_ble_eq_true rfl)) d_M_change_69 ⟨Nat.le_of_ble_eq_true rfl, Nat.le_of_ble_eq_true rfl⟩)) (fun r_12 h_13 => ?_)
        subst h_13
        refine mr_top (mr_lasts hN (by omega) (by omega) hte_13 ht_13 ho_13 hld_13 a1 nw (hN.2 (j + 1) (by omega) (by omega)).2.2.2.2.1) ?_
        refine lv_icmp_eq (tgt := 87) hx hb d_M_change_72 (by decide) (fun c_14 => ?_) (fun c_14 => ?_)
        · refine lv_iinc (v := nI ((j + 1) + 1)) (lv' := [(5, .int (nI ((j + 1) + 1))), (6, .ref a_13), (4, .int ps), (0, .ref (r 0)), (1, .int a0), (2, .int a1), (3, .int a2)]) hx hb d_M_change_87 hl (k := 1) rfl ((nI_succ (j + 1)).symm) (by decide) rfl (fun ls hl => ?_)
          refine lv_goto (tgt := 30) hx hb d_M_change_90 (by decide) ?_
          have hp9 := mv_ch_n c_14
          have hq9 := mr_nth_0 (i := a2) hp9
          rw [← mr_cnt_n hp9] at hz9
          exact ih _ _ _ ⟨rfl, rfl, ps, hz9, mr_none_succ hex9 hq9, lv_sub hl [0, 2, 3, 4, 5, 6] rfl⟩
        · refine lv_iload hx hb d_M_change_75 (lv_at hl 2 rfl) ?_
          refine lv_iload_n hx hb d_M_change_77 rfl (lv_at hl 6 rfl) ?_
          refine lv_icmp_ne (tgt := 84) hx hb d_M_change_78 (by decide) (fun c_15 => ?_) (fun c_15 => ?_)
          · refine lv_iinc (v := ps + 1) (lv' := [(4, .int (ps + 1)), (6, .ref a_13), (5, .int (nI (j + 1))), (0, .ref (r 0)), (1, .int a0), (2, .int a1), (3, .int a2)]) hx hb d_M_change_84 hl (k := 2) rfl (rfl) (by decide) rfl (fun ls hl => ?_)
            refine lv_iinc (v := nI ((j + 1) + 1)) (lv' := [(5, .int (nI ((j + 1) + 1))), (4, .int (ps + 1)), (6, .ref a_13), (0, .ref (r 0)), (1, .int a0), (2, .int a1), (3, .int a2)]) hx hb d_M_change_87 hl (k := 2) rfl ((nI_succ (j + 1)).symm) (by decide) rfl (fun ls hl => ?_)
            refine lv_goto (tgt := 30) hx hb d_M_change_90 (by decide) ?_
            have hp9 := mv_ch_y c_14
            have hq9 := mr_nth_n (i := a2) hp9 (by rw [← hz9]; exact c_15)
            have hz9 : ps + 1 = _ := (by rw [hz9]; exact nI_1 _ : ps + 1 = nI (mr_cnt _ j + 1)).trans (by rw [← mr_cnt_y hp9])
            exact ih _ _ _ ⟨rfl, rfl, ps + 1, hz9, mr_none_succ hex9 hq9, lv_sub hl [0, 1, 3, 4, 5, 6] rfl⟩
          · refine lv_iload hx hb d_M_change_81 (lv_at hl 1 rfl) ?_
            refine mr_ret ?_
            refine W.widen (k := 1) (n := 6) (Nat.le_of_ble_eq_true rfl) (Nat.le_of_ble_eq_true rfl) ?_
            exact W.iret (v := nI (j + 1)) hx hb hr (fun t ht _ => ⟨_, rfl, ⟨by unfold mk_M_change; rw [if_neg c_3, if_neg c_6], by unfold mv_M_change; rw [if_neg c_3, if_neg c_6, mr_fst_hit hX.1 hj hex9 (mr_nth_y (mv_ch_y c_14) (by rw [← hz9]; exact c_15))]⟩, ht⟩) (fun _ h => nomatch h) d_M_change_83
      · obtain ⟨rfl, rfl, ps, hz9, hex9, hl⟩ := hI
        refine lv_iload hx hb d_M_change_30 (lv_at hl 0 rfl) ?_
        refine lv_aload_n hx hb d_M_change_32 rfl (lv_at hl 2 rfl) ?_
        refine va_get (D := (dC, dI)) (ci := 0) (v := .int (nI n)) (C := R_M) (T := T_M) (N := 9) hx hb hts ti_M hown hK hP 0 rfl rfl 2 (by decide) (hts (Cond.fieldLink "MeasureRows" 22 "MeasureRows" "rowCount" "I") mw_57) (fun _ h9 => h9) rfl d_M_change_33 ?_
        refine lv_icmp_gt (tgt := 93) hx hb d_M_change_36 (by decide) (fun _ => ?_) (fun c_16 => absurd (nI_lt (by omega) (by have := hX.1; omega)) c_16)
        refine lv_iconst (v := (-1)) hx hb d_M_change_93 (by decide) ?_
        refine mr_ret ?_
        refine W.widen (k := 1) (n := 6) (Nat.le_of_ble_eq_true rfl) (Nat.le_of_ble_eq_true rfl) ?_
        exact W.iret (v := (-1)) hx hb hr (fun t ht _ => ⟨_, rfl, ⟨by unfold mk_M_change; rw [if_neg c_3, if_neg c_6], by unfold mv_M_change; rw [if_neg c_3, if_neg c_6, mr_fst_no hex9]⟩, ht⟩) (fun _ h => nomatch h) d_M_change_94
    · obtain ⟨sa, hstr⟩ := mr_str (hts (Cond.stringRef "MeasureRows" 89 "no such days") mw_138) hown
      exact mr_throw (names := mr_up) hx hb hlt hown (by decide +kernel) (by decide +kernel) (hts (Cond.classLink "MeasureRows" 78 mr_iae) mw_139) (hts (Cond.initialized mr_iae) mw_140) hstr (hB.own _ mr_a_iae) (hl.1.trans hml.symm) d_M_change_14 d_M_change_17 d_M_change_18 d_M_change_20 d_M_change_23 hno (Nat.le_of_ble_eq_true rfl) (Nat.le_of_ble_eq_true rfl) (Nat.le_of_ble_eq_true rfl) (Nat.le_of_ble_eq_true rfl) hlocks ⟨rfl, by unfold mk_M_change; rw [if_neg c_3, if_pos c_6]⟩ (Nat.le_of_ble_eq_true rfl) (Nat.le_of_ble_eq_true rfl)
def mv_M_look_y (fco fla ffi fki fra fkn cls cpa fe fa fk : Nat → Int32) (nw : Int32) (i : Nat) (a1 : Int32) : Int32 := if a1 = 0 then (fco i) else if a1 = 1 then (fla i) else if a1 = 2 then (ffi i) else if a1 = 3 then (mv_D_lastOf fe fa fk i nw) else if a1 = 4 then (fki i) else if a1 = 5 then (fra i) else if a1 = 6 then (fkn i) else if a1 = 7 then (fe i) else if a1 = 8 then (mv_I_bitCount (cls i)) else if a1 = 9 then (mv_I_bitCount (cpa i)) else 0
def mk_M_look_y (fco fla ffi fki fra fkn cls cpa fe fa fk : Nat → Int32) (nw : Int32) (i : Nat) (a1 : Int32) : Int32 := if a1 = 0 then 0 else if a1 = 1 then 0 else if a1 = 2 then 0 else if a1 = 3 then 0 else if a1 = 4 then 0 else if a1 = 5 then 0 else if a1 = 6 then 0 else if a1 = 7 then 0 else if a1 = 8 then 0 else if a1 = 9 then 0 else 1
set_option maxHeartbeats 4000000 in
set_option maxRecDepth 100000 in
theorem mc_M_look_yX (l : Launch) (hlt : l.stackTraces = false) (s0 : State) (dC : Nat → ClassId) (dI : Nat → Nat → Nat) (cI cR cL cZ : ClassId) (r : Nat → Nat) (n : Nat) (nw pb lc : Int32) (fm fi : Nat → Int32) (fr : Nat → Option Nat) (fl fc fg : Nat → Int32) (L : List Nat) (f : Nat → va_E) (fco fla ffi fki fra fkn cls cpa fe fa fk : Nat → Int32) (i : Nat) (a1 : Int32) (hi1 : 1 ≤ i) (hin : i ≤ n) (hX : mr_RX cI n L f fr fco fla ffi fki fra fkn cls cpa fe fa fk) (hN : mr_NX n nw fco fki fra fkn fe fk) : mr_Met l y_M_look [Cond.code y_M_look b_M_look 4 (some .int)] ({ frames := 6, cells := 1, slots := 6, locals := 92 }) (mr_PW s0 (dC, dI) [(cI, .int), (cR, .object "MeasureRows$Row"), (cL, .long), (cZ, .boolean)] [.ref (r 0), .int (nI i), .int a1] (([((r 0), .inr (0, mf_M r (nI n) nw pb lc)), ((r 1), .inr (1, [.ref (r 2), .ref (r 3)])), ((r 2), .inl (cI, 8, .inl fm)), ((r 3), .inl (cI, 8, .inl fi)), ((r 4), .inl (cR, 80, .inr (.inr (.inr (.inr fr))))), ((r 5), .inl (cI, 80, .inl fl)), ((r 6), .inl (cI, 80, .inl fc)), ((r 7), .inl (cI, 8, .inl fg))] : va_W) ++ va_pl L f)) (vp_Si (fun r => mk_M_look_y fco fla ffi fki fra fkn cls cpa fe fa fk nw i a1 = 0 ∧ r = mv_M_look_y fco fla ffi fki fra fkn cls cpa fe fa fk nw i a1)) (fun E => (E = mr_iob ∧ mk_M_look_y fco fla ffi fki fra fkn cls cpa fe fa fk nw i a1 = 1)) 1 6 (fun _ => False) := by
  refine mr_of (cc := b_M_look) (maxL := 4) (ret := (some .int)) (by decide) rfl ?_
  intro p e s m args below meth c s₁ B hml hno hv
  obtain ⟨rfl, hB, hK, hP⟩ := hv
  have hBH := hB.here
  have hx := B.exec
  have hb := B.bytes
  have hr := B.returns
  have hlocks := B.notSynchronized
  have hts : ∀ w ∈ lw_tbl, w.before [.ref (r 0), .int (nI i), .int a1].toArray s = true := hB.hts _
  have hown : s.vm.findClass "MeasureRows" = some m.cls := findClass_of_methodNamed B.named
  have hl := lv_entry ([.ref (r 0), .int (nI i), .int a1]) (n := 4) (Nat.le_of_ble_eq_true rfl)
  rw [lg_entry_eq]
  generalize (lg_sl ([.ref (r 0), .int (nI i), .int a1]) ++ List.replicate (4 - (lg_sl ([.ref (r 0), .int (nI i), .int a1])).length) Slot.unset).toArray = ls at hl ⊢
  have hl : lv_has ls 4 [(0, .ref (r 0)), (1, .int (nI i)), (2, .int a1)] := hl
  refine lv_aload_n hx hb d_M_look_0 rfl (lv_at hl 0 rfl) ?_
  refine lv_iload_n hx hb d_M_look_1 rfl (lv_at hl 1 rfl) ?_
  refine va_csq (va_Run.run (va_runV (As := [.int (nI i)]) (rest := []) (C := R_M) ⟨hx, hb, hml, hown, hts⟩ (mc_M_find l s0 dC dI cI cR cL cZ r n nw pb lc fr (nI i) hX.1) ⟨(mr_cB 1 (hts (Cond.code y_M_find b_M_find 2 (some (.object "MeasureRows$Row"))) mw_117) (hts (Cond.initialized y_M_find.cls) mw_118) (hts (Cond.methodLink "MeasureRows" 111 y_M_find) mw_119) rfl rfl (by decide +kernel) ⟨Nat.le_of_ble_eq_true rfl, Nat.le_of_ble_eq_true rfl⟩), (hts (Cond.instanceMethod y_M_find) mw_120), (hts (Cond.selects "MeasureRows" y_M_find y_M_find) mw_121)⟩ (mr_preV hBH hK (hP.sub (ws' := [((r 0), .inr (0, mf_M r (nI n) nw pb lc)), ((r 4), .inl (cR, 80, .inr (.inr (.inr (.inr fr)))))]) [0, 4] rfl) (ci := 0) (q0 := 0) rfl rfl) rfl rfl hl.1 rfl (lv_room (Nat.le_of_ble_eq_true rfl)) d_M_look_2 ⟨Nat.le_of_ble_eq_true rfl, Nat.le_of_ble_eq_true rfl⟩)) (fun r_1 h_2 => ?_)
  subst h_2
  obtain ⟨a_14, ql_14, qk_14, k_14, t_14, ld_14, kd_14, hf_14, hfi_14, m1_14, m2_14, m3_14, e1_14, e2_14, e3_14, hke_14, hte_14, hk_14, ht_14, ho_14, hne_14, hld_14⟩ := mr_fy hX hN (i := i) (by omega) (by omega)
  refine mr_topv (show va_rf (mv_M_find n fr (nI i)) = .ref a_14 by rw [hf_14]; rfl) ?_
  have hPr_14 := mr_row3 (X := [((r 0), .inr (0, mf_M r (nI n) nw pb lc)), ((r 1), .inr (1, [.ref (r 2), .ref (r 3)])), ((r 2), .inl (cI, 8, .inl fm)), ((r 3), .inl (cI, 8, .inl fi)), ((r 4), .inl (cR, 80, .inr (.inr (.inr (.inr fr))))), ((r 5), .inl (cI, 80, .inl fl)), ((r 6), .inl (cI, 80, .inl fc)), ((r 7), .inl (cI, 8, .inl fg))]) hP m1_14 m2_14 m3_14 e1_14 e2_14 e3_14
  refine lv_astore_n (lv' := [(3, .ref a_14), (0, .ref (r 0)), (1, .int (nI i)), (2, .int a1)]) hx hb d_M_look_5 rfl hl (by decide) rfl (fun ls hl => ?_)
  refine lv_aload_n hx hb d_M_look_6 rfl (lv_at hl 0 rfl) ?_
  refine lv_ifnonnull (tgt := 20) hx hb d_M_look_7 (by decide) ?_
  refine lv_iload_n hx hb d_M_look_20 rfl (lv_at hl 3 rfl) ?_
  by_cases c_3 : a1 = 0
  · refine lv_tableIn (tgt := 76) hx hb d_M_look_21 (by rw [c_3]; decide) (by rw [c_3]; decide) (by rw [c_3]; rfl) (by decide) ?_
    refine lv_aload_n hx hb d_M_look_76 rfl (lv_at hl 0 rfl) ?_
    refine va_get (D := (dC, dI)) (ci := 2) (v := .int (fco i)) (C := R_R) (T := T_R) (N := 11) hx hb hts ti_R hown hK hPr_14 0 rfl rfl 0 (by decide) (hts (Cond.fieldLink "MeasureRows" 155 "MeasureRows$Row" "code" "I") mw_147) (fun _ h9 => h9) rfl d_M_look_77 ?_
    refine mr_ret ?_
    refine W.widen (k := 1) (n := 6) (Nat.le_of_ble_eq_true rfl) (Nat.le_of_ble_eq_true rfl) ?_
    exact W.iret (v := fco i) hx hb hr (fun t ht _ => ⟨_, rfl, ⟨by unfold mk_M_look_y; rw [if_pos c_3], by unfold mv_M_look_y; rw [if_pos c_3]⟩, ht⟩) (fun _ h => nomatch h) d_M_look_80
  · skip
    by_cases c_4 : a1 = 1
    · refine lv_tableIn (tgt := 81) hx hb d_M_look_21 (by rw [c_4]; decide) (by rw [c_4]; decide) (by rw [c_4]; rfl) (by decide) ?_
      refine lv_aload_n hx hb d_M_look_81 rfl (lv_at hl 0 rfl) ?_
      refine va_get (D := (dC, dI)) (ci := 2) (v := .int (fla i)) (C := R_R) (T := T_R) (N := 11) hx hb hts ti_R hown hK hPr_14 0 rfl rfl 1 (by decide) (hts (Cond.fieldLink "MeasureRows" 158 "MeasureRows$Row" "place" "I") mw_148) (fun _ h9 => h9) rfl d_M_look_82 ?_
      refine mr_ret ?_
      refine W.widen (k := 1) (n := 6) (Nat.le_of_ble_eq_true rfl) (Nat.le_of_ble_eq_true rfl) ?_
      exact W.iret (v := fla i) hx hb hr (fun t ht _ => ⟨_, rfl, ⟨by unfold mk_M_look_y; rw [if_neg c_3, if_pos c_4], by unfold mv_M_look_y; rw [if_neg c_3, if_pos c_4]⟩, ht⟩) (fun _ h => nomatch h) d_M_look_85
    · skip
      by_cases c_5 : a1 = 2
      · refine lv_tableIn (tgt := 86) hx hb d_M_look_21 (by rw [c_5]; decide) (by rw [c_5]; decide) (by rw [c_5]; rfl) (by decide) ?_
        refine lv_aload_n hx hb d_M_look_86 rfl (lv_at hl 0 rfl) ?_
        refine va_get (D := (dC, dI)) (ci := 2) (v := .int (ffi i)) (C := R_R) (T := T_R) (N := 11) hx hb hts ti_R hown hK hPr_14 0 rfl rfl 2 (by decide) (hts (Cond.fieldLink "MeasureRows" 128 "MeasureRows$Row" "first" "I") mw_149) (fun _ h9 => h9) rfl d_M_look_87 ?_
        refine mr_ret ?_
        refine W.widen (k := 1) (n := 6) (Nat.le_of_ble_eq_true rfl) (Nat.le_of_ble_eq_true rfl) ?_
        exact W.iret (v := ffi i) hx hb hr (fun t ht _ => ⟨_, rfl, ⟨by unfold mk_M_look_y; rw [if_neg c_3, if_neg c_4, if_pos c_5], by unfold mv_M_look_y; rw [if_neg c_3, if_neg c_4, if_pos c_5]⟩, ht⟩) (fun _ h => nomatch h) d_M_look_90
      · skip
        by_cases c_6 : a1 = 3
        · refine lv_tableIn (tgt := 91) hx hb d_M_look_21 (by rw [c_6]; decide) (by rw [c_6]; decide) (by rw [c_6]; rfl) (by decide) ?_
          refine lv_aload_n hx hb d_M_look_91 rfl (lv_at hl 0 rfl) ?_
          refine lv_aload_n hx hb d_M_look_92 rfl (lv_at hl 1 rfl) ?_
          refine va_get (D := (dC, dI)) (ci := 0) (v := .int nw) (C := R_M) (T := T_M) (N := 9) hx hb hts ti_M hown hK hP 0 rfl rfl 3 (by decide) (hts (Cond.fieldLink "MeasureRows" 26 "MeasureRows" "now" "I") mw_58) (fun _ h9 => h9) rfl d_M_look_93 ?_
          refine vp_callSi (va_Run.run (va_runV (As := [.int nw]) (rest := []) (C := R_R) ⟨hx, hb, hml, hown, hts⟩ (mc_R_lastDayAsOf l s0 dC dI cI cR cL cZ a_14 ql_14 qk_14 (fco i) (fla i) (ffi i) (nI k_14) (fra i) (fkn i) (cls i) (cpa i) t_14 ld_14 kd_14 nw ht_14) ⟨(mr_cB 1 (hts (Cond.code y_R_lastDayAsOf b_R_lastDayAsOf 5 (some .int)) mw_103) (hts (Cond.initialized y_R_lastDayAsOf.cls) mw_104) (hts (Cond.methodLink "MeasureRows" 161 y_R_lastDayAsOf) mw_150) rfl rfl (by decide +kernel) ⟨Nat.le_of_ble_eq_true rfl, Nat.le_of_ble_eq_true rfl⟩), (hts (Cond.instanceMethod y_R_lastDayAsOf) mw_106), (hts (Cond.selects "MeasureRows$Row" y_R_lastDayAsOf y_R_lastDayAsOf) mw_107)⟩ (mr_preV hBH hK (hPr_14.sub (ws' := [(a_14, .inr (2, [.int (fco i), .int (fla i), .int (ffi i), .int (nI k_14), .int (fra i), .int (fkn i), .int (cls i), .int (cpa i), .int (nI t_14), .ref ql_14, .ref qk_14])), (ql_14, .inl (cI, 8, .inl ld_14)), (qk_14, .inl (cI, 8, .inl kd_14))]) [0, 1, 2] rfl) (ci := 2) (q0 := 0) rfl rfl) rfl rfl hl.1 rfl (lv_room (Nat.le_of_ble_eq_true rfl)) d_M_look_96 ⟨Nat.le_of_ble_eq_true rfl, Nat.le_of_ble_eq_true rfl⟩)) (fun r_7 h_8 => ?_)
          subst h_8
          refine mr_top (mr_lastR hN (by omega) (by omega) hte_14 ht_14 ho_14 hld_14 (hN.2 i (by omega) (by omega)).2.2.2.2.1) ?_
          refine mr_ret ?_
          refine W.widen (k := 1) (n := 6) (Nat.le_of_ble_eq_true rfl) (Nat.le_of_ble_eq_true rfl) ?_
          exact W.iret (v := mv_D_lastOf fe fa fk i nw) hx hb hr (fun t ht _ => ⟨_, rfl, ⟨by unfold mk_M_look_y; rw [if_neg c_3, if_neg c_4, if_neg c_5, if_pos c_6], by unfold mv_M_look_y; rw [if_neg c_3, if_neg c_4, if_neg c_5, if_pos c_6]⟩, ht⟩) (fun _ h => nomatch h) d_M_look_99
        · skip
          by_cases c_9 : a1 = 4
          · refine lv_tableIn (tgt := 100) hx hb d_M_look_21 (by rw [c_9]; decide) (by rw [c_9]; decide) (by rw [c_9]; rfl) (by decide) ?_
            refine lv_aload_n hx hb d_M_look_100 rfl (lv_at hl 0 rfl) ?_
            refine va_get (D := (dC, dI)) (ci := 2) (v := .int (nI k_14)) (C := R_R) (T := T_R) (N := 11) hx hb hts ti_R hown hK hPr_14 0 rfl rfl 3 (by decide) (hts (Cond.fieldLink "MeasureRows" 164 "MeasureRows$Row" "kind" "I") mw_151) (fun _ h9 => h9) rfl d_M_look_101 ?_
            refine mr_top (show nI k_14 = fki i from hke_14.symm) ?_
            refine mr_ret ?_
            refine W.widen (k := 1) (n := 6) (Nat.le_of_ble_eq_true rfl) (Nat.le_of_ble_eq_true rfl) ?_
            exact W.iret (v := fki i) hx hb hr (fun t ht _ => ⟨_, rfl, ⟨by unfold mk_M_look_y; rw [if_neg c_3, if_neg c_4, if_neg c_5, if_neg c_6, if_pos c_9], by unfold mv_M_look_y; rw [if_neg c_3, if_neg c_4, if_neg c_5, if_neg c_6, if_pos c_9]⟩, ht⟩) (fun _ h => nomatch h) d_M_look_104
          · skip
            by_cases c_10 : a1 = 5
            · refine lv_tableIn (tgt := 105) hx hb d_M_look_21 (by rw [c_10]; decide) (by rw [c_10]; decide) (by rw [c_10]; rfl) (by decide) ?_
              refine lv_aload_n hx hb d_M_look_105 rfl (lv_at hl 0 rfl) ?_
              refine va_get (D := (dC, dI)) (ci := 2) (v := .int (fra i)) (C := R_R) (T := T_R) (N := 11) hx hb hts ti_R hown hK hPr_14 0 rfl rfl 4 (by decide) (hts (Cond.fieldLink "MeasureRows" 167 "MeasureRows$Row" "rank" "I") mw_152) (fun _ h9 => h9) rfl d_M_look_106 ?_
              refine mr_ret ?_
              refine W.widen (k := 1) (n := 6) (Nat.le_of_ble_eq_true rfl) (Nat.le_of_ble_eq_true rfl) ?_
              exact W.iret (v := fra i) hx hb hr (fun t ht _ => ⟨_, rfl, ⟨by unfold mk_M_look_y; rw [if_neg c_3, if_neg c_4, if_neg c_5, if_neg c_6, if_neg c_9, if_pos c_10], by unfold mv_M_look_y; rw [if_neg c_3, if_neg c_4, if_neg c_5, if_neg c_6, if_neg c_9, if_pos c_10]⟩, ht⟩) (fun _ h => nomatch h) d_M_look_109
            · skip
              by_cases c_11 : a1 = 6
              · refine lv_tableIn (tgt := 110) hx hb d_M_look_21 (by rw [c_11]; decide) (by rw [c_11]; decide) (by rw [c_11]; rfl) (by decide) ?_
                refine lv_aload_n hx hb d_M_look_110 rfl (lv_at hl 0 rfl) ?_
                refine va_get (D := (dC, dI)) (ci := 2) (v := .int (fkn i)) (C := R_R) (T := T_R) (N := 11) hx hb hts ti_R hown hK hPr_14 0 rfl rfl 5 (by decide) (hts (Cond.fieldLink "MeasureRows" 170 "MeasureRows$Row" "known" "I") mw_153) (fun _ h9 => h9) rfl d_M_look_111 ?_
                refine mr_ret ?_
                refine W.widen (k := 1) (n := 6) (Nat.le_of_ble_eq_true rfl) (Nat.le_of_ble_eq_true rfl) ?_
                exact W.iret (v := fkn i) hx hb hr (fun t ht _ => ⟨_, rfl, ⟨by unfold mk_M_look_y; rw [if_neg c_3, if_neg c_4, if_neg c_5, if_neg c_6, if_neg c_9, if_neg c_10, if_pos c_11], by unfold mv_M_look_y; rw [if_neg c_3, if_neg c_4, if_neg c_5, if_neg c_6, if_neg c_9, if_neg c_10, if_pos c_11]⟩, ht⟩) (fun _ h => nomatch h) d_M_look_114
              · skip
                by_cases c_12 : a1 = 7
                · refine lv_tableIn (tgt := 115) hx hb d_M_look_21 (by rw [c_12]; decide) (by rw [c_12]; decide) (by rw [c_12]; rfl) (by decide) ?_
                  refine lv_aload_n hx hb d_M_look_115 rfl (lv_at hl 0 rfl) ?_
                  refine va_get (D := (dC, dI)) (ci := 2) (v := .int (nI t_14)) (C := R_R) (T := T_R) (N := 11) hx hb hts ti_R hown hK hPr_14 0 rfl rfl 8 (by decide) (hts (Cond.fieldLink "MeasureRows" 123 "MeasureRows$Row" "told" "I") mw_154) (fun _ h9 => h9) rfl d_M_look_116 ?_
                  refine mr_top (show nI t_14 = fe i from hte_14.symm) ?_
                  refine mr_ret ?_
                  refine W.widen (k := 1) (n := 6) (Nat.le_of_ble_eq_true rfl) (Nat.le_of_ble_eq_true rfl) ?_
                  exact W.iret (v := fe i) hx hb hr (fun t ht _ => ⟨_, rfl, ⟨by unfold mk_M_look_y; rw [if_neg c_3, if_neg c_4, if_neg c_5, if_neg c_6, if_neg c_9, if_neg c_10, if_neg c_11, if_pos c_12], by unfold mv_M_look_y; rw [if_neg c_3, if_neg c_4, if_neg c_5, if_neg c_6, if_neg c_9, if_neg c_10, if_neg c_11, if_pos c_12]⟩, ht⟩) (fun _ h => nomatch h) d_M_look_119
                · skip
                  by_cases c_13 : a1 = 8
                  · refine lv_tableIn (tgt := 120) hx hb d_M_look_21 (by rw [c_13]; decide) (by rw [c_13]; decide) (by rw [c_13]; rfl) (by decide) ?_
                    refine lv_aload_n hx hb d_M_look_120 rfl (lv_at hl 0 rfl) ?_
                    refine va_get (D := (dC, dI)) (ci := 2) (v := .int (cls i)) (C := R_R) (T := T_R) (N := 11) hx hb hts ti_R hown hK hPr_14 0 rfl rfl 6 (by decide) (hts (Cond.fieldLink "MeasureRows" 173 "MeasureRows$Row" "excluded" "I") mw_155) (fun _ h9 => h9) rfl d_M_look_121 ?_
                    refine vp_callSi (va_Run.run (va_runS (As := [.int (cls i)]) (rest := []) ⟨hx, hb, hml, hown, hts⟩ (mc_I_bitCount l s0 (cls i)) ⟨(mr_cB 1 (hts (Cond.code y_I_bitCount b_I_bitCount 1 (some .int)) mw_36) (hts (Cond.initialized y_I_bitCount.cls) mw_37) (hts (Cond.methodLink "MeasureRows" 176 y_I_bitCount) mw_156) rfl rfl (by decide +kernel) ⟨Nat.le_of_ble_eq_true rfl, Nat.le_of_ble_eq_true rfl⟩), (hts (Cond.static y_I_bitCount) mw_39)⟩ (mr_pre0 hBH) rfl rfl hl.1 rfl (lv_room (Nat.le_of_ble_eq_true rfl)) d_M_look_124 ⟨Nat.le_of_ble_eq_true rfl, Nat.le_of_ble_eq_true rfl⟩)) (fun r_14 h_15 => ?_)
                    subst h_15
                    refine mr_ret ?_
                    refine W.widen (k := 1) (n := 6) (Nat.le_of_ble_eq_true rfl) (Nat.le_of_ble_eq_true rfl) ?_
                    exact W.iret (v := mv_I_bitCount (cls i)) hx hb hr (fun t ht _ => ⟨_, rfl, ⟨by unfold mk_M_look_y; rw [if_neg c_3, if_neg c_4, if_neg c_5, if_neg c_6, if_neg c_9, if_neg c_10, if_neg c_11, if_neg c_12, if_pos c_13], by unfold mv_M_look_y; rw [if_neg c_3, if_neg c_4, if_neg c_5, if_neg c_6, if_neg c_9, if_neg c_10, if_neg c_11, if_neg c_12, if_pos c_13]⟩, ht⟩) (fun _ h => nomatch h) d_M_look_127
                  · skip
                    by_cases c_16 : a1 = 9
                    · refine lv_tableIn (tgt := 128) hx hb d_M_look_21 (by rw [c_16]; decide) (by rw [c_16]; decide) (by rw [c_16]; rfl) (by decide) ?_
                      refine lv_aload_n hx hb d_M_look_128 rfl (lv_at hl 0 rfl) ?_
                      refine va_get (D := (dC, dI)) (ci := 2) (v := .int (cpa i)) (C := R_R) (T := T_R) (N := 11) hx hb hts ti_R hown hK hPr_14 0 rfl rfl 7 (by decide) (hts (Cond.fieldLink "MeasureRows" 181 "MeasureRows$Row" "wanted" "I") mw_157) (fun _ h9 => h9) rfl d_M_look_129 ?_
                      refine vp_callSi (va_Run.run (va_runS (As := [.int (cpa i)]) (rest := []) ⟨hx, hb, hml, hown, hts⟩ (mc_I_bitCount l s0 (cpa i)) ⟨(mr_cB 1 (hts (Cond.code y_I_bitCount b_I_bitCount 1 (some .int)) mw_36) (hts (Cond.initialized y_I_bitCount.cls) mw_37) (hts (Cond.methodLink "MeasureRows" 176 y_I_bitCount) mw_156) rfl rfl (by decide +kernel) ⟨Nat.le_of_ble_eq_true rfl, Nat.le_of_ble_eq_true rfl⟩), (hts (Cond.static y_I_bitCount) mw_39)⟩ (mr_pre0 hBH) rfl rfl hl.1 rfl (lv_room (Nat.le_of_ble_eq_true rfl)) d_M_look_132 ⟨Nat.le_of_ble_eq_true rfl, Nat.le_of_ble_eq_true rfl⟩)) (fun r_17 h_18 => ?_)
                      subst h_18
                      refine mr_ret ?_
                      refine W.widen (k := 1) (n := 6) (Nat.le_of_ble_eq_true rfl) (Nat.le_of_ble_eq_true rfl) ?_
                      exact W.iret (v := mv_I_bitCount (cpa i)) hx hb hr (fun t ht _ => ⟨_, rfl, ⟨by unfold mk_M_look_y; rw [if_neg c_3, if_neg c_4, if_neg c_5, if_neg c_6, if_neg c_9, if_neg c_10, if_neg c_11, if_neg c_12, if_neg c_13, if_pos c_16], by unfold mv_M_look_y; rw [if_neg c_3, if_neg c_4, if_neg c_5, if_neg c_6, if_neg c_9, if_neg c_10, if_neg c_11, if_neg c_12, if_neg c_13, if_pos c_16]⟩, ht⟩) (fun _ h => nomatch h) d_M_look_135
                    · skip
                      refine lv_tableOut (tgt := 136) hx hb d_M_look_21 (by have z0 := mr_ne (z := 0) (by decide) c_3; have z1 := mr_ne (z := 1) (by decide) c_4; have z2 := mr_ne (z := 2) (by decide) c_5; have z3 := mr_ne (z := 3) (by decide) c_6; have z4 := mr_ne (z := 4) (by decide) c_9; have z5 := mr_ne (z := 5) (by decide) c_10; have z6 := mr_ne (z := 6) (by decide) c_11; have z7 := mr_ne (z := 7) (by decide) c_12; have z8 := mr_ne (z := 8) (by decide) c_13; have z9 := mr_ne (z := 9) (by decide) c_16; omega) (by decide) ?_
                      obtain ⟨sa, hstr⟩ := mr_str (hts (Cond.stringRef "MeasureRows" 184 "nothing such to look at") mw_158) hown
                      exact mr_throw (names := mr_up) hx hb hlt hown (by decide +kernel) (by decide +kernel) (hts (Cond.classLink "MeasureRows" 56 mr_iob) mw_129) (hts (Cond.initialized mr_iob) mw_130) hstr (hB.own _ mr_a_iob) (hl.1.trans hml.symm) d_M_look_136 d_M_look_139 d_M_look_140 d_M_look_142 d_M_look_145 hno (Nat.le_of_ble_eq_true rfl) (Nat.le_of_ble_eq_true rfl) (Nat.le_of_ble_eq_true rfl) (Nat.le_of_ble_eq_true rfl) hlocks ⟨rfl, by unfold mk_M_look_y; rw [if_neg c_3, if_neg c_4, if_neg c_5, if_neg c_6, if_neg c_9, if_neg c_10, if_neg c_11, if_neg c_12, if_neg c_13, if_neg c_16]⟩ (Nat.le_of_ble_eq_true rfl) (Nat.le_of_ble_eq_true rfl)
def mv_M_look_n  (a0 : Int32) (a1 : Int32) : Int32 := 0
def mk_M_look_n  (a0 : Int32) (a1 : Int32) : Int32 := 1
set_option maxHeartbeats 4000000 in
set_option maxRecDepth 100000 in
theorem mc_M_look_nX (l : Launch) (hlt : l.stackTraces = false) (s0 : State) (dC : Nat → ClassId) (dI : Nat → Nat → Nat) (cI cR cL cZ : ClassId) (r : Nat → Nat) (n : Nat) (nw pb lc : Int32) (fm fi : Nat → Int32) (fr : Nat → Option Nat) (fl fc fg : Nat → Int32) (L : List Nat) (f : Nat → va_E) (fco fla ffi fki fra fkn cls cpa fe fa fk : Nat → Int32) (a0 : Int32) (a1 : Int32) (hnr : mv_D_isRow n a0 = 0) (hX : mr_RX cI n L f fr fco fla ffi fki fra fkn cls cpa fe fa fk) (hN : mr_NX n nw fco fki fra fkn fe fk) : mr_Met l y_M_look [Cond.code y_M_look b_M_look 4 (some .int)] ({ frames := 6, cells := 1, slots := 6, locals := 92 }) (mr_PW s0 (dC, dI) [(cI, .int), (cR, .object "MeasureRows$Row"), (cL, .long), (cZ, .boolean)] [.ref (r 0), .int a0, .int a1] (([((r 0), .inr (0, mf_M r (nI n) nw pb lc)), ((r 1), .inr (1, [.ref (r 2), .ref (r 3)])), ((r 2), .inl (cI, 8, .inl fm)), ((r 3), .inl (cI, 8, .inl fi)), ((r 4), .inl (cR, 80, .inr (.inr (.inr (.inr fr))))), ((r 5), .inl (cI, 80, .inl fl)), ((r 6), .inl (cI, 80, .inl fc)), ((r 7), .inl (cI, 8, .inl fg))] : va_W) ++ va_pl L f)) (vp_Si (fun r => mk_M_look_n  a0 a1 = 0 ∧ r = mv_M_look_n  a0 a1)) (fun E => (E = mr_iob ∧ mk_M_look_n  a0 a1 = 1)) 1 6 (fun _ => False) := by
  refine mr_of (cc := b_M_look) (maxL := 4) (ret := (some .int)) (by decide) rfl ?_
  intro p e s m args below meth c s₁ B hml hno hv
  obtain ⟨rfl, hB, hK, hP⟩ := hv
  have hBH := hB.here
  have hx := B.exec
  have hb := B.bytes
  have hr := B.returns
  have hlocks := B.notSynchronized
  have hts : ∀ w ∈ lw_tbl, w.before [.ref (r 0), .int a0, .int a1].toArray s = true := hB.hts _
  have hown : s.vm.findClass "MeasureRows" = some m.cls := findClass_of_methodNamed B.named
  have hl := lv_entry ([.ref (r 0), .int a0, .int a1]) (n := 4) (Nat.le_of_ble_eq_true rfl)
  rw [lg_entry_eq]
  generalize (lg_sl ([.ref (r 0), .int a0, .int a1]) ++ List.replicate (4 - (lg_sl ([.ref (r 0), .int a0, .int a1])).length) Slot.unset).toArray = ls at hl ⊢
  have hl : lv_has ls 4 [(0, .ref (r 0)), (1, .int a0), (2, .int a1)] := hl
  refine lv_aload_n hx hb d_M_look_0 rfl (lv_at hl 0 rfl) ?_
  refine lv_iload_n hx hb d_M_look_1 rfl (lv_at hl 1 rfl) ?_
  refine va_csq (va_Run.run (va_runV (As := [.int a0]) (rest := []) (C := R_M) ⟨hx, hb, hml, hown, hts⟩ (mc_M_find l s0 dC dI cI cR cL cZ r n nw pb lc fr a0 hX.1) ⟨(mr_cB 1 (hts (Cond.code y_M_find b_M_find 2 (some (.object "MeasureRows$Row"))) mw_117) (hts (Cond.initialized y_M_find.cls) mw_118) (hts (Cond.methodLink "MeasureRows" 111 y_M_find) mw_119) rfl rfl (by decide +kernel) ⟨Nat.le_of_ble_eq_true rfl, Nat.le_of_ble_eq_true rfl⟩), (hts (Cond.instanceMethod y_M_find) mw_120), (hts (Cond.selects "MeasureRows" y_M_find y_M_find) mw_121)⟩ (mr_preV hBH hK (hP.sub (ws' := [((r 0), .inr (0, mf_M r (nI n) nw pb lc)), ((r 4), .inl (cR, 80, .inr (.inr (.inr (.inr fr)))))]) [0, 4] rfl) (ci := 0) (q0 := 0) rfl rfl) rfl rfl hl.1 rfl (lv_room (Nat.le_of_ble_eq_true rfl)) d_M_look_2 ⟨Nat.le_of_ble_eq_true rfl, Nat.le_of_ble_eq_true rfl⟩)) (fun r_1 h_2 => ?_)
  subst h_2
  refine mr_topv (show va_rf (mv_M_find n fr a0) = .null by rw [mr_fn _ hnr]; rfl) ?_
  refine lv_astore_nN (lv' := [(3, .null), (0, .ref (r 0)), (1, .int a0), (2, .int a1)]) hx hb d_M_look_5 rfl hl (by decide) rfl (fun ls hl => ?_)
  refine lv_aload_nN hx hb d_M_look_6 rfl (lv_at hl 0 rfl) ?_
  refine lv_ifnonnullN hx hb d_M_look_7 ?_
  obtain ⟨sa, hstr⟩ := mr_str (hts (Cond.stringRef "MeasureRows" 121 "no such row") mw_146) hown
  exact mr_throw (names := mr_up) hx hb hlt hown (by decide +kernel) (by decide +kernel) (hts (Cond.classLink "MeasureRows" 56 mr_iob) mw_129) (hts (Cond.initialized mr_iob) mw_130) hstr (hB.own _ mr_a_iob) (hl.1.trans hml.symm) d_M_look_10 d_M_look_13 d_M_look_14 d_M_look_16 d_M_look_19 hno (Nat.le_of_ble_eq_true rfl) (Nat.le_of_ble_eq_true rfl) (Nat.le_of_ble_eq_true rfl) (Nat.le_of_ble_eq_true rfl) hlocks ⟨rfl, rfl⟩ (Nat.le_of_ble_eq_true rfl) (Nat.le_of_ble_eq_true rfl)
