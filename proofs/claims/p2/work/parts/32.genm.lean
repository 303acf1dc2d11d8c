theorem mw_117 : Cond.code y_M_find b_M_find 2 (some (.object "MeasureRows$Row")) ∈ lw_tbl := by decide +kernel
theorem mw_118 : Cond.initialized y_M_find.cls ∈ lw_tbl := by decide +kernel
theorem mw_119 : Cond.methodLink "MeasureRows" 111 y_M_find ∈ lw_tbl := by decide +kernel
theorem mw_120 : Cond.instanceMethod y_M_find ∈ lw_tbl := by decide +kernel
theorem mw_121 : Cond.selects "MeasureRows" y_M_find y_M_find ∈ lw_tbl := by decide +kernel
theorem mw_122 : Cond.code y_R_isAlike b_R_isAlike 5 (some .boolean) ∈ lw_tbl := by decide +kernel
theorem mw_123 : Cond.initialized y_R_isAlike.cls ∈ lw_tbl := by decide +kernel
theorem mw_124 : Cond.methodLink "MeasureRows" 189 y_R_isAlike ∈ lw_tbl := by decide +kernel
theorem mw_125 : Cond.instanceMethod y_R_isAlike ∈ lw_tbl := by decide +kernel
theorem mw_126 : Cond.selects "MeasureRows$Row" y_R_isAlike y_R_isAlike ∈ lw_tbl := by decide +kernel
theorem mw_127 : Cond.methodLink "MeasureRows" 193 y_R_meets ∈ lw_tbl := by decide +kernel
set_option maxHeartbeats 4000000 in
set_option maxRecDepth 100000 in
theorem mc_M_leastClash (l : Launch) (s0 : State) (dC : Nat → ClassId) (dI : Nat → Nat → Nat) (cI cR cL cZ : ClassId) (r : Nat → Nat) (n : Nat) (nw pb lc : Int32) (fm fi : Nat → Int32) (fr : Nat → Option Nat) (fl fc fg : Nat → Int32) (L : List Nat) (f : Nat → va_E) (a0 : Int32) (a1 : Int32) (a2 : Int32) (a3 : Int32) (a4 : Int32) (a5 : Int32) (hR : mr_RI cI n L f fr) : Met l y_M_leastClash [Cond.code y_M_leastClash b_M_leastClash 9 (some .int)] ({ frames := 2, cells := 0, slots := 0, locals := 47 }) (mr_PW s0 (dC, dI) [(cI, .int), (cR, .object "MeasureRows$Row"), (cL, .long), (cZ, .boolean)] [.ref (r 0), .int a0, .int a1, .int a2, .int a3, .int a4, .int a5] ([((r 0), .inr (0, mf_M r (nI n) nw pb lc)), ((r 1), .inr (1, [.ref (r 2), .ref (r 3)])), ((r 2), .inl (cI, 8, .inl fm)), ((r 3), .inl (cI, 8, .inl fi)), ((r 4), .inl (cR, 80, .inr (.inr (.inr (.inr fr))))), ((r 5), .inl (cI, 80, .inl fl)), ((r 6), .inl (cI, 80, .inl fc)), ((r 7), .inl (cI, 8, .inl fg))] ++ va_pl L f)) (vp_Si (fun _ => True)) 0 0 (fun _ => False) := by
  refine Met.ofW (cc := b_M_leastClash) (maxL := 9) (ret := (some .int)) (by decide) rfl ?_
  intro p e s m args below meth c s₁ B hml hv
  obtain ⟨rfl, hB, hK, hP⟩ := hv
  have hBH := hB.here
  have hx := B.exec
  have hb := B.bytes
  have hr := B.returns
  have hlocks := B.notSynchronized
  have hts : ∀ w ∈ lw_tbl, w.before [.ref (r 0), .int a0, .int a1, .int a2, .int a3, .int a4, .int a5].toArray s = true := hB.hts _
  have hown : s.vm.findClass "MeasureRows" = some m.cls := findClass_of_methodNamed B.named
  have hl := lv_entry ([.ref (r 0), .int a0, .int a1, .int a2, .int a3, .int a4, .int a5]) (n := 9) (Nat.le_of_ble_eq_true rfl)
  rw [lg_entry_eq]
  generalize (lg_sl ([.ref (r 0), .int a0, .int a1, .int a2, .int a3, .int a4, .int a5]) ++ List.replicate (9 - (lg_sl ([.ref (r 0), .int a0, .int a1, .int a2, .int a3, .int a4, .int a5])).length) Slot.unset).toArray = ls at hl ⊢
  have hl : lv_has ls 9 [(0, .ref (r 0)), (1, .int a0), (2, .int a1), (3, .int a2), (4, .int a3), (5, .int a4), (6, .int a5)] := hl
  refine lv_iconst (v := 1) hx hb d_M_leastClash_0 (by decide) ?_
  refine lv_istore (lv' := [(7, .int 1), (0, .ref (r 0)), (1, .int a0), (2, .int a1), (3, .int a2), (4, .int a3), (5, .int a4), (6, .int a5)]) hx hb d_M_leastClash_1 hl (by decide) rfl (fun ls hl => ?_)
  refine mr_loop (N := n) (I := fun j H locs ls => H = s.heap ∧ locs = [] ∧ lv_has ls 9 [(7, .int (nI (j + 1))), (0, .ref (r 0)), (1, .int a0), (2, .int a1), (3, .int a2), (4, .int a3), (5, .int a4), (6, .int a5)]) (fun j H locs ls hj hI ih => ?_) (fun H locs ls hI => ?_) 0 _ _ _ (Nat.zero_le _) ⟨rfl, rfl, (lv_sub hl [0, 1, 2, 3, 4, 5, 6, 7] rfl)⟩
  · obtain ⟨rfl, rfl, hl⟩ := hI
    refine lv_iload hx hb d_M_leastClash_3 (lv_at hl 0 rfl) ?_
    refine lv_aload_n hx hb d_M_leastClash_5 rfl (lv_at hl 1 rfl) ?_
    refine va_get (D := (dC, dI)) (ci := 0) (v := .int (nI n)) (C := R_M) (T := T_M) (N := 9) hx hb hts ti_M hown hK hP 0 rfl rfl 2 (by decide) (hts (Cond.fieldLink "MeasureRows" 22 "MeasureRows" "rowCount" "I") mw_57) (fun _ h9 => h9) rfl d_M_leastClash_6 ?_
    refine lv_icmp_gt (tgt := 63) hx hb d_M_leastClash_9 (by decide) (fun c_1 => absurd c_1 (nI_nlt (by omega) (by have := hR.1; omega))) (fun _ => ?_)
    refine lv_aload_n hx hb d_M_leastClash_12 rfl (lv_at hl 1 rfl) ?_
    refine lv_iload hx hb d_M_leastClash_13 (lv_at hl 0 rfl) ?_
    refine va_csq (va_Run.run (va_runV (As := [.int (nI (j + 1))]) (rest := []) (C := R_M) ⟨hx, hb, hml, hown, hts⟩ (mc_M_find l s0 dC dI cI cR cL cZ r n nw pb lc fr (nI (j + 1)) hR.1) ⟨(mr_cB 1 (hts (Cond.code y_M_find b_M_find 2 (some (.object "MeasureRows$Row"))) mw_117) (hts (Cond.initialized y_M_find.cls) mw_118) (hts (Cond.methodLink "MeasureRows" 111 y_M_find) mw_119) rfl rfl (by decide +kernel) ⟨Nat.le_of_ble_eq_true rfl, Nat.le_of_ble_eq_true rfl⟩), (hts (Cond.instanceMethod y_M_find) mw_120), (hts (Cond.selects "MeasureRows" y_M_find y_M_find) mw_121)⟩ (mr_preV hBH hK (hP.sub (ws' := [((r 0), .inr (0, mf_M r (nI n) nw pb lc)), ((r 4), .inl (cR, 80, .inr (.inr (.inr (.inr fr)))))]) [0, 4] rfl) (ci := 0) (q0 := 0) rfl rfl) rfl rfl hl.1 rfl (lv_room (Nat.le_of_ble_eq_true rfl)) d_M_leastClash_15 ⟨Nat.le_of_ble_eq_true rfl, Nat.le_of_ble_eq_true rfl⟩)) (fun r_2 h_3 => ?_)
    subst h_3
    rcases mr_fc hR (nI (j + 1)) with hf_1 | ⟨i_1, hi_1, hxe_1, a_1, ql_1, qk_1, v0_1, v1_1, v2_1, v4_1, v5_1, v6_1, v7_1, k_1, t_1, ld_1, kd_1, hf_1, hfi_1, m1_1, m2_1, m3_1, e1_1, e2_1, e3_1, hk_1, ht_1, ho_1, hne_1⟩
    · refine mr_topv (show va_rf (mv_M_find n fr (nI (j + 1))) = .null by rw [hf_1]; rfl) ?_
      refine lv_astoreN (lv' := [(8, .null), (7, .int (nI (j + 1))), (0, .ref (r 0)), (1, .int a0), (2, .int a1), (3, .int a2), (4, .int a3), (5, .int a4), (6, .int a5)]) hx hb d_M_leastClash_18 hl (by decide) rfl (fun ls hl => ?_)
      refine lv_aloadN hx hb d_M_leastClash_20 (lv_at hl 0 rfl) ?_
      refine lv_ifnullN (tgt := 57) hx hb d_M_leastClash_22 (by decide) ?_
      refine lv_iinc (v := nI ((j + 1) + 1)) (lv' := [(7, .int (nI ((j + 1) + 1))), (8, .null), (0, .ref (r 0)), (1, .int a0), (2, .int a1), (3, .int a2), (4, .int a3), (5, .int a4), (6, .int a5)]) hx hb d_M_leastClash_57 hl (k := 1) rfl ((nI_succ (j + 1)).symm) (by decide) rfl (fun ls hl => ?_)
      refine lv_goto (tgt := 3) hx hb d_M_leastClash_60 (by decide) ?_
      exact ih _ _ _ ⟨rfl, rfl, lv_sub hl [0, 2, 3, 4, 5, 6, 7, 8] rfl⟩
    · refine mr_topv (show va_rf (mv_M_find n fr (nI (j + 1))) = .ref a_1 by rw [hf_1]; rfl) ?_
      have hPr_1 := mr_row3 (X := [((r 0), .inr (0, mf_M r (nI n) nw pb lc)), ((r 1), .inr (1, [.ref (r 2), .ref (r 3)])), ((r 2), .inl (cI, 8, .inl fm)), ((r 3), .inl (cI, 8, .inl fi)), ((r 4), .inl (cR, 80, .inr (.inr (.inr (.inr fr))))), ((r 5), .inl (cI, 80, .inl fl)), ((r 6), .inl (cI, 80, .inl fc)), ((r 7), .inl (cI, 8, .inl fg))]) hP m1_1 m2_1 m3_1 e1_1 e2_1 e3_1
      refine lv_astore (lv' := [(8, .ref a_1), (7, .int (nI (j + 1))), (0, .ref (r 0)), (1, .int a0), (2, .int a1), (3, .int a2), (4, .int a3), (5, .int a4), (6, .int a5)]) hx hb d_M_leastClash_18 hl (by decide) rfl (fun ls hl => ?_)
      refine lv_aload hx hb d_M_leastClash_20 (lv_at hl 0 rfl) ?_
      refine lv_ifnull hx hb d_M_leastClash_22 ?_
      refine lv_aload hx hb d_M_leastClash_25 (lv_at hl 0 rfl) ?_
      refine lv_iload_n hx hb d_M_leastClash_27 rfl (lv_at hl 3 rfl) ?_
      refine lv_iload_n hx hb d_M_leastClash_28 rfl (lv_at hl 4 rfl) ?_
      refine lv_iload hx hb d_M_leastClash_29 (lv_at hl 7 rfl) ?_
      refine lv_iload hx hb d_M_leastClash_31 (lv_at hl 8 rfl) ?_
      refine vp_callSi (va_Run.run (va_runV (As := [.int a0, .int a1, .int a4, .int a5]) (rest := []) (C := R_R) ⟨hx, hb, hml, hown, hts⟩ (mc_R_isAlike l s0 dC dI cI cR cL cZ a_1 ql_1 qk_1 v0_1 v1_1 v2_1 (nI k_1) v4_1 v5_1 v6_1 v7_1 (nI t_1) a0 a1 a4 a5) ⟨(mr_cB 4 (hts (Cond.code y_R_isAlike b_R_isAlike 5 (some .boolean)) mw_122) (hts (Cond.initialized y_R_isAlike.cls) mw_123) (hts (Cond.methodLink "MeasureRows" 189 y_R_isAlike) mw_124) rfl rfl (by decide +kernel) ⟨Nat.le_of_ble_eq_true rfl, Nat.le_of_ble_eq_true rfl⟩), (hts (Cond.instanceMethod y_R_isAlike) mw_125), (hts (Cond.selects "MeasureRows$Row" y_R_isAlike y_R_isAlike) mw_126)⟩ (mr_preV hBH hK (hPr_1.sub (ws' := [(a_1, .inr (2, [.int v0_1, .int v1_1, .int v2_1, .int (nI k_1), .int v4_1, .int v5_1, .int v6_1, .int v7_1, .int (nI t_1), .ref ql_1, .ref qk_1]))]) [0] rfl) (ci := 2) (q0 := 0) rfl rfl) rfl rfl hl.1 rfl (lv_room (Nat.le_of_ble_eq_true rfl)) d_M_leastClash_33 ⟨Nat.le_of_ble_eq_true rfl, Nat.le_of_ble_eq_true rfl⟩)) (fun r_4 h_5 => ?_)
      subst h_5
      refine lv_if_eq (tgt := 57) hx hb d_M_leastClash_36 (by decide) (fun c_6 => ?_) (fun c_6 => ?_)
      · refine lv_iinc (v := nI ((j + 1) + 1)) (lv' := [(7, .int (nI ((j + 1) + 1))), (8, .ref a_1), (0, .ref (r 0)), (1, .int a0), (2, .int a1), (3, .int a2), (4, .int a3), (5, .int a4), (6, .int a5)]) hx hb d_M_leastClash_57 hl (k := 1) rfl ((nI_succ (j + 1)).symm) (by decide) rfl (fun ls hl => ?_)
        refine lv_goto (tgt := 3) hx hb d_M_leastClash_60 (by decide) ?_
        exact ih _ _ _ ⟨rfl, rfl, lv_sub hl [0, 2, 3, 4, 5, 6, 7, 8] rfl⟩
      · refine lv_aload hx hb d_M_leastClash_39 (lv_at hl 0 rfl) ?_
        refine lv_iload_n hx hb d_M_leastClash_41 rfl (lv_at hl 5 rfl) ?_
        refine lv_iload hx hb d_M_leastClash_42 (lv_at hl 6 rfl) ?_
        refine lv_aload_n hx hb d_M_leastClash_44 rfl (lv_at hl 2 rfl) ?_
        refine va_get (D := (dC, dI)) (ci := 0) (v := .int nw) (C := R_M) (T := T_M) (N := 9) hx hb hts ti_M hown hK hP 0 rfl rfl 3 (by decide) (hts (Cond.fieldLink "MeasureRows" 26 "MeasureRows" "now" "I") mw_58) (fun _ h9 => h9) rfl d_M_leastClash_45 ?_
        refine vp_callSi (va_Run.run (va_runV (As := [.int a2, .int a3, .int nw]) (rest := []) (C := R_R) ⟨hx, hb, hml, hown, hts⟩ (mc_R_meets l s0 dC dI cI cR cL cZ a_1 ql_1 qk_1 v0_1 v1_1 v2_1 (nI k_1) v4_1 v5_1 v6_1 v7_1 t_1 ld_1 kd_1 a2 a3 nw ht_1) ⟨(mr_cB 3 (hts (Cond.code y_R_meets b_R_meets 4 (some .boolean)) mw_108) (hts (Cond.initialized y_R_meets.cls) mw_109) (hts (Cond.methodLink "MeasureRows" 193 y_R_meets) mw_127) rfl rfl (by decide +kernel) ⟨Nat.le_of_ble_eq_true rfl, Nat.le_of_ble_eq_true rfl⟩), (hts (Cond.instanceMethod y_R_meets) mw_111), (hts (Cond.selects "MeasureRows$Row" y_R_meets y_R_meets) mw_112)⟩ (mr_preV hBH hK (hPr_1.sub (ws' := [(a_1, .inr (2, [.int v0_1, .int v1_1, .int v2_1, .int (nI k_1), .int v4_1, .int v5_1, .int v6_1, .int v7_1, .int (nI t_1), .ref ql_1, .ref qk_1])), (ql_1, .inl (cI, 8, .inl ld_1)), (qk_1, .inl (cI, 8, .inl kd_1))]) [0, 1, 2] rfl) (ci := 2) (q0 := 0) rfl rfl) rfl rfl hl.1 rfl (lv_room (Nat.le_of_ble_eq_true rfl)) d_M_leastClash_48 ⟨Nat.le_of_ble_eq_true rfl, Nat.le_of_ble_eq_true rfl⟩)) (fun r_7 h_8 => ?_)
        subst h_8
        refine lv_if_eq (tgt := 57) hx hb d_M_leastClash_51 (by decide) (fun c_9 => ?_) (fun c_9 => ?_)
        · refine lv_iinc (v := nI ((j + 1) + 1)) (lv' := [(7, .int (nI ((j + 1) + 1))), (8, .ref a_1), (0, .ref (r 0)), (1, .int a0), (2, .int a1), (3, .int a2), (4, .int a3), (5, .int a4), (6, .int a5)]) hx hb d_M_leastClash_57 hl (k := 1) rfl ((nI_succ (j + 1)).symm) (by decide) rfl (fun ls hl => ?_)
          refine lv_goto (tgt := 3) hx hb d_M_leastClash_60 (by decide) ?_
          exact ih _ _ _ ⟨rfl, rfl, lv_sub hl [0, 2, 3, 4, 5, 6, 7, 8] rfl⟩
        · refine lv_iload hx hb d_M_leastClash_54 (lv_at hl 1 rfl) ?_
          exact W.iret (v := nI (j + 1)) hx hb hr (fun t ht _ => ⟨_, rfl, trivial, ht⟩) (fun _ h => nomatch h) d_M_leastClash_56
  · obtain ⟨rfl, rfl, hl⟩ := hI
    refine lv_iload hx hb d_M_leastClash_3 (lv_at hl 0 rfl) ?_
    refine lv_aload_n hx hb d_M_leastClash_5 rfl (lv_at hl 1 rfl) ?_
    refine va_get (D := (dC, dI)) (ci := 0) (v := .int (nI n)) (C := R_M) (T := T_M) (N := 9) hx hb hts ti_M hown hK hP 0 rfl rfl 2 (by decide) (hts (Cond.fieldLink "MeasureRows" 22 "MeasureRows" "rowCount" "I") mw_57) (fun _ h9 => h9) rfl d_M_leastClash_6 ?_
    refine lv_icmp_gt (tgt := 63) hx hb d_M_leastClash_9 (by decide) (fun _ => ?_) (fun c_10 => absurd (nI_lt (by omega) (by have := hR.1; omega)) c_10)
    refine lv_iconst (v := (-1)) hx hb d_M_leastClash_63 (by decide) ?_
    exact W.iret (v := (-1)) hx hb hr (fun t ht _ => ⟨_, rfl, trivial, ht⟩) (fun _ h => nomatch h) d_M_leastClash_64
