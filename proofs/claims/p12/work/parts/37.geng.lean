theorem mw_200 : Cond.code y_M_isUnder b_M_isUnder 2 (some .boolean) ∈ lw_tbl := by decide +kernel
theorem mw_201 : Cond.initialized y_M_isUnder.cls ∈ lw_tbl := by decide +kernel
theorem mw_202 : Cond.methodLink "MeasureRows" 197 y_M_isUnder ∈ lw_tbl := by decide +kernel
theorem mw_203 : Cond.static y_M_isUnder ∈ lw_tbl := by decide +kernel
theorem mw_204 : Cond.code y_M_isOfLand b_M_isOfLand 3 (some .boolean) ∈ lw_tbl := by decide +kernel
theorem mw_205 : Cond.initialized y_M_isOfLand.cls ∈ lw_tbl := by decide +kernel
theorem mw_206 : Cond.methodLink "MeasureRows" 200 y_M_isOfLand ∈ lw_tbl := by decide +kernel
theorem mw_207 : Cond.instanceMethod y_M_isOfLand ∈ lw_tbl := by decide +kernel
theorem mw_208 : Cond.selects "MeasureRows" y_M_isOfLand y_M_isOfLand ∈ lw_tbl := by decide +kernel
set_option maxHeartbeats 4000000 in
set_option maxRecDepth 100000 in
theorem mc_M_gather5 (l : Launch) (s0 : State) (dC : Nat → ClassId) (dI : Nat → Nat → Nat) (cI cR cL cZ : ClassId) (r : Nat → Nat) (n : Nat) (nw pb lc : Int32) (fm fi : Nat → Int32) (fr : Nat → Option Nat) (fl fc fg : Nat → Int32) (L : List Nat) (f : Nat → va_E) (sz : Nat) (a1 : Int32) (a2 : Int32) (a3 : Int32) (a4 : Int32) (hR : mr_RI cI n L f fr) : Met l y_M_gather [Cond.code y_M_gather b_M_gather 9 (some .int)] ({ frames := 4, cells := 0, slots := 0, locals := 85 }) (mr_PC s0 (dC, dI) [(cI, .int), (cR, .object "MeasureRows$Row"), (cL, .long), (cZ, .boolean)] [.ref (r 0), .ref (r 5), .int a1, .int a2, .int a3, .int a4] (([((r 0), .inr (0, mf_M r (nI n) nw pb lc)), ((r 1), .inr (1, [.ref (r 2), .ref (r 3)])), ((r 2), .inl (cI, 8, .inl fm)), ((r 3), .inl (cI, 8, .inl fi)), ((r 4), .inl (cR, 80, .inr (.inr (.inr (.inr fr))))), ((r 5), .inl (cI, 80, .inl fl)), ((r 6), .inl (cI, 80, .inl fc)), ((r 7), .inl (cI, 8, .inl fg))] : va_W) ++ va_pl L f) sz) (va_Qi (fun rr u => rr = nI u.1 ∧ u.1 ≤ n) (fun (u : Nat × (Nat → Int32)) t => mr_W (dC, dI) [(cI, .int), (cR, .object "MeasureRows$Row"), (cL, .long), (cZ, .boolean)] (va_A (([((r 0), .inr (0, mf_M r (nI n) nw pb lc)), ((r 1), .inr (1, [.ref (r 2), .ref (r 3)])), ((r 2), .inl (cI, 8, .inl fm)), ((r 3), .inl (cI, 8, .inl fi)), ((r 4), .inl (cR, 80, .inr (.inr (.inr (.inr fr))))), ((r 5), .inl (cI, 80, .inl fl)), ((r 6), .inl (cI, 80, .inl fc)), ((r 7), .inl (cI, 8, .inl fg))] : va_W) ++ va_pl L f) sz) (([((r 0), .inr (0, mf_M r (nI n) nw pb lc)), ((r 1), .inr (1, [.ref (r 2), .ref (r 3)])), ((r 2), .inl (cI, 8, .inl fm)), ((r 3), .inl (cI, 8, .inl fi)), ((r 4), .inl (cR, 80, .inr (.inr (.inr (.inr fr))))), ((r 5), .inl (cI, 80, .inl u.2)), ((r 6), .inl (cI, 80, .inl fc)), ((r 7), .inl (cI, 8, .inl fg))] : va_W) ++ va_pl L f) t) (va_A (([((r 0), .inr (0, mf_M r (nI n) nw pb lc)), ((r 1), .inr (1, [.ref (r 2), .ref (r 3)])), ((r 2), .inl (cI, 8, .inl fm)), ((r 3), .inl (cI, 8, .inl fi)), ((r 4), .inl (cR, 80, .inr (.inr (.inr (.inr fr))))), ((r 5), .inl (cI, 80, .inl fl)), ((r 6), .inl (cI, 80, .inl fc)), ((r 7), .inl (cI, 8, .inl fg))] : va_W) ++ va_pl L f) sz)) 0 0 (va_A (([((r 0), .inr (0, mf_M r (nI n) nw pb lc)), ((r 1), .inr (1, [.ref (r 2), .ref (r 3)])), ((r 2), .inl (cI, 8, .inl fm)), ((r 3), .inl (cI, 8, .inl fi)), ((r 4), .inl (cR, 80, .inr (.inr (.inr (.inr fr))))), ((r 5), .inl (cI, 80, .inl fl)), ((r 6), .inl (cI, 80, .inl fc)), ((r 7), .inl (cI, 8, .inl fg))] : va_W) ++ va_pl L f) sz) := by
  refine Met.ofW (cc := b_M_gather) (maxL := 9) (ret := (some .int)) (by decide) rfl ?_
  intro p e s m args below meth c s₁ B hml hv
  obtain ⟨rfl, hsz, hB, hK, hP, hD0⟩ := hv
  subst hsz
  have hA0 := mr_A hB hD0
  have hD := hD0.self (sz := s.heap.size)
  generalize hAe : va_A (([((r 0), .inr (0, mf_M r (nI n) nw pb lc)), ((r 1), .inr (1, [.ref (r 2), .ref (r 3)])), ((r 2), .inl (cI, 8, .inl fm)), ((r 3), .inl (cI, 8, .inl fi)), ((r 4), .inl (cR, 80, .inr (.inr (.inr (.inr fr))))), ((r 5), .inl (cI, 80, .inl fl)), ((r 6), .inl (cI, 80, .inl fc)), ((r 7), .inl (cI, 8, .inl fg))] : va_W) ++ va_pl L f) s.heap.size = A at hD hA0 ⊢
  have hA : ∀ q : Nat, s.heap.size ≤ q → A q := fun q h => by rw [← hAe]; exact Or.inr h
  have hS : va_S A s.heap s.heap [] := va_S.rf
  have hP : va_P (dC, dI) mr_cl (([((r 0), .inr (0, mf_M r (nI n) nw pb lc)), ((r 1), .inr (1, [.ref (r 2), .ref (r 3)])), ((r 2), .inl (cI, 8, .inl fm)), ((r 3), .inl (cI, 8, .inl fi)), ((r 4), .inl (cR, 80, .inr (.inr (.inr (.inr fr))))), ((r 5), .inl (cI, 80, .inl fl)), ((r 6), .inl (cI, 80, .inl fc)), ((r 7), .inl (cI, 8, .inl fg))] : va_W) ++ va_pl L f) s.heap := hP
  have hBH := hB.at hS hA0
  have hx := B.exec
  have hb := B.bytes
  have hr := B.returns
  have hlocks := B.notSynchronized
  have hts : ∀ w ∈ lw_tbl, w.before [.ref (r 0), .ref (r 5), .int a1, .int a2, .int a3, .int a4].toArray s = true := hB.hts _
  have hown : s.vm.findClass "MeasureRows" = some m.cls := findClass_of_methodNamed B.named
  have hl := lv_entry ([.ref (r 0), .ref (r 5), .int a1, .int a2, .int a3, .int a4]) (n := 9) (Nat.le_of_ble_eq_true rfl)
  rw [lg_entry_eq]
  generalize (lg_sl ([.ref (r 0), .ref (r 5), .int a1, .int a2, .int a3, .int a4]) ++ List.replicate (9 - (lg_sl ([.ref (r 0), .ref (r 5), .int a1, .int a2, .int a3, .int a4])).length) Slot.unset).toArray = ls at hl ⊢
  have hl : lv_has ls 9 [(0, .ref (r 0)), (1, .ref (r 5)), (2, .int a1), (3, .int a2), (4, .int a3), (5, .int a4)] := hl
  refine lv_iconst (v := 0) hx hb d_M_gather_0 (by decide) ?_
  refine lv_istore (lv' := [(6, .int 0), (0, .ref (r 0)), (1, .ref (r 5)), (2, .int a1), (3, .int a2), (4, .int a3), (5, .int a4)]) hx hb d_M_gather_1 hl (by decide) rfl (fun ls hl => ?_)
  refine lv_iconst (v := 1) hx hb d_M_gather_3 (by decide) ?_
  refine lv_istore (lv' := [(7, .int 1), (6, .int 0), (0, .ref (r 0)), (1, .ref (r 5)), (2, .int a1), (3, .int a2), (4, .int a3), (5, .int a4)]) hx hb d_M_gather_4 hl (by decide) rfl (fun ls hl => ?_)
  refine mr_loop (N := n) (I := fun j H locs ls => ∃ q9 : Nat, ∃ ft9 : Nat → Int32, q9 ≤ j ∧ va_P (dC, dI) mr_cl (([((r 0), .inr (0, mf_M r (nI n) nw pb lc)), ((r 1), .inr (1, [.ref (r 2), .ref (r 3)])), ((r 2), .inl (cI, 8, .inl fm)), ((r 3), .inl (cI, 8, .inl fi)), ((r 4), .inl (cR, 80, .inr (.inr (.inr (.inr fr))))), ((r 5), .inl (cI, 80, .inl ft9)), ((r 6), .inl (cI, 80, .inl fc)), ((r 7), .inl (cI, 8, .inl fg))] : va_W) ++ va_pl L f) H ∧ va_D A (([((r 0), .inr (0, mf_M r (nI n) nw pb lc)), ((r 1), .inr (1, [.ref (r 2), .ref (r 3)])), ((r 2), .inl (cI, 8, .inl fm)), ((r 3), .inl (cI, 8, .inl fi)), ((r 4), .inl (cR, 80, .inr (.inr (.inr (.inr fr))))), ((r 5), .inl (cI, 80, .inl ft9)), ((r 6), .inl (cI, 80, .inl fc)), ((r 7), .inl (cI, 8, .inl fg))] : va_W) ++ va_pl L f) ∧ va_S A s.heap H locs ∧ lv_has ls 9 [(7, .int (nI (j + 1))), (6, .int (nI q9)), (0, .ref (r 0)), (1, .ref (r 5)), (2, .int a1), (3, .int a2), (4, .int a3), (5, .int a4)]) (fun j H locs ls hj hI9 ih => ?_) (fun H locs ls hI9 => ?_) 0 _ _ _ (Nat.zero_le _) ⟨0, fl, Nat.le_refl 0, hP, hD, hS, (lv_sub hl [0, 1, 2, 3, 4, 5, 6, 7] rfl)⟩
  · obtain ⟨q9, ft9, hexj, hP, hD, hS, hl⟩ := hI9
    have hBH := hB.at hS hA0
    refine lv_iload hx hb d_M_gather_6 (lv_at hl 0 rfl) ?_
    refine lv_aload_n hx hb d_M_gather_8 rfl (lv_at hl 2 rfl) ?_
    refine va_get (D := (dC, dI)) (ci := 0) (v := .int (nI n)) (C := R_M) (T := T_M) (N := 9) hx hb hts ti_M hown hK hP 0 rfl rfl 2 (by decide) (hts (Cond.fieldLink "MeasureRows" 22 "MeasureRows" "rowCount" "I") mw_57) (fun _ h9 => h9) rfl d_M_gather_9 ?_
    refine lv_icmp_gt (tgt := 87) hx hb d_M_gather_12 (by decide) (fun c_1 => absurd c_1 (nI_nlt (by omega) (by have := hR.1; omega))) (fun _ => ?_)
    refine lv_aload_n hx hb d_M_gather_15 rfl (lv_at hl 2 rfl) ?_
    refine lv_iload hx hb d_M_gather_16 (lv_at hl 0 rfl) ?_
    refine va_csq (va_Run.run (va_runV (As := [.int (nI (j + 1))]) (rest := []) (C := R_M) ⟨hx, hb, hml, hown, hts⟩ (mc_M_find l s0 dC dI cI cR cL cZ r n nw pb lc fr (nI (j + 1)) hR.1) ⟨(mr_cB 1 (hts (Cond.code y_M_find b_M_find 2 (some (.object "MeasureRows$Row"))) mw_117) (hts (Cond.initialized y_M_find.cls) mw_118) (hts (Cond.methodLink "MeasureRows" 111 y_M_find) mw_119) rfl rfl (by decide +kernel) ⟨Nat.le_of_ble_eq_true rfl, Nat.le_of_ble_eq_true rfl⟩), (hts (Cond.instanceMethod y_M_find) mw_120), (hts (Cond.selects "MeasureRows" y_M_find y_M_find) mw_121)⟩ (mr_preV hBH hK (hP.sub (ws' := [((r 0), .inr (0, mf_M r (nI n) nw pb lc)), ((r 4), .inl (cR, 80, .inr (.inr (.inr (.inr fr)))))]) [0, 4] rfl) (ci := 0) (q0 := 0) rfl rfl) rfl rfl hl.1 rfl (lv_room (Nat.le_of_ble_eq_true rfl)) d_M_gather_18 ⟨Nat.le_of_ble_eq_true rfl, Nat.le_of_ble_eq_true rfl⟩)) (fun r_2 h_3 => ?_)
    subst h_3
    rcases mr_fc hR (nI (j + 1)) with hf_7 | ⟨i_7, hi_7, hxe_7, a_7, ql_7, qk_7, v0_7, v1_7, v2_7, v4_7, v5_7, v6_7, v7_7, k_7, t_7, ld_7, kd_7, hf_7, hfi_7, m1_7, m2_7, m3_7, e1_7, e2_7, e3_7, hk_7, ht_7, ho_7, hne_7⟩
    · refine mr_topv (show va_rf (mv_M_find n fr (nI (j + 1))) = .null by rw [hf_7]; rfl) ?_
      refine lv_astoreN (lv' := [(8, .null), (7, .int (nI (j + 1))), (6, .int (nI q9)), (0, .ref (r 0)), (1, .ref (r 5)), (2, .int a1), (3, .int a2), (4, .int a3), (5, .int a4)]) hx hb d_M_gather_21 hl (by decide) rfl (fun ls hl => ?_)
      refine lv_aloadN hx hb d_M_gather_23 (lv_at hl 0 rfl) ?_
      refine lv_ifnullN (tgt := 81) hx hb d_M_gather_25 (by decide) ?_
      refine lv_iinc (v := nI ((j + 1) + 1)) (lv' := [(7, .int (nI ((j + 1) + 1))), (8, .null), (6, .int (nI q9)), (0, .ref (r 0)), (1, .ref (r 5)), (2, .int a1), (3, .int a2), (4, .int a3), (5, .int a4)]) hx hb d_M_gather_81 hl (k := 1) rfl ((nI_succ (j + 1)).symm) (by decide) rfl (fun ls hl => ?_)
      refine lv_goto (tgt := 6) hx hb d_M_gather_84 (by decide) ?_
      exact ih _ _ _ ⟨q9, ft9, by omega, hP, hD, hS, lv_sub hl [0, 2, 3, 4, 5, 6, 7, 8] rfl⟩
    · refine mr_topv (show va_rf (mv_M_find n fr (nI (j + 1))) = .ref a_7 by rw [hf_7]; rfl) ?_
      have hPr_7 := mr_row3 (X := [((r 0), .inr (0, mf_M r (nI n) nw pb lc)), ((r 1), .inr (1, [.ref (r 2), .ref (r 3)])), ((r 2), .inl (cI, 8, .inl fm)), ((r 3), .inl (cI, 8, .inl fi)), ((r 4), .inl (cR, 80, .inr (.inr (.inr (.inr fr))))), ((r 5), .inl (cI, 80, .inl ft9)), ((r 6), .inl (cI, 80, .inl fc)), ((r 7), .inl (cI, 8, .inl fg))]) hP m1_7 m2_7 m3_7 e1_7 e2_7 e3_7
      refine lv_astore (lv' := [(8, .ref a_7), (7, .int (nI (j + 1))), (6, .int (nI q9)), (0, .ref (r 0)), (1, .ref (r 5)), (2, .int a1), (3, .int a2), (4, .int a3), (5, .int a4)]) hx hb d_M_gather_21 hl (by decide) rfl (fun ls hl => ?_)
      refine lv_aload hx hb d_M_gather_23 (lv_at hl 0 rfl) ?_
      refine lv_ifnull hx hb d_M_gather_25 ?_
      refine lv_aload hx hb d_M_gather_28 (lv_at hl 0 rfl) ?_
      refine va_get (D := (dC, dI)) (ci := 2) (v := .int v5_7) (C := R_R) (T := T_R) (N := 11) hx hb hts ti_R hown hK hPr_7 0 rfl rfl 5 (by decide) (hts (Cond.fieldLink "MeasureRows" 170 "MeasureRows$Row" "known" "I") mw_153) (fun _ h9 => h9) rfl d_M_gather_30 ?_
      refine lv_iload hx hb d_M_gather_33 (lv_at hl 8 rfl) ?_
      refine lv_icmp_gt (tgt := 81) hx hb d_M_gather_35 (by decide) (fun c_4 => ?_) (fun c_4 => ?_)
      · refine lv_iinc (v := nI ((j + 1) + 1)) (lv' := [(7, .int (nI ((j + 1) + 1))), (8, .ref a_7), (6, .int (nI q9)), (0, .ref (r 0)), (1, .ref (r 5)), (2, .int a1), (3, .int a2), (4, .int a3), (5, .int a4)]) hx hb d_M_gather_81 hl (k := 1) rfl ((nI_succ (j + 1)).symm) (by decide) rfl (fun ls hl => ?_)
        refine lv_goto (tgt := 6) hx hb d_M_gather_84 (by decide) ?_
        exact ih _ _ _ ⟨q9, ft9, by omega, hP, hD, hS, lv_sub hl [0, 2, 3, 4, 5, 6, 7, 8] rfl⟩
      · refine lv_iload_n hx hb d_M_gather_38 rfl (lv_at hl 5 rfl) ?_
        refine lv_aload hx hb d_M_gather_39 (lv_at hl 0 rfl) ?_
        refine va_get (D := (dC, dI)) (ci := 2) (v := .int v0_7) (C := R_R) (T := T_R) (N := 11) hx hb hts ti_R hown hK hPr_7 0 rfl rfl 0 (by decide) (hts (Cond.fieldLink "MeasureRows" 155 "MeasureRows$Row" "code" "I") mw_147) (fun _ h9 => h9) rfl d_M_gather_41 ?_
        refine vp_callSi (va_Run.run (va_runS (As := [.int a1, .int v0_7]) (rest := []) ⟨hx, hb, hml, hown, hts⟩ (mc_M_isUnder l s0 a1 v0_7) ⟨(mr_cB 2 (hts (Cond.code y_M_isUnder b_M_isUnder 2 (some .boolean)) mw_200) (hts (Cond.initialized y_M_isUnder.cls) mw_201) (hts (Cond.methodLink "MeasureRows" 197 y_M_isUnder) mw_202) rfl rfl (by decide +kernel) ⟨Nat.le_of_ble_eq_true rfl, Nat.le_of_ble_eq_true rfl⟩), (hts (Cond.static y_M_isUnder) mw_203)⟩ (mr_pre0 hBH) rfl rfl hl.1 rfl (lv_room (Nat.le_of_ble_eq_true rfl)) d_M_gather_44 ⟨Nat.le_of_ble_eq_true rfl, Nat.le_of_ble_eq_true rfl⟩)) (fun r_5 h_6 => ?_)
        subst h_6
        refine lv_if_eq (tgt := 81) hx hb d_M_gather_47 (by decide) (fun c_7 => ?_) (fun c_7 => ?_)
        · refine lv_iinc (v := nI ((j + 1) + 1)) (lv' := [(7, .int (nI ((j + 1) + 1))), (8, .ref a_7), (6, .int (nI q9)), (0, .ref (r 0)), (1, .ref (r 5)), (2, .int a1), (3, .int a2), (4, .int a3), (5, .int a4)]) hx hb d_M_gather_81 hl (k := 1) rfl ((nI_succ (j + 1)).symm) (by decide) rfl (fun ls hl => ?_)
          refine lv_goto (tgt := 6) hx hb d_M_gather_84 (by decide) ?_
          exact ih _ _ _ ⟨q9, ft9, by omega, hP, hD, hS, lv_sub hl [0, 2, 3, 4, 5, 6, 7, 8] rfl⟩
        · refine lv_aload_n hx hb d_M_gather_50 rfl (lv_at hl 3 rfl) ?_
          refine lv_aload hx hb d_M_gather_51 (lv_at hl 0 rfl) ?_
          refine lv_iload_n hx hb d_M_gather_53 rfl (lv_at hl 6 rfl) ?_
          refine vp_callSi (va_Run.run (va_runV (As := [.ref a_7, .int a2]) (rest := []) (C := R_M) ⟨hx, hb, hml, hown, hts⟩ (mc_M_isOfLand l s0 dC dI cI cR cL cZ r n nw pb lc fi a_7 ql_7 qk_7 v0_7 v1_7 v2_7 v4_7 v5_7 v6_7 v7_7 (nI t_7) k_7 a2) ⟨(mr_cB 2 (hts (Cond.code y_M_isOfLand b_M_isOfLand 3 (some .boolean)) mw_204) (hts (Cond.initialized y_M_isOfLand.cls) mw_205) (hts (Cond.methodLink "MeasureRows" 200 y_M_isOfLand) mw_206) rfl rfl (by decide +kernel) ⟨Nat.le_of_ble_eq_true rfl, Nat.le_of_ble_eq_true rfl⟩), (hts (Cond.instanceMethod y_M_isOfLand) mw_207), (hts (Cond.selects "MeasureRows" y_M_isOfLand y_M_isOfLand) mw_208)⟩ (mr_preV hBH hK ((hP.sub (ws' := [((r 0), .inr (0, mf_M r (nI n) nw pb lc)), ((r 1), .inr (1, [.ref (r 2), .ref (r 3)])), ((r 3), .inl (cI, 8, .inl fi))]) [0, 1, 3] rfl).app (hPr_7.sub (ws' := [(a_7, .inr (2, [.int v0_7, .int v1_7, .int v2_7, .int (nI k_7), .int v4_7, .int v5_7, .int v6_7, .int v7_7, .int (nI t_7), .ref ql_7, .ref qk_7]))]) [0] rfl)) (ci := 0) (q0 := 0) rfl rfl) rfl rfl hl.1 rfl (lv_room (Nat.le_of_ble_eq_true rfl)) d_M_gather_54 ⟨Nat.le_of_ble_eq_true rfl, Nat.le_of_ble_eq_true rfl⟩)) (fun r_8 h_9 => ?_)
          refine lv_if_eq (tgt := 81) hx hb d_M_gather_57 (by decide) (fun c_10 => ?_) (fun c_10 => ?_)
          · refine lv_iinc (v := nI ((j + 1) + 1)) (lv' := [(7, .int (nI ((j + 1) + 1))), (8, .ref a_7), (6, .int (nI q9)), (0, .ref (r 0)), (1, .ref (r 5)), (2, .int a1), (3, .int a2), (4, .int a3), (5, .int a4)]) hx hb d_M_gather_81 hl (k := 1) rfl ((nI_succ (j + 1)).symm) (by decide) rfl (fun ls hl => ?_)
            refine lv_goto (tgt := 6) hx hb d_M_gather_84 (by decide) ?_
            exact ih _ _ _ ⟨q9, ft9, by omega, hP, hD, hS, lv_sub hl [0, 2, 3, 4, 5, 6, 7, 8] rfl⟩
          · refine lv_aload hx hb d_M_gather_60 (lv_at hl 0 rfl) ?_
            refine lv_iload hx hb d_M_gather_62 (lv_at hl 7 rfl) ?_
            refine lv_iload hx hb d_M_gather_64 (lv_at hl 8 rfl) ?_
            refine vp_callSi (va_Run.run (va_runV (As := [.int a3, .int a4]) (rest := []) (C := R_R) ⟨hx, hb, hml, hown, hts⟩ (mc_R_lastsOn l s0 dC dI cI cR cL cZ a_7 ql_7 qk_7 v0_7 v1_7 v2_7 (nI k_7) v4_7 v5_7 v6_7 v7_7 t_7 ld_7 kd_7 a3 a4 ht_7) ⟨(mr_cB 2 (hts (Cond.code y_R_lastsOn b_R_lastsOn 3 (some .boolean)) mw_141) (hts (Cond.initialized y_R_lastsOn.cls) mw_142) (hts (Cond.methodLink "MeasureRows" 152 y_R_lastsOn) mw_143) rfl rfl (by decide +kernel) ⟨Nat.le_of_ble_eq_true rfl, Nat.le_of_ble_eq_true rfl⟩), (hts (Cond.instanceMethod y_R_lastsOn) mw_144), (hts (Cond.selects "MeasureRows$Row" y_R_lastsOn y_R_lastsOn) mw_145)⟩ (mr_preV hBH hK (hPr_7.sub (ws' := [(a_7, .inr (2, [.int v0_7, .int v1_7, .int v2_7, .int (nI k_7), .int v4_7, .int v5_7, .int v6_7, .int v7_7, .int (nI t_7), .ref ql_7, .ref qk_7])), (ql_7, .inl (cI, 8, .inl ld_7)), (qk_7, .inl (cI, 8, .inl kd_7))]) [0, 1, 2] rfl) (ci := 2) (q0 := 0) rfl rfl) rfl rfl hl.1 rfl (lv_room (Nat.le_of_ble_eq_true rfl)) d_M_gather_66 ⟨Nat.le_of_ble_eq_true rfl, Nat.le_of_ble_eq_true rfl⟩)) (fun r_11 h_12 => ?_)
            subst h_12
            refine lv_if_eq (tgt := 81) hx hb d_M_gather_69 (by decide) (fun c_13 => ?_) (fun c_13 => ?_)
            · refine lv_iinc (v := nI ((j + 1) + 1)) (lv' := [(7, .int (nI ((j + 1) + 1))), (8, .ref a_7), (6, .int (nI q9)), (0, .ref (r 0)), (1, .ref (r 5)), (2, .int a1), (3, .int a2), (4, .int a3), (5, .int a4)]) hx hb d_M_gather_81 hl (k := 1) rfl ((nI_succ (j + 1)).symm) (by decide) rfl (fun ls hl => ?_)
              refine lv_goto (tgt := 6) hx hb d_M_gather_84 (by decide) ?_
              exact ih _ _ _ ⟨q9, ft9, by omega, hP, hD, hS, lv_sub hl [0, 2, 3, 4, 5, 6, 7, 8] rfl⟩
            · refine lv_aload_n hx hb d_M_gather_72 rfl (lv_at hl 4 rfl) ?_
              refine lv_iload hx hb d_M_gather_73 (lv_at hl 2 rfl) ?_
              refine lv_iload hx hb d_M_gather_75 (lv_at hl 1 rfl) ?_
              refine va_iast (D := (dC, dI)) hx hb hK hP hD hS 5 0 rfl rfl (i := nI q9) (nI_in (by have := hR.1; omega) (by decide)) d_M_gather_77 (fun H locs hP hD hS => ?_)
              have hP : va_P (dC, dI) mr_cl (([((r 0), .inr (0, mf_M r (nI n) nw pb lc)), ((r 1), .inr (1, [.ref (r 2), .ref (r 3)])), ((r 2), .inl (cI, 8, .inl fm)), ((r 3), .inl (cI, 8, .inl fi)), ((r 4), .inl (cR, 80, .inr (.inr (.inr (.inr fr))))), ((r 5), .inl (cI, 80, .inl (upd ft9 (nI q9).toNatClampNeg (nI (j + 1))))), ((r 6), .inl (cI, 80, .inl fc)), ((r 7), .inl (cI, 8, .inl fg))] : va_W) ++ va_pl L f) H := hP
              have hD : va_D A (([((r 0), .inr (0, mf_M r (nI n) nw pb lc)), ((r 1), .inr (1, [.ref (r 2), .ref (r 3)])), ((r 2), .inl (cI, 8, .inl fm)), ((r 3), .inl (cI, 8, .inl fi)), ((r 4), .inl (cR, 80, .inr (.inr (.inr (.inr fr))))), ((r 5), .inl (cI, 80, .inl (upd ft9 (nI q9).toNatClampNeg (nI (j + 1))))), ((r 6), .inl (cI, 80, .inl fc)), ((r 7), .inl (cI, 8, .inl fg))] : va_W) ++ va_pl L f) := hD
              have hBH := hB.at hS hA0
              have hPr_7 := mr_row3 (X := [((r 0), .inr (0, mf_M r (nI n) nw pb lc)), ((r 1), .inr (1, [.ref (r 2), .ref (r 3)])), ((r 2), .inl (cI, 8, .inl fm)), ((r 3), .inl (cI, 8, .inl fi)), ((r 4), .inl (cR, 80, .inr (.inr (.inr (.inr fr))))), ((r 5), .inl (cI, 80, .inl (upd ft9 (nI q9).toNatClampNeg (nI (j + 1))))), ((r 6), .inl (cI, 80, .inl fc)), ((r 7), .inl (cI, 8, .inl fg))]) hP m1_7 m2_7 m3_7 e1_7 e2_7 e3_7
              refine lv_iinc (v := nI (q9 + 1)) (lv' := [(6, .int (nI (q9 + 1))), (8, .ref a_7), (7, .int (nI (j + 1))), (0, .ref (r 0)), (1, .ref (r 5)), (2, .int a1), (3, .int a2), (4, .int a3), (5, .int a4)]) hx hb d_M_gather_78 hl (k := 2) rfl ((nI_succ q9).symm) (by decide) rfl (fun ls hl => ?_)
              refine lv_iinc (v := nI ((j + 1) + 1)) (lv' := [(7, .int (nI ((j + 1) + 1))), (6, .int (nI (q9 + 1))), (8, .ref a_7), (0, .ref (r 0)), (1, .ref (r 5)), (2, .int a1), (3, .int a2), (4, .int a3), (5, .int a4)]) hx hb d_M_gather_81 hl (k := 2) rfl ((nI_succ (j + 1)).symm) (by decide) rfl (fun ls hl => ?_)
              refine lv_goto (tgt := 6) hx hb d_M_gather_84 (by decide) ?_
              exact ih _ _ _ ⟨(q9 + 1), (upd ft9 (nI q9).toNatClampNeg (nI (j + 1))), by omega, hP, hD, hS, lv_sub hl [0, 1, 3, 4, 5, 6, 7, 8] rfl⟩
  · obtain ⟨q9, ft9, hexj, hP, hD, hS, hl⟩ := hI9
    have hBH := hB.at hS hA0
    refine lv_iload hx hb d_M_gather_6 (lv_at hl 0 rfl) ?_
    refine lv_aload_n hx hb d_M_gather_8 rfl (lv_at hl 2 rfl) ?_
    refine va_get (D := (dC, dI)) (ci := 0) (v := .int (nI n)) (C := R_M) (T := T_M) (N := 9) hx hb hts ti_M hown hK hP 0 rfl rfl 2 (by decide) (hts (Cond.fieldLink "MeasureRows" 22 "MeasureRows" "rowCount" "I") mw_57) (fun _ h9 => h9) rfl d_M_gather_9 ?_
    refine lv_icmp_gt (tgt := 87) hx hb d_M_gather_12 (by decide) (fun _ => ?_) (fun c_14 => absurd (nI_lt (by omega) (by have := hR.1; omega)) c_14)
    refine lv_iload hx hb d_M_gather_87 (lv_at hl 1 rfl) ?_
    have hP9 := hP
    have hD9 := hD
    exact W.iret (v := nI q9) hx hb hr (fun t ht hW => ⟨⟨_, (q9, ft9), rfl, ⟨rfl, hexj⟩, by rw [ht]; exact hP9, va_K.moved hW.alike hK, hD9⟩, hS.F ht⟩) hS.2.2 d_M_gather_89
set_option maxHeartbeats 4000000 in
set_option maxRecDepth 100000 in
theorem mc_M_gather6 (l : Launch) (s0 : State) (dC : Nat → ClassId) (dI : Nat → Nat → Nat) (cI cR cL cZ : ClassId) (r : Nat → Nat) (n : Nat) (nw pb lc : Int32) (fm fi : Nat → Int32) (fr : Nat → Option Nat) (fl fc fg : Nat → Int32) (L : List Nat) (f : Nat → va_E) (sz : Nat) (a1 : Int32) (a2 : Int32) (a3 : Int32) (a4 : Int32) (hR : mr_RI cI n L f fr) : Met l y_M_gather [Cond.code y_M_gather b_M_gather 9 (some .int)] ({ frames := 4, cells := 0, slots := 0, locals := 85 }) (mr_PC s0 (dC, dI) [(cI, .int), (cR, .object "MeasureRows$Row"), (cL, .long), (cZ, .boolean)] [.ref (r 0), .ref (r 6), .int a1, .int a2, .int a3, .int a4] (([((r 0), .inr (0, mf_M r (nI n) nw pb lc)), ((r 1), .inr (1, [.ref (r 2), .ref (r 3)])), ((r 2), .inl (cI, 8, .inl fm)), ((r 3), .inl (cI, 8, .inl fi)), ((r 4), .inl (cR, 80, .inr (.inr (.inr (.inr fr))))), ((r 5), .inl (cI, 80, .inl fl)), ((r 6), .inl (cI, 80, .inl fc)), ((r 7), .inl (cI, 8, .inl fg))] : va_W) ++ va_pl L f) sz) (va_Qi (fun rr u => rr = nI u.1 ∧ u.1 ≤ n) (fun (u : Nat × (Nat → Int32)) t => mr_W (dC, dI) [(cI, .int), (cR, .object "MeasureRows$Row"), (cL, .long), (cZ, .boolean)] (va_A (([((r 0), .inr (0, mf_M r (nI n) nw pb lc)), ((r 1), .inr (1, [.ref (r 2), .ref (r 3)])), ((r 2), .inl (cI, 8, .inl fm)), ((r 3), .inl (cI, 8, .inl fi)), ((r 4), .inl (cR, 80, .inr (.inr (.inr (.inr fr))))), ((r 5), .inl (cI, 80, .inl fl)), ((r 6), .inl (cI, 80, .inl fc)), ((r 7), .inl (cI, 8, .inl fg))] : va_W) ++ va_pl L f) sz) (([((r 0), .inr (0, mf_M r (nI n) nw pb lc)), ((r 1), .inr (1, [.ref (r 2), .ref (r 3)])), ((r 2), .inl (cI, 8, .inl fm)), ((r 3), .inl (cI, 8, .inl fi)), ((r 4), .inl (cR, 80, .inr (.inr (.inr (.inr fr))))), ((r 5), .inl (cI, 80, .inl fl)), ((r 6), .inl (cI, 80, .inl u.2)), ((r 7), .inl (cI, 8, .inl fg))] : va_W) ++ va_pl L f) t) (va_A (([((r 0), .inr (0, mf_M r (nI n) nw pb lc)), ((r 1), .inr (1, [.ref (r 2), .ref (r 3)])), ((r 2), .inl (cI, 8, .inl fm)), ((r 3), .inl (cI, 8, .inl fi)), ((r 4), .inl (cR, 80, .inr (.inr (.inr (.inr fr))))), ((r 5), .inl (cI, 80, .inl fl)), ((r 6), .inl (cI, 80, .inl fc)), ((r 7), .inl (cI, 8, .inl fg))] : va_W) ++ va_pl L f) sz)) 0 0 (va_A (([((r 0), .inr (0, mf_M r (nI n) nw pb lc)), ((r 1), .inr (1, [.ref (r 2), .ref (r 3)])), ((r 2), .inl (cI, 8, .inl fm)), ((r 3), .inl (cI, 8, .inl fi)), ((r 4), .inl (cR, 80, .inr (.inr (.inr (.inr fr))))), ((r 5), .inl (cI, 80, .inl fl)), ((r 6), .inl (cI, 80, .inl fc)), ((r 7), .inl (cI, 8, .inl fg))] : va_W) ++ va_pl L f) sz) := by
  refine Met.ofW (cc := b_M_gather) (maxL := 9) (ret := (some .int)) (by decide) rfl ?_
  intro p e s m args below meth c s₁ B hml hv
  obtain ⟨rfl, hsz, hB, hK, hP, hD0⟩ := hv
  subst hsz
  have hA0 := mr_A hB hD0
  have hD := hD0.self (sz := s.heap.size)
  generalize hAe : va_A (([((r 0), .inr (0, mf_M r (nI n) nw pb lc)), ((r 1), .inr (1, [.ref (r 2), .ref (r 3)])), ((r 2), .inl (cI, 8, .inl fm)), ((r 3), .inl (cI, 8, .inl fi)), ((r 4), .inl (cR, 80, .inr (.inr (.inr (.inr fr))))), ((r 5), .inl (cI, 80, .inl fl)), ((r 6), .inl (cI, 80, .inl fc)), ((r 7), .inl (cI, 8, .inl fg))] : va_W) ++ va_pl L f) s.heap.size = A at hD hA0 ⊢
  have hA : ∀ q : Nat, s.heap.size ≤ q → A q := fun q h => by rw [← hAe]; exact Or.inr h
  have hS : va_S A s.heap s.heap [] := va_S.rf
  have hP : va_P (dC, dI) mr_cl (([((r 0), .inr (0, mf_M r (nI n) nw pb lc)), ((r 1), .inr (1, [.ref (r 2), .ref (r 3)])), ((r 2), .inl (cI, 8, .inl fm)), ((r 3), .inl (cI, 8, .inl fi)), ((r 4), .inl (cR, 80, .inr (.inr (.inr (.inr fr))))), ((r 5), .inl (cI, 80, .inl fl)), ((r 6), .inl (cI, 80, .inl fc)), ((r 7), .inl (cI, 8, .inl fg))] : va_W) ++ va_pl L f) s.heap := hP
  have hBH := hB.at hS hA0
  have hx := B.exec
  have hb := B.bytes
  have hr := B.returns
  have hlocks := B.notSynchronized
  have hts : ∀ w ∈ lw_tbl, w.before [.ref (r 0), .ref (r 6), .int a1, .int a2, .int a3, .int a4].toArray s = true := hB.hts _
  have hown : s.vm.findClass "MeasureRows" = some m.cls := findClass_of_methodNamed B.named
  have hl := lv_entry ([.ref (r 0), .ref (r 6), .int a1, .int a2, .int a3, .int a4]) (n := 9) (Nat.le_of_ble_eq_true rfl)
  rw [lg_entry_eq]
  generalize (lg_sl ([.ref (r 0), .ref (r 6), .int a1, .int a2, .int a3, .int a4]) ++ List.replicate (9 - (lg_sl ([.ref (r 0), .ref (r 6), .int a1, .int a2, .int a3, .int a4])).length) Slot.unset).toArray = ls at hl ⊢
  have hl : lv_has ls 9 [(0, .ref (r 0)), (1, .ref (r 6)), (2, .int a1), (3, .int a2), (4, .int a3), (5, .int a4)] := hl
  refine lv_iconst (v := 0) hx hb d_M_gather_0 (by decide) ?_
  refine lv_istore (lv' := [(6, .int 0), (0, .ref (r 0)), (1, .ref (r 6)), (2, .int a1), (3, .int a2), (4, .int a3), (5, .int a4)]) hx hb d_M_gather_1 hl (by decide) rfl (fun ls hl => ?_)
  refine lv_iconst (v := 1) hx hb d_M_gather_3 (by decide) ?_
  refine lv_istore (lv' := [(7, .int 1), (6, .int 0), (0, .ref (r 0)), (1, .ref (r 6)), (2, .int a1), (3, .int a2), (4, .int a3), (5, .int a4)]) hx hb d_M_gather_4 hl (by decide) rfl (fun ls hl => ?_)
  refine mr_loop (N := n) (I := fun j H locs ls => ∃ q9 : Nat, ∃ ft9 : Nat → Int32, q9 ≤ j ∧ va_P (dC, dI) mr_cl (([((r 0), .inr (0, mf_M r (nI n) nw pb lc)), ((r 1), .inr (1, [.ref (r 2), .ref (r 3)])), ((r 2), .inl (cI, 8, .inl fm)), ((r 3), .inl (cI, 8, .inl fi)), ((r 4), .inl (cR, 80, .inr (.inr (.inr (.inr fr))))), ((r 5), .inl (cI, 80, .inl fl)), ((r 6), .inl (cI, 80, .inl ft9)), ((r 7), .inl (cI, 8, .inl fg))] : va_W) ++ va_pl L f) H ∧ va_D A (([((r 0), .inr (0, mf_M r (nI n) nw pb lc)), ((r 1), .inr (1, [.ref (r 2), .ref (r 3)])), ((r 2), .inl (cI, 8, .inl fm)), ((r 3), .inl (cI, 8, .inl fi)), ((r 4), .inl (cR, 80, .inr (.inr (.inr (.inr fr))))), ((r 5), .inl (cI, 80, .inl fl)), ((r 6), .inl (cI, 80, .inl ft9)), ((r 7), .inl (cI, 8, .inl fg))] : va_W) ++ va_pl L f) ∧ va_S A s.heap H locs ∧ lv_has ls 9 [(7, .int (nI (j + 1))), (6, .int (nI q9)), (0, .ref (r 0)), (1, .ref (r 6)), (2, .int a1), (3, .int a2), (4, .int a3), (5, .int a4)]) (fun j H locs ls hj hI9 ih => ?_) (fun H locs ls hI9 => ?_) 0 _ _ _ (Nat.zero_le _) ⟨0, fc, Nat.le_refl 0, hP, hD, hS, (lv_sub hl [0, 1, 2, 3, 4, 5, 6, 7] rfl)⟩
  · obtain ⟨q9, ft9, hexj, hP, hD, hS, hl⟩ := hI9
    have hBH := hB.at hS hA0
    refine lv_iload hx hb d_M_gather_6 (lv_at hl 0 rfl) ?_
    refine lv_aload_n hx hb d_M_gather_8 rfl (lv_at hl 2 rfl) ?_
    refine va_get (D := (dC, dI)) (ci := 0) (v := .int (nI n)) (C := R_M) (T := T_M) (N := 9) hx hb hts ti_M hown hK hP 0 rfl rfl 2 (by decide) (hts (Cond.fieldLink "MeasureRows" 22 "MeasureRows" "rowCount" "I") mw_57) (fun _ h9 => h9) rfl d_M_gather_9 ?_
    refine lv_icmp_gt (tgt := 87) hx hb d_M_gather_12 (by decide) (fun c_1 => absurd c_1 (nI_nlt (by omega) (by have := hR.1; omega))) (fun _ => ?_)
    refine lv_aload_n hx hb d_M_gather_15 rfl (lv_at hl 2 rfl) ?_
    refine lv_iload hx hb d_M_gather_16 (lv_at hl 0 rfl) ?_
    refine va_csq (va_Run.run (va_runV (As := [.int (nI (j + 1))]) (rest := []) (C := R_M) ⟨hx, hb, hml, hown, hts⟩ (mc_M_find l s0 dC dI cI cR cL cZ r n nw pb lc fr (nI (j + 1)) hR.1) ⟨(mr_cB 1 (hts (Cond.code y_M_find b_M_find 2 (some (.object "MeasureRows$Row"))) mw_117) (hts (Cond.initialized y_M_find.cls) mw_118) (hts (Cond.methodLink "MeasureRows" 111 y_M_find) mw_119) rfl rfl (by decide +kernel) ⟨Nat.le_of_ble_eq_true rfl, Nat.le_of_ble_eq_true rfl⟩), (hts (Cond.instanceMethod y_M_find) mw_120), (hts (Cond.selects "MeasureRows" y_M_find y_M_find) mw_121)⟩ (mr_preV hBH hK (hP.sub (ws' := [((r 0), .inr (0, mf_M r (nI n) nw pb lc)), ((r 4), .inl (cR, 80, .inr (.inr (.inr (.inr fr)))))]) [0, 4] rfl) (ci := 0) (q0 := 0) rfl rfl) rfl rfl hl.1 rfl (lv_room (Nat.le_of_ble_eq_true rfl)) d_M_gather_18 ⟨Nat.le_of_ble_eq_true rfl, Nat.le_of_ble_eq_true rfl⟩)) (fun r_2 h_3 => ?_)
    subst h_3
    rcases mr_fc hR (nI (j + 1)) with hf_8 | ⟨i_8, hi_8, hxe_8, a_8, ql_8, qk_8, v0_8, v1_8, v2_8, v4_8, v5_8, v6_8, v7_8, k_8, t_8, ld_8, kd_8, hf_8, hfi_8, m1_8, m2_8, m3_8, e1_8, e2_8, e3_8, hk_8, ht_8, ho_8, hne_8⟩
    · refine mr_topv (show va_rf (mv_M_find n fr (nI (j + 1))) = .null by rw [hf_8]; rfl) ?_
      refine lv_astoreN (lv' := [(8, .null), (7, .int (nI (j + 1))), (6, .int (nI q9)), (0, .ref (r 0)), (1, .ref (r 6)), (2, .int a1), (3, .int a2), (4, .int a3), (5, .int a4)]) hx hb d_M_gather_21 hl (by decide) rfl (fun ls hl => ?_)
      refine lv_aloadN hx hb d_M_gather_23 (lv_at hl 0 rfl) ?_
      refine lv_ifnullN (tgt := 81) hx hb d_M_gather_25 (by decide) ?_
      refine lv_iinc (v := nI ((j + 1) + 1)) (lv' := [(7, .int (nI ((j + 1) + 1))), (8, .null), (6, .int (nI q9)), (0, .ref (r 0)), (1, .ref (r 6)), (2, .int a1), (3, .int a2), (4, .int a3), (5, .int a4)]) hx hb d_M_gather_81 hl (k := 1) rfl ((nI_succ (j + 1)).symm) (by decide) rfl (fun ls hl => ?_)
      refine lv_goto (tgt := 6) hx hb d_M_gather_84 (by decide) ?_
      exact ih _ _ _ ⟨q9, ft9, by omega, hP, hD, hS, lv_sub hl [0, 2, 3, 4, 5, 6, 7, 8] rfl⟩
    · refine mr_topv (show va_rf (mv_M_find n fr (nI (j + 1))) = .ref a_8 by rw [hf_8]; rfl) ?_
      have hPr_8 := mr_row3 (X := [((r 0), .inr (0, mf_M r (nI n) nw pb lc)), ((r 1), .inr (1, [.ref (r 2), .ref (r 3)])), ((r 2), .inl (cI, 8, .inl fm)), ((r 3), .inl (cI, 8, .inl fi)), ((r 4), .inl (cR, 80, .inr (.inr (.inr (.inr fr))))), ((r 5), .inl (cI, 80, .inl fl)), ((r 6), .inl (cI, 80, .inl ft9)), ((r 7), .inl (cI, 8, .inl fg))]) hP m1_8 m2_8 m3_8 e1_8 e2_8 e3_8
      refine lv_astore (lv' := [(8, .ref a_8), (7, .int (nI (j + 1))), (6, .int (nI q9)), (0, .ref (r 0)), (1, .ref (r 6)), (2, .int a1), (3, .int a2), (4, .int a3), (5, .int a4)]) hx hb d_M_gather_21 hl (by decide) rfl (fun ls hl => ?_)
      refine lv_aload hx hb d_M_gather_23 (lv_at hl 0 rfl) ?_
      refine lv_ifnull hx hb d_M_gather_25 ?_
      refine lv_aload hx hb d_M_gather_28 (lv_at hl 0 rfl) ?_
      refine va_get (D := (dC, dI)) (ci := 2) (v := .int v5_8) (C := R_R) (T := T_R) (N := 11) hx hb hts ti_R hown hK hPr_8 0 rfl rfl 5 (by decide) (hts (Cond.fieldLink "MeasureRows" 170 "MeasureRows$Row" "known" "I") mw_153) (fun _ h9 => h9) rfl d_M_gather_30 ?_
      refine lv_iload hx hb d_M_gather_33 (lv_at hl 8 rfl) ?_
      refine lv_icmp_gt (tgt := 81) hx hb d_M_gather_35 (by decide) (fun c_4 => ?_) (fun c_4 => ?_)
      · refine lv_iinc (v := nI ((j + 1) + 1)) (lv' := [(7, .int (nI ((j + 1) + 1))), (8, .ref a_8), (6, .int (nI q9)), (0, .ref (r 0)), (1, .ref (r 6)), (2, .int a1), (3, .int a2), (4, .int a3), (5, .int a4)]) hx hb d_M_gather_81 hl (k := 1) rfl ((nI_succ (j + 1)).symm) (by decide) rfl (fun ls hl => ?_)
        refine lv_goto (tgt := 6) hx hb d_M_gather_84 (by decide) ?_
        exact ih _ _ _ ⟨q9, ft9, by omega, hP, hD, hS, lv_sub hl [0, 2, 3, 4, 5, 6, 7, 8] rfl⟩
      · refine lv_iload_n hx hb d_M_gather_38 rfl (lv_at hl 5 rfl) ?_
        refine lv_aload hx hb d_M_gather_39 (lv_at hl 0 rfl) ?_
        refine va_get (D := (dC, dI)) (ci := 2) (v := .int v0_8) (C := R_R) (T := T_R) (N := 11) hx hb hts ti_R hown hK hPr_8 0 rfl rfl 0 (by decide) (hts (Cond.fieldLink "MeasureRows" 155 "MeasureRows$Row" "code" "I") mw_147) (fun _ h9 => h9) rfl d_M_gather_41 ?_
        refine vp_callSi (va_Run.run (va_runS (As := [.int a1, .int v0_8]) (rest := []) ⟨hx, hb, hml, hown, hts⟩ (mc_M_isUnder l s0 a1 v0_8) ⟨(mr_cB 2 (hts (Cond.code y_M_isUnder b_M_isUnder 2 (some .boolean)) mw_200) (hts (Cond.initialized y_M_isUnder.cls) mw_201) (hts (Cond.methodLink "MeasureRows" 197 y_M_isUnder) mw_202) rfl rfl (by decide +kernel) ⟨Nat.le_of_ble_eq_true rfl, Nat.le_of_ble_eq_true rfl⟩), (hts (Cond.static y_M_isUnder) mw_203)⟩ (mr_pre0 hBH) rfl rfl hl.1 rfl (lv_room (Nat.le_of_ble_eq_true rfl)) d_M_gather_44 ⟨Nat.le_of_ble_eq_true rfl, Nat.le_of_ble_eq_true rfl⟩)) (fun r_5 h_6 => ?_)
        subst h_6
        refine lv_if_eq (tgt := 81) hx hb d_M_gather_47 (by decide) (fun c_7 => ?_) (fun c_7 => ?_)
        · refine lv_iinc (v := nI ((j + 1) + 1)) (lv' := [(7, .int (nI ((j + 1) + 1))), (8, .ref a_8), (6, .int (nI q9)), (0, .ref (r 0)), (1, .ref (r 6)), (2, .int a1), (3, .int a2), (4, .int a3), (5, .int a4)]) hx hb d_M_gather_81 hl (k := 1) rfl ((nI_succ (j + 1)).symm) (by decide) rfl (fun ls hl => ?_)
          refine lv_goto (tgt := 6) hx hb d_M_gather_84 (by decide) ?_
          exact ih _ _ _ ⟨q9, ft9, by omega, hP, hD, hS, lv_sub hl [0, 2, 3, 4, 5, 6, 7, 8] rfl⟩
        · refine lv_aload_n hx hb d_M_gather_50 rfl (lv_at hl 3 rfl) ?_
          refine lv_aload hx hb d_M_gather_51 (lv_at hl 0 rfl) ?_
          refine lv_iload_n hx hb d_M_gather_53 rfl (lv_at hl 6 rfl) ?_
          refine vp_callSi (va_Run.run (va_runV (As := [.ref a_8, .int a2]) (rest := []) (C := R_M) ⟨hx, hb, hml, hown, hts⟩ (mc_M_isOfLand l s0 dC dI cI cR cL cZ r n nw pb lc fi a_8 ql_8 qk_8 v0_8 v1_8 v2_8 v4_8 v5_8 v6_8 v7_8 (nI t_8) k_8 a2) ⟨(mr_cB 2 (hts (Cond.code y_M_isOfLand b_M_isOfLand 3 (some .boolean)) mw_204) (hts (Cond.initialized y_M_isOfLand.cls) mw_205) (hts (Cond.methodLink "MeasureRows" 200 y_M_isOfLand) mw_206) rfl rfl (by decide +kernel) ⟨Nat.le_of_ble_eq_true rfl, Nat.le_of_ble_eq_true rfl⟩), (hts (Cond.instanceMethod y_M_isOfLand) mw_207), (hts (Cond.selects "MeasureRows" y_M_isOfLand y_M_isOfLand) mw_208)⟩ (mr_preV hBH hK ((hP.sub (ws' := [((r 0), .inr (0, mf_M r (nI n) nw pb lc)), ((r 1), .inr (1, [.ref (r 2), .ref (r 3)])), ((r 3), .inl (cI, 8, .inl fi))]) [0, 1, 3] rfl).app (hPr_8.sub (ws' := [(a_8, .inr (2, [.int v0_8, .int v1_8, .int v2_8, .int (nI k_8), .int v4_8, .int v5_8, .int v6_8, .int v7_8, .int (nI t_8), .ref ql_8, .ref qk_8]))]) [0] rfl)) (ci := 0) (q0 := 0) rfl rfl) rfl rfl hl.1 rfl (lv_room (Nat.le_of_ble_eq_true rfl)) d_M_gather_54 ⟨Nat.le_of_ble_eq_true rfl, Nat.le_of_ble_eq_true rfl⟩)) (fun r_8 h_9 => ?_)
          refine lv_if_eq (tgt := 81) hx hb d_M_gather_57 (by decide) (fun c_10 => ?_) (fun c_10 => ?_)
          · refine lv_iinc (v := nI ((j + 1) + 1)) (lv' := [(7, .int (nI ((j + 1) + 1))), (8, .ref a_8), (6, .int (nI q9)), (0, .ref (r 0)), (1, .ref (r 6)), (2, .int a1), (3, .int a2), (4, .int a3), (5, .int a4)]) hx hb d_M_gather_81 hl (k := 1) rfl ((nI_succ (j + 1)).symm) (by decide) rfl (fun ls hl => ?_)
            refine lv_goto (tgt := 6) hx hb d_M_gather_84 (by decide) ?_
            exact ih _ _ _ ⟨q9, ft9, by omega, hP, hD, hS, lv_sub hl [0, 2, 3, 4, 5, 6, 7, 8] rfl⟩
          · refine lv_aload hx hb d_M_gather_60 (lv_at hl 0 rfl) ?_
            refine lv_iload hx hb d_M_gather_62 (lv_at hl 7 rfl) ?_
            refine lv_iload hx hb d_M_gather_64 (lv_at hl 8 rfl) ?_
            refine vp_callSi (va_Run.run (va_runV (As := [.int a3, .int a4]) (rest := []) (C := R_R) ⟨hx, hb, hml, hown, hts⟩ (mc_R_lastsOn l s0 dC dI cI cR cL cZ a_8 ql_8 qk_8 v0_8 v1_8 v2_8 (nI k_8) v4_8 v5_8 v6_8 v7_8 t_8 ld_8 kd_8 a3 a4 ht_8) ⟨(mr_cB 2 (hts (Cond.code y_R_lastsOn b_R_lastsOn 3 (some .boolean)) mw_141) (hts (Cond.initialized y_R_lastsOn.cls) mw_142) (hts (Cond.methodLink "MeasureRows" 152 y_R_lastsOn) mw_143) rfl rfl (by decide +kernel) ⟨Nat.le_of_ble_eq_true rfl, Nat.le_of_ble_eq_true rfl⟩), (hts (Cond.instanceMethod y_R_lastsOn) mw_144), (hts (Cond.selects "MeasureRows$Row" y_R_lastsOn y_R_lastsOn) mw_145)⟩ (mr_preV hBH hK (hPr_8.sub (ws' := [(a_8, .inr (2, [.int v0_8, .int v1_8, .int v2_8, .int (nI k_8), .int v4_8, .int v5_8, .int v6_8, .int v7_8, .int (nI t_8), .ref ql_8, .ref qk_8])), (ql_8, .inl (cI, 8, .inl ld_8)), (qk_8, .inl (cI, 8, .inl kd_8))]) [0, 1, 2] rfl) (ci := 2) (q0 := 0) rfl rfl) rfl rfl hl.1 rfl (lv_room (Nat.le_of_ble_eq_true rfl)) d_M_gather_66 ⟨Nat.le_of_ble_eq_true rfl, Nat.le_of_ble_eq_true rfl⟩)) (fun r_11 h_12 => ?_)
            subst h_12
            refine lv_if_eq (tgt := 81) hx hb d_M_gather_69 (by decide) (fun c_13 => ?_) (fun c_13 => ?_)
            · refine lv_iinc (v := nI ((j + 1) + 1)) (lv' := [(7, .int (nI ((j + 1) + 1))), (8, .ref a_8), (6, .int (nI q9)), (0, .ref (r 0)), (1, .ref (r 6)), (2, .int a1), (3, .int a2), (4, .int a3), (5, .int a4)]) hx hb d_M_gather_81 hl (k := 1) rfl ((nI_succ (j + 1)).symm) (by decide) rfl (fun ls hl => ?_)
              refine lv_goto (tgt := 6) hx hb d_M_gather_84 (by decide) ?_
              exact ih _ _ _ ⟨q9, ft9, by omega, hP, hD, hS, lv_sub hl [0, 2, 3, 4, 5, 6, 7, 8] rfl⟩
            · refine lv_aload_n hx hb d_M_gather_72 rfl (lv_at hl 4 rfl) ?_
              refine lv_iload hx hb d_M_gather_73 (lv_at hl 2 rfl) ?_
              refine lv_iload hx hb d_M_gather_75 (lv_at hl 1 rfl) ?_
              refine va_iast (D := (dC, dI)) hx hb hK hP hD hS 6 0 rfl rfl (i := nI q9) (nI_in (by have := hR.1; omega) (by decide)) d_M_gather_77 (fun H locs hP hD hS => ?_)
              have hP : va_P (dC, dI) mr_cl (([((r 0), .inr (0, mf_M r (nI n) nw pb lc)), ((r 1), .inr (1, [.ref (r 2), .ref (r 3)])), ((r 2), .inl (cI, 8, .inl fm)), ((r 3), .inl (cI, 8, .inl fi)), ((r 4), .inl (cR, 80, .inr (.inr (.inr (.inr fr))))), ((r 5), .inl (cI, 80, .inl fl)), ((r 6), .inl (cI, 80, .inl (upd ft9 (nI q9).toNatClampNeg (nI (j + 1))))), ((r 7), .inl (cI, 8, .inl fg))] : va_W) ++ va_pl L f) H := hP
              have hD : va_D A (([((r 0), .inr (0, mf_M r (nI n) nw pb lc)), ((r 1), .inr (1, [.ref (r 2), .ref (r 3)])), ((r 2), .inl (cI, 8, .inl fm)), ((r 3), .inl (cI, 8, .inl fi)), ((r 4), .inl (cR, 80, .inr (.inr (.inr (.inr fr))))), ((r 5), .inl (cI, 80, .inl fl)), ((r 6), .inl (cI, 80, .inl (upd ft9 (nI q9).toNatClampNeg (nI (j + 1))))), ((r 7), .inl (cI, 8, .inl fg))] : va_W) ++ va_pl L f) := hD
              have hBH := hB.at hS hA0
              have hPr_8 := mr_row3 (X := [((r 0), .inr (0, mf_M r (nI n) nw pb lc)), ((r 1), .inr (1, [.ref (r 2), .ref (r 3)])), ((r 2), .inl (cI, 8, .inl fm)), ((r 3), .inl (cI, 8, .inl fi)), ((r 4), .inl (cR, 80, .inr (.inr (.inr (.inr fr))))), ((r 5), .inl (cI, 80, .inl fl)), ((r 6), .inl (cI, 80, .inl (upd ft9 (nI q9).toNatClampNeg (nI (j + 1))))), ((r 7), .inl (cI, 8, .inl fg))]) hP m1_8 m2_8 m3_8 e1_8 e2_8 e3_8
              refine lv_iinc (v := nI (q9 + 1)) (lv' := [(6, .int (nI (q9 + 1))), (8, .ref a_8), (7, .int (nI (j + 1))), (0, .ref (r 0)), (1, .ref (r 6)), (2, .int a1), (3, .int a2), (4, .int a3), (5, .int a4)]) hx hb d_M_gather_78 hl (k := 2) rfl ((nI_succ q9).symm) (by decide) rfl (fun ls hl => ?_)
              refine lv_iinc (v := nI ((j + 1) + 1)) (lv' := [(7, .int (nI ((j + 1) + 1))), (6, .int (nI (q9 + 1))), (8, .ref a_8), (0, .ref (r 0)), (1, .ref (r 6)), (2, .int a1), (3, .int a2), (4, .int a3), (5, .int a4)]) hx hb d_M_gather_81 hl (k := 2) rfl ((nI_succ (j + 1)).symm) (by decide) rfl (fun ls hl => ?_)
              refine lv_goto (tgt := 6) hx hb d_M_gather_84 (by decide) ?_
              exact ih _ _ _ ⟨(q9 + 1), (upd ft9 (nI q9).toNatClampNeg (nI (j + 1))), by omega, hP, hD, hS, lv_sub hl [0, 1, 3, 4, 5, 6, 7, 8] rfl⟩
  · obtain ⟨q9, ft9, hexj, hP, hD, hS, hl⟩ := hI9
    have hBH := hB.at hS hA0
    refine lv_iload hx hb d_M_gather_6 (lv_at hl 0 rfl) ?_
    refine lv_aload_n hx hb d_M_gather_8 rfl (lv_at hl 2 rfl) ?_
    refine va_get (D := (dC, dI)) (ci := 0) (v := .int (nI n)) (C := R_M) (T := T_M) (N := 9) hx hb hts ti_M hown hK hP 0 rfl rfl 2 (by decide) (hts (Cond.fieldLink "MeasureRows" 22 "MeasureRows" "rowCount" "I") mw_57) (fun _ h9 => h9) rfl d_M_gather_9 ?_
    refine lv_icmp_gt (tgt := 87) hx hb d_M_gather_12 (by decide) (fun _ => ?_) (fun c_14 => absurd (nI_lt (by omega) (by have := hR.1; omega)) c_14)
    refine lv_iload hx hb d_M_gather_87 (lv_at hl 1 rfl) ?_
    have hP9 := hP
    have hD9 := hD
    exact W.iret (v := nI q9) hx hb hr (fun t ht hW => ⟨⟨_, (q9, ft9), rfl, ⟨rfl, hexj⟩, by rw [ht]; exact hP9, va_K.moved hW.alike hK, hD9⟩, hS.F ht⟩) hS.2.2 d_M_gather_89
