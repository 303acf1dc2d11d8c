theorem mr_Afree {A : Nat → Prop} {ws : va_W} {H0 H : Heap} {locs : List Loc} (hD : va_D A ws) (hS : va_S A H0 H locs) (hA : ∀ q, H0.size ≤ q → A q) : ∀ q, va_A ws H.size q → A q := fun q h => by
  rcases h with ⟨k, e, hk⟩ | h
  · exact hD.2 k _ hk
  · exact hA q (Nat.le_trans hS.1 h)
theorem mw_209 : Cond.code y_R_isContentWith b_R_isContentWith 2 (some .boolean) ∈ lw_tbl := by decide +kernel
theorem mw_210 : Cond.initialized y_R_isContentWith.cls ∈ lw_tbl := by decide +kernel
theorem mw_211 : Cond.methodLink "MeasureRows" 207 y_R_isContentWith ∈ lw_tbl := by decide +kernel
theorem mw_212 : Cond.instanceMethod y_R_isContentWith ∈ lw_tbl := by decide +kernel
theorem mw_213 : Cond.selects "MeasureRows$Row" y_R_isContentWith y_R_isContentWith ∈ lw_tbl := by decide +kernel
set_option maxHeartbeats 4000000 in
set_option maxRecDepth 100000 in
theorem mc_M_keepWithPapers (l : Launch) (s0 : State) (dC : Nat → ClassId) (dI : Nat → Nat → Nat) (cI cR cL cZ : ClassId) (r : Nat → Nat) (n : Nat) (nw pb lc : Int32) (fm fi : Nat → Int32) (fr : Nat → Option Nat) (fl fc fg : Nat → Int32) (L : List Nat) (f : Nat → va_E) (cc : Nat) (sz : Nat)  (hc : cc ≤ 80) (hR : mr_RI cI n L f fr) : Met l y_M_keepWithPapers [Cond.code y_M_keepWithPapers b_M_keepWithPapers 5 (some .int)] ({ frames := 1, cells := 0, slots := 0, locals := 21 }) (mr_PC s0 (dC, dI) [(cI, .int), (cR, .object "MeasureRows$Row"), (cL, .long), (cZ, .boolean)] [.ref (r 0), .int (nI cc)] (([((r 0), .inr (0, mf_M r (nI n) nw pb lc)), ((r 1), .inr (1, [.ref (r 2), .ref (r 3)])), ((r 2), .inl (cI, 8, .inl fm)), ((r 3), .inl (cI, 8, .inl fi)), ((r 4), .inl (cR, 80, .inr (.inr (.inr (.inr fr))))), ((r 5), .inl (cI, 80, .inl fl)), ((r 6), .inl (cI, 80, .inl fc)), ((r 7), .inl (cI, 8, .inl fg))] : va_W) ++ va_pl L f) sz) (va_Qi (fun rr u => rr = nI u.1 ∧ u.1 ≤ cc) (fun (u : Nat × (Nat → Int32)) t => mr_W (dC, dI) [(cI, .int), (cR, .object "MeasureRows$Row"), (cL, .long), (cZ, .boolean)] (va_A (([((r 0), .inr (0, mf_M r (nI n) nw pb lc)), ((r 1), .inr (1, [.ref (r 2), .ref (r 3)])), ((r 2), .inl (cI, 8, .inl fm)), ((r 3), .inl (cI, 8, .inl fi)), ((r 4), .inl (cR, 80, .inr (.inr (.inr (.inr fr))))), ((r 5), .inl (cI, 80, .inl fl)), ((r 6), .inl (cI, 80, .inl fc)), ((r 7), .inl (cI, 8, .inl fg))] : va_W) ++ va_pl L f) sz) (([((r 0), .inr (0, mf_M r (nI n) nw pb lc)), ((r 1), .inr (1, [.ref (r 2), .ref (r 3)])), ((r 2), .inl (cI, 8, .inl fm)), ((r 3), .inl (cI, 8, .inl fi)), ((r 4), .inl (cR, 80, .inr (.inr (.inr (.inr fr))))), ((r 5), .inl (cI, 80, .inl fl)), ((r 6), .inl (cI, 80, .inl u.2)), ((r 7), .inl (cI, 8, .inl fg))] : va_W) ++ va_pl L f) t) (va_A (([((r 0), .inr (0, mf_M r (nI n) nw pb lc)), ((r 1), .inr (1, [.ref (r 2), .ref (r 3)])), ((r 2), .inl (cI, 8, .inl fm)), ((r 3), .inl (cI, 8, .inl fi)), ((r 4), .inl (cR, 80, .inr (.inr (.inr (.inr fr))))), ((r 5), .inl (cI, 80, .inl fl)), ((r 6), .inl (cI, 80, .inl fc)), ((r 7), .inl (cI, 8, .inl fg))] : va_W) ++ va_pl L f) sz)) 0 0 (va_A (([((r 0), .inr (0, mf_M r (nI n) nw pb lc)), ((r 1), .inr (1, [.ref (r 2), .ref (r 3)])), ((r 2), .inl (cI, 8, .inl fm)), ((r 3), .inl (cI, 8, .inl fi)), ((r 4), .inl (cR, 80, .inr (.inr (.inr (.inr fr))))), ((r 5), .inl (cI, 80, .inl fl)), ((r 6), .inl (cI, 80, .inl fc)), ((r 7), .inl (cI, 8, .inl fg))] : va_W) ++ va_pl L f) sz) := by
  refine Met.ofW (cc := b_M_keepWithPapers) (maxL := 5) (ret := (some .int)) (by decide) rfl ?_
  intro p e s m args below meth c s₁ B hml hv
  obtain ⟨rfl, hsz, hB, hK, hP, hD0⟩ := hv
  subst hsz
  have hA0 := mr_A hB hD0
  have hD := hD0.self (sz := s.heap.size)
  generalize hAe : va_A (([((r 0), .inr (0, mf_M r (nI n) nw pb lc)), ((r 1), .inr (1, [.ref (r 2), .ref (r 3)])), ((r 2), .inl (cI, 8, .inl fm)), ((r 3), .inl (cI, 8, .inl fi)), ((r 4), .inl (cR, 80, .inr (.inr (.inr (.inr fr))))), ((r 5), .inl (cI, 80, .inl fl)), ((r 6), .inl (cI, 80, .inl fc)), ((r 7), .inl (cI, 8, .inl fg))] : va_W) ++ va_pl L f) s.heap.size = A at hD hA0 ⊢
  have hA : ∀ q : Nat, s.heap.size ≤ q → A q := fun q h => by rw [← hAe]; exact Or.inr h
  have hS : va_S A s.heap s.heap [] := va_S.rf
  have hP : va_P (dC, dI) mr_cl (([((r 0), .inr (0, mf_M r (nI n) nw pb lc)), ((r 1), .inr (1, [.ref (r 2), .ref (r 3)])), ((r 2), .inl (cI, 8, .inl fm)), ((r 3), .inl (cI, 8, .inl fi)), ((r 4), .inl (cR, 80, .inr (.inr (.inr (.inr fr))))), ((r 5), .inl (cI, 80, .inl fl)), ((r 6), .inl (cI, 80, .inl fc)), ((r 7), .inl (cI, 8, .inl fg))] : va_W) ++ va_pl L f) s.heap := hP
  have hBH := hB.at hS hA0
  have hx := B.exec
  have hb := B.bytes
  have hr := B.returns
  have hlocks := B.notSynchronized
  have hts : ∀ w ∈ lw_tbl, w.before [.ref (r 0), .int (nI cc)].toArray s = true := hB.hts _
  have hown : s.vm.findClass "MeasureRows" = some m.cls := findClass_of_methodNamed B.named
  have hl := lv_entry ([.ref (r 0), .int (nI cc)]) (n := 5) (Nat.le_of_ble_eq_true rfl)
  rw [lg_entry_eq]
  generalize (lg_sl ([.ref (r 0), .int (nI cc)]) ++ List.replicate (5 - (lg_sl ([.ref (r 0), .int (nI cc)])).length) Slot.unset).toArray = ls at hl ⊢
  have hl : lv_has ls 5 [(0, .ref (r 0)), (1, .int (nI cc))] := hl
  refine lv_iconst (v := 0) hx hb d_M_keepWithPapers_0 (by decide) ?_
  refine lv_istore_n (lv' := [(2, .int 0), (0, .ref (r 0)), (1, .int (nI cc))]) hx hb d_M_keepWithPapers_1 rfl hl (by decide) rfl (fun ls hl => ?_)
  refine lv_iconst (v := 0) hx hb d_M_keepWithPapers_2 (by decide) ?_
  refine lv_istore_n (lv' := [(3, .int 0), (2, .int 0), (0, .ref (r 0)), (1, .int (nI cc))]) hx hb d_M_keepWithPapers_3 rfl hl (by decide) rfl (fun ls hl => ?_)
  refine mr_loop (N := cc) (I := fun j H locs ls => ∃ q9 : Nat, ∃ ft9 : Nat → Int32, q9 ≤ j ∧ va_P (dC, dI) mr_cl (([((r 0), .inr (0, mf_M r (nI n) nw pb lc)), ((r 1), .inr (1, [.ref (r 2), .ref (r 3)])), ((r 2), .inl (cI, 8, .inl fm)), ((r 3), .inl (cI, 8, .inl fi)), ((r 4), .inl (cR, 80, .inr (.inr (.inr (.inr fr))))), ((r 5), .inl (cI, 80, .inl fl)), ((r 6), .inl (cI, 80, .inl ft9)), ((r 7), .inl (cI, 8, .inl fg))] : va_W) ++ va_pl L f) H ∧ va_D A (([((r 0), .inr (0, mf_M r (nI n) nw pb lc)), ((r 1), .inr (1, [.ref (r 2), .ref (r 3)])), ((r 2), .inl (cI, 8, .inl fm)), ((r 3), .inl (cI, 8, .inl fi)), ((r 4), .inl (cR, 80, .inr (.inr (.inr (.inr fr))))), ((r 5), .inl (cI, 80, .inl fl)), ((r 6), .inl (cI, 80, .inl ft9)), ((r 7), .inl (cI, 8, .inl fg))] : va_W) ++ va_pl L f) ∧ va_S A s.heap H locs ∧ lv_has ls 5 [(3, .int (nI j)), (2, .int (nI q9)), (0, .ref (r 0)), (1, .int (nI cc))]) (fun j H locs ls hj hI9 ih => ?_) (fun H locs ls hI9 => ?_) 0 _ _ _ (Nat.zero_le _) ⟨0, fc, Nat.le_refl 0, hP, hD, hS, (lv_sub hl [0, 1, 2, 3] rfl)⟩
  · obtain ⟨q9, ft9, hexj, hP, hD, hS, hl⟩ := hI9
    have hBH := hB.at hS hA0
    refine lv_iload_n hx hb d_M_keepWithPapers_4 rfl (lv_at hl 0 rfl) ?_
    refine lv_iload_n hx hb d_M_keepWithPapers_5 rfl (lv_at hl 3 rfl) ?_
    refine lv_icmp_ge (tgt := 59) hx hb d_M_keepWithPapers_6 (by decide) (fun c_1 => absurd c_1 (nI_ge hj (by omega))) (fun _ => ?_)
    refine lv_aload_n hx hb d_M_keepWithPapers_9 rfl (lv_at hl 2 rfl) ?_
    refine lv_aload_n hx hb d_M_keepWithPapers_10 rfl (lv_at hl 2 rfl) ?_
    refine va_get (D := (dC, dI)) (ci := 0) (v := .ref (r 6)) (C := R_M) (T := T_M) (N := 9) hx hb hts ti_M hown hK hP 0 rfl rfl 7 (by decide) (hts (Cond.fieldLink "MeasureRows" 39 "MeasureRows" "candidates" "[I") mw_62) (fun _ h9 => h9) rfl d_M_keepWithPapers_11 ?_
    refine lv_iload_n hx hb d_M_keepWithPapers_14 rfl (lv_at hl 0 rfl) ?_
    refine va_iald (D := (dC, dI)) hx hb hK hP 6 0 rfl rfl (i := nI j) (nI_in (by omega) (by decide)) d_M_keepWithPapers_15 ?_
    refine mr_top (show ft9 (nI j).toNatClampNeg = ft9 j by rw [nI_clamp (by omega)]) ?_
    refine va_csq (va_Run.run (va_runV (As := [.int (ft9 j)]) (rest := []) (C := R_M) ⟨hx, hb, hml, hown, hts⟩ (mc_M_find l s0 dC dI cI cR cL cZ r n nw pb lc fr (ft9 j) hR.1) ⟨(mr_cB 1 (hts (Cond.code y_M_find b_M_find 2 (some (.object "MeasureRows$Row"))) mw_117) (hts (Cond.initialized y_M_find.cls) mw_118) (hts (Cond.methodLink "MeasureRows" 111 y_M_find) mw_119) rfl rfl (by decide +kernel) ⟨Nat.le_of_ble_eq_true rfl, Nat.le_of_ble_eq_true rfl⟩), (hts (Cond.instanceMethod y_M_find) mw_120), (hts (Cond.selects "MeasureRows" y_M_find y_M_find) mw_121)⟩ (mr_preV hBH hK (hP.sub (ws' := [((r 0), .inr (0, mf_M r (nI n) nw pb lc)), ((r 4), .inl (cR, 80, .inr (.inr (.inr (.inr fr)))))]) [0, 4] rfl) (ci := 0) (q0 := 0) rfl rfl) rfl rfl hl.1 rfl (lv_room (Nat.le_of_ble_eq_true rfl)) d_M_keepWithPapers_16 ⟨Nat.le_of_ble_eq_true rfl, Nat.le_of_ble_eq_true rfl⟩)) (fun r_2 h_3 => ?_)
    subst h_3
    rcases mr_fc hR (ft9 j) with hf_9 | ⟨i_9, hi_9, hxe_9, a_9, ql_9, qk_9, v0_9, v1_9, v2_9, v4_9, v5_9, v6_9, v7_9, k_9, t_9, ld_9, kd_9, hf_9, hfi_9, m1_9, m2_9, m3_9, e1_9, e2_9, e3_9, hk_9, ht_9, ho_9, hne_9⟩
    · refine mr_topv (show va_rf (mv_M_find n fr (ft9 j)) = .null by rw [hf_9]; rfl) ?_
      refine lv_astoreN (lv' := [(4, .null), (3, .int (nI j)), (2, .int (nI q9)), (0, .ref (r 0)), (1, .int (nI cc))]) hx hb d_M_keepWithPapers_19 hl (by decide) rfl (fun ls hl => ?_)
      refine lv_aloadN hx hb d_M_keepWithPapers_21 (lv_at hl 0 rfl) ?_
      refine lv_ifnullN (tgt := 53) hx hb d_M_keepWithPapers_23 (by decide) ?_
      refine lv_iinc (v := nI (j + 1)) (lv' := [(3, .int (nI (j + 1))), (4, .null), (2, .int (nI q9)), (0, .ref (r 0)), (1, .int (nI cc))]) hx hb d_M_keepWithPapers_53 hl (k := 1) rfl ((nI_succ j).symm) (by decide) rfl (fun ls hl => ?_)
      refine lv_goto (tgt := 4) hx hb d_M_keepWithPapers_56 (by decide) ?_
      exact ih _ _ _ ⟨q9, ft9, by omega, hP, hD, hS, lv_sub hl [0, 2, 3, 4] rfl⟩
    · refine mr_topv (show va_rf (mv_M_find n fr (ft9 j)) = .ref a_9 by rw [hf_9]; rfl) ?_
      have hPr_9 := mr_row3 (X := [((r 0), .inr (0, mf_M r (nI n) nw pb lc)), ((r 1), .inr (1, [.ref (r 2), .ref (r 3)])), ((r 2), .inl (cI, 8, .inl fm)), ((r 3), .inl (cI, 8, .inl fi)), ((r 4), .inl (cR, 80, .inr (.inr (.inr (.inr fr))))), ((r 5), .inl (cI, 80, .inl fl)), ((r 6), .inl (cI, 80, .inl ft9)), ((r 7), .inl (cI, 8, .inl fg))]) hP m1_9 m2_9 m3_9 e1_9 e2_9 e3_9
      refine lv_astore (lv' := [(4, .ref a_9), (3, .int (nI j)), (2, .int (nI q9)), (0, .ref (r 0)), (1, .int (nI cc))]) hx hb d_M_keepWithPapers_19 hl (by decide) rfl (fun ls hl => ?_)
      refine lv_aload hx hb d_M_keepWithPapers_21 (lv_at hl 0 rfl) ?_
      refine lv_ifnull hx hb d_M_keepWithPapers_23 ?_
      refine lv_aload hx hb d_M_keepWithPapers_26 (lv_at hl 0 rfl) ?_
      refine lv_aload_n hx hb d_M_keepWithPapers_28 rfl (lv_at hl 3 rfl) ?_
      refine va_get (D := (dC, dI)) (ci := 0) (v := .int pb) (C := R_M) (T := T_M) (N := 9) hx hb hts ti_M hown hK hP 0 rfl rfl 4 (by decide) (hts (Cond.fieldLink "MeasureRows" 29 "MeasureRows" "paperBits" "I") mw_59) (fun _ h9 => h9) rfl d_M_keepWithPapers_29 ?_
      refine vp_callSi (va_Run.run (va_runV (As := [.int pb]) (rest := []) (C := R_R) ⟨hx, hb, hml, hown, hts⟩ (mc_R_isContentWith l s0 dC dI cI cR cL cZ a_9 ql_9 qk_9 v0_9 v1_9 v2_9 (nI k_9) v4_9 v5_9 v6_9 v7_9 (nI t_9) pb) ⟨(mr_cB 1 (hts (Cond.code y_R_isContentWith b_R_isContentWith 2 (some .boolean)) mw_209) (hts (Cond.initialized y_R_isContentWith.cls) mw_210) (hts (Cond.methodLink "MeasureRows" 207 y_R_isContentWith) mw_211) rfl rfl (by decide +kernel) ⟨Nat.le_of_ble_eq_true rfl, Nat.le_of_ble_eq_true rfl⟩), (hts (Cond.instanceMethod y_R_isContentWith) mw_212), (hts (Cond.selects "MeasureRows$Row" y_R_isContentWith y_R_isContentWith) mw_213)⟩ (mr_preV hBH hK (hPr_9.sub (ws' := [(a_9, .inr (2, [.int v0_9, .int v1_9, .int v2_9, .int (nI k_9), .int v4_9, .int v5_9, .int v6_9, .int v7_9, .int (nI t_9), .ref ql_9, .ref qk_9]))]) [0] rfl) (ci := 2) (q0 := 0) rfl rfl) rfl rfl hl.1 rfl (lv_room (Nat.le_of_ble_eq_true rfl)) d_M_keepWithPapers_32 ⟨Nat.le_of_ble_eq_true rfl, Nat.le_of_ble_eq_true rfl⟩)) (fun r_4 h_5 => ?_)
      subst h_5
      refine lv_if_eq (tgt := 53) hx hb d_M_keepWithPapers_35 (by decide) (fun c_6 => ?_) (fun c_6 => ?_)
      · refine lv_iinc (v := nI (j + 1)) (lv' := [(3, .int (nI (j + 1))), (4, .ref a_9), (2, .int (nI q9)), (0, .ref (r 0)), (1, .int (nI cc))]) hx hb d_M_keepWithPapers_53 hl (k := 1) rfl ((nI_succ j).symm) (by decide) rfl (fun ls hl => ?_)
        refine lv_goto (tgt := 4) hx hb d_M_keepWithPapers_56 (by decide) ?_
        exact ih _ _ _ ⟨q9, ft9, by omega, hP, hD, hS, lv_sub hl [0, 2, 3, 4] rfl⟩
      · refine lv_aload_n hx hb d_M_keepWithPapers_38 rfl (lv_at hl 3 rfl) ?_
        refine va_get (D := (dC, dI)) (ci := 0) (v := .ref (r 6)) (C := R_M) (T := T_M) (N := 9) hx hb hts ti_M hown hK hP 0 rfl rfl 7 (by decide) (hts (Cond.fieldLink "MeasureRows" 39 "MeasureRows" "candidates" "[I") mw_62) (fun _ h9 => h9) rfl d_M_keepWithPapers_39 ?_
        refine lv_iload_n hx hb d_M_keepWithPapers_42 rfl (lv_at hl 2 rfl) ?_
        refine lv_aload_n hx hb d_M_keepWithPapers_43 rfl (lv_at hl 3 rfl) ?_
        refine va_get (D := (dC, dI)) (ci := 0) (v := .ref (r 6)) (C := R_M) (T := T_M) (N := 9) hx hb hts ti_M hown hK hP 0 rfl rfl 7 (by decide) (hts (Cond.fieldLink "MeasureRows" 39 "MeasureRows" "candidates" "[I") mw_62) (fun _ h9 => h9) rfl d_M_keepWithPapers_44 ?_
        refine lv_iload_n hx hb d_M_keepWithPapers_47 rfl (lv_at hl 1 rfl) ?_
        refine va_iald (D := (dC, dI)) hx hb hK hP 6 0 rfl rfl (i := nI j) (nI_in (by omega) (by decide)) d_M_keepWithPapers_48 ?_
        refine mr_top (show ft9 (nI j).toNatClampNeg = ft9 j by rw [nI_clamp (by omega)]) ?_
        refine va_iast (D := (dC, dI)) hx hb hK hP hD hS 6 0 rfl rfl (i := nI q9) (nI_in (by omega) (by decide)) d_M_keepWithPapers_49 (fun H locs hP hD hS => ?_)
        have hP : va_P (dC, dI) mr_cl (([((r 0), .inr (0, mf_M r (nI n) nw pb lc)), ((r 1), .inr (1, [.ref (r 2), .ref (r 3)])), ((r 2), .inl (cI, 8, .inl fm)), ((r 3), .inl (cI, 8, .inl fi)), ((r 4), .inl (cR, 80, .inr (.inr (.inr (.inr fr))))), ((r 5), .inl (cI, 80, .inl fl)), ((r 6), .inl (cI, 80, .inl (upd ft9 (nI q9).toNatClampNeg (ft9 j)))), ((r 7), .inl (cI, 8, .inl fg))] : va_W) ++ va_pl L f) H := hP
        have hD : va_D A (([((r 0), .inr (0, mf_M r (nI n) nw pb lc)), ((r 1), .inr (1, [.ref (r 2), .ref (r 3)])), ((r 2), .inl (cI, 8, .inl fm)), ((r 3), .inl (cI, 8, .inl fi)), ((r 4), .inl (cR, 80, .inr (.inr (.inr (.inr fr))))), ((r 5), .inl (cI, 80, .inl fl)), ((r 6), .inl (cI, 80, .inl (upd ft9 (nI q9).toNatClampNeg (ft9 j)))), ((r 7), .inl (cI, 8, .inl fg))] : va_W) ++ va_pl L f) := hD
        have hBH := hB.at hS hA0
        have hPr_9 := mr_row3 (X := [((r 0), .inr (0, mf_M r (nI n) nw pb lc)), ((r 1), .inr (1, [.ref (r 2), .ref (r 3)])), ((r 2), .inl (cI, 8, .inl fm)), ((r 3), .inl (cI, 8, .inl fi)), ((r 4), .inl (cR, 80, .inr (.inr (.inr (.inr fr))))), ((r 5), .inl (cI, 80, .inl fl)), ((r 6), .inl (cI, 80, .inl (upd ft9 (nI q9).toNatClampNeg (ft9 j)))), ((r 7), .inl (cI, 8, .inl fg))]) hP m1_9 m2_9 m3_9 e1_9 e2_9 e3_9
        refine lv_iinc (v := nI (q9 + 1)) (lv' := [(2, .int (nI (q9 + 1))), (4, .ref a_9), (3, .int (nI j)), (0, .ref (r 0)), (1, .int (nI cc))]) hx hb d_M_keepWithPapers_50 hl (k := 2) rfl ((nI_succ q9).symm) (by decide) rfl (fun ls hl => ?_)
        refine lv_iinc (v := nI (j + 1)) (lv' := [(3, .int (nI (j + 1))), (2, .int (nI (q9 + 1))), (4, .ref a_9), (0, .ref (r 0)), (1, .int (nI cc))]) hx hb d_M_keepWithPapers_53 hl (k := 2) rfl ((nI_succ j).symm) (by decide) rfl (fun ls hl => ?_)
        refine lv_goto (tgt := 4) hx hb d_M_keepWithPapers_56 (by decide) ?_
        exact ih _ _ _ ⟨(q9 + 1), (upd ft9 (nI q9).toNatClampNeg (ft9 j)), by omega, hP, hD, hS, lv_sub hl [0, 1, 3, 4] rfl⟩
  · obtain ⟨q9, ft9, hexj, hP, hD, hS, hl⟩ := hI9
    have hBH := hB.at hS hA0
    refine lv_iload_n hx hb d_M_keepWithPapers_4 rfl (lv_at hl 0 rfl) ?_
    refine lv_iload_n hx hb d_M_keepWithPapers_5 rfl (lv_at hl 3 rfl) ?_
    refine lv_icmp_ge (tgt := 59) hx hb d_M_keepWithPapers_6 (by decide) (fun _ => ?_) (fun c_7 => absurd (Int32.le_refl _) c_7)
    refine lv_iload_n hx hb d_M_keepWithPapers_59 rfl (lv_at hl 1 rfl) ?_
    have hP9 := hP
    have hD9 := hD
    exact W.iret (v := nI q9) hx hb hr (fun t ht hW => ⟨⟨_, (q9, ft9), rfl, ⟨rfl, hexj⟩, by rw [ht]; exact hP9, va_K.moved hW.alike hK, hD9⟩, hS.F ht⟩) hS.2.2 d_M_keepWithPapers_60
set_option maxHeartbeats 4000000 in
set_option maxRecDepth 100000 in
theorem mc_M_weighKinds (l : Launch) (s0 : State) (dC : Nat → ClassId) (dI : Nat → Nat → Nat) (cI cR cL cZ : ClassId) (r : Nat → Nat) (n : Nat) (nw pb lc : Int32) (fm fi : Nat → Int32) (fr : Nat → Option Nat) (fl fc fg : Nat → Int32) (L : List Nat) (f : Nat → va_E) (cc : Nat) (sz : Nat)  (hc : cc ≤ 80) (hR : mr_RI cI n L f fr) : Met l y_M_weighKinds [Cond.code y_M_weighKinds b_M_weighKinds 4 none] ({ frames := 2, cells := 0, slots := 0, locals := 40 }) (mr_PC s0 (dC, dI) [(cI, .int), (cR, .object "MeasureRows$Row"), (cL, .long), (cZ, .boolean)] [.ref (r 0), .int (nI cc)] (([((r 0), .inr (0, mf_M r (nI n) nw pb lc)), ((r 1), .inr (1, [.ref (r 2), .ref (r 3)])), ((r 2), .inl (cI, 8, .inl fm)), ((r 3), .inl (cI, 8, .inl fi)), ((r 4), .inl (cR, 80, .inr (.inr (.inr (.inr fr))))), ((r 5), .inl (cI, 80, .inl fl)), ((r 6), .inl (cI, 80, .inl fc)), ((r 7), .inl (cI, 8, .inl fg))] : va_W) ++ va_pl L f) sz) (va_Qv (fun _ => True) (fun (u : Nat → Int32) t => mr_W (dC, dI) [(cI, .int), (cR, .object "MeasureRows$Row"), (cL, .long), (cZ, .boolean)] (va_A (([((r 0), .inr (0, mf_M r (nI n) nw pb lc)), ((r 1), .inr (1, [.ref (r 2), .ref (r 3)])), ((r 2), .inl (cI, 8, .inl fm)), ((r 3), .inl (cI, 8, .inl fi)), ((r 4), .inl (cR, 80, .inr (.inr (.inr (.inr fr))))), ((r 5), .inl (cI, 80, .inl fl)), ((r 6), .inl (cI, 80, .inl fc)), ((r 7), .inl (cI, 8, .inl fg))] : va_W) ++ va_pl L f) sz) (([((r 0), .inr (0, mf_M r (nI n) nw pb lc)), ((r 1), .inr (1, [.ref (r 2), .ref (r 3)])), ((r 2), .inl (cI, 8, .inl fm)), ((r 3), .inl (cI, 8, .inl fi)), ((r 4), .inl (cR, 80, .inr (.inr (.inr (.inr fr))))), ((r 5), .inl (cI, 80, .inl fl)), ((r 6), .inl (cI, 80, .inl fc)), ((r 7), .inl (cI, 8, .inl u))] : va_W) ++ va_pl L f) t) (va_A (([((r 0), .inr (0, mf_M r (nI n) nw pb lc)), ((r 1), .inr (1, [.ref (r 2), .ref (r 3)])), ((r 2), .inl (cI, 8, .inl fm)), ((r 3), .inl (cI, 8, .inl fi)), ((r 4), .inl (cR, 80, .inr (.inr (.inr (.inr fr))))), ((r 5), .inl (cI, 80, .inl fl)), ((r 6), .inl (cI, 80, .inl fc)), ((r 7), .inl (cI, 8, .inl fg))] : va_W) ++ va_pl L f) sz)) 0 0 (va_A (([((r 0), .inr (0, mf_M r (nI n) nw pb lc)), ((r 1), .inr (1, [.ref (r 2), .ref (r 3)])), ((r 2), .inl (cI, 8, .inl fm)), ((r 3), .inl (cI, 8, .inl fi)), ((r 4), .inl (cR, 80, .inr (.inr (.inr (.inr fr))))), ((r 5), .inl (cI, 80, .inl fl)), ((r 6), .inl (cI, 80, .inl fc)), ((r 7), .inl (cI, 8, .inl fg))] : va_W) ++ va_pl L f) sz) := by
  refine Met.ofW (cc := b_M_weighKinds) (maxL := 4) (ret := none) (by decide) rfl ?_
  intro p e s m args below meth c s₁ B hml hv
  obtain ⟨rfl, hsz, hB, hK, hP, hD0⟩ := hv
  subst hsz
  have hA0 := mr_A hB hD0
  have hD := hD0.self (sz := s.heap.size)
  generalize hAe : va_A (([((r 0), .inr (0, mf_M r (nI n) nw pb lc)), ((r 1), .inr (1, [.ref (r 2), .ref (r 3)])), ((r 2), .inl (cI, 8, .inl fm)), ((r 3), .inl (cI, 8, .inl fi)), ((r 4), .inl (cR, 80, .inr (.inr (.inr (.inr fr))))), ((r 5), .inl (cI, 80, .inl fl)), ((r 6), .inl (cI, 80, .inl fc)), ((r 7), .inl (cI, 8, .inl fg))] : va_W) ++ va_pl L f) s.heap.size = A at hD hA0 ⊢
  have hA : ∀ q : Nat, s.heap.size ≤ q → A q := fun q h => by rw [← hAe]; exact Or.inr h
  have hS : va_S A s.heap s.heap [] := va_S.rf
  have hP : va_P (dC, dI) mr_cl (([((r 0), .inr (0, mf_M r (nI n) nw pb lc)), ((r 1), .inr (1, [.ref (r 2), .ref (r 3)])), ((r 2), .inl (cI, 8, .inl fm)), ((r 3), .inl (cI, 8, .inl fi)), ((r 4), .inl (cR, 80, .inr (.inr (.inr (.inr fr))))), ((r 5), .inl (cI, 80, .inl fl)), ((r 6), .inl (cI, 80, .inl fc)), ((r 7), .inl (cI, 8, .inl fg))] : va_W) ++ va_pl L f) s.heap := hP
  have hBH := hB.at hS hA0
  have hx := B.exec
  have hb := B.bytes
  have hr := B.returns
  have hlocks := B.notSynchronized
  have hts : ∀ w ∈ lw_tbl, w.before [.ref (r 0), .int (nI cc)].toArray s = true := hB.hts _
  have hown : s.vm.findClass "MeasureRows" = some m.cls := findClass_of_methodNamed B.named
  have hl := lv_entry ([.ref (r 0), .int (nI cc)]) (n := 4) (Nat.le_of_ble_eq_true rfl)
  rw [lg_entry_eq]
  generalize (lg_sl ([.ref (r 0), .int (nI cc)]) ++ List.replicate (4 - (lg_sl ([.ref (r 0), .int (nI cc)])).length) Slot.unset).toArray = ls at hl ⊢
  have hl : lv_has ls 4 [(0, .ref (r 0)), (1, .int (nI cc))] := hl
  refine lv_iconst (v := 0) hx hb d_M_weighKinds_0 (by decide) ?_
  refine lv_istore_n (lv' := [(2, .int 0), (0, .ref (r 0)), (1, .int (nI cc))]) hx hb d_M_weighKinds_1 rfl hl (by decide) rfl (fun ls hl => ?_)
  refine mr_loop (N := 8) (I := fun j H locs ls => ∃ fg9 : Nat → Int32, True ∧ va_P (dC, dI) mr_cl (([((r 0), .inr (0, mf_M r (nI n) nw pb lc)), ((r 1), .inr (1, [.ref (r 2), .ref (r 3)])), ((r 2), .inl (cI, 8, .inl fm)), ((r 3), .inl (cI, 8, .inl fi)), ((r 4), .inl (cR, 80, .inr (.inr (.inr (.inr fr))))), ((r 5), .inl (cI, 80, .inl fl)), ((r 6), .inl (cI, 80, .inl fc)), ((r 7), .inl (cI, 8, .inl fg9))] : va_W) ++ va_pl L f) H ∧ va_D A (([((r 0), .inr (0, mf_M r (nI n) nw pb lc)), ((r 1), .inr (1, [.ref (r 2), .ref (r 3)])), ((r 2), .inl (cI, 8, .inl fm)), ((r 3), .inl (cI, 8, .inl fi)), ((r 4), .inl (cR, 80, .inr (.inr (.inr (.inr fr))))), ((r 5), .inl (cI, 80, .inl fl)), ((r 6), .inl (cI, 80, .inl fc)), ((r 7), .inl (cI, 8, .inl fg9))] : va_W) ++ va_pl L f) ∧ va_S A s.heap H locs ∧ lv_has ls 4 [(2, .int (nI j)), (0, .ref (r 0)), (1, .int (nI cc))]) (fun j H locs ls hj hI9 ih => ?_) (fun H locs ls hI9 => ?_) 0 _ _ _ (Nat.zero_le _) ⟨fg, trivial, hP, hD, hS, (lv_sub hl [0, 1, 2] rfl)⟩
  · obtain ⟨fg9, hexj, hP, hD, hS, hl⟩ := hI9
    have hBH := hB.at hS hA0
    refine lv_iload_n hx hb d_M_weighKinds_2 rfl (lv_at hl 0 rfl) ?_
    refine lv_bipush (v := 8) hx hb d_M_weighKinds_3 (by decide) ?_
    refine lv_icmp_ge (tgt := 21) hx hb d_M_weighKinds_5 (by decide) (fun c_1 => absurd c_1 (nI_ge (b := 8) hj (by decide))) (fun _ => ?_)
    refine lv_aload_n hx hb d_M_weighKinds_8 rfl (lv_at hl 1 rfl) ?_
    refine va_get (D := (dC, dI)) (ci := 0) (v := .ref (r 7)) (C := R_M) (T := T_M) (N := 9) hx hb hts ti_M hown hK hP 0 rfl rfl 8 (by decide) (hts (Cond.fieldLink "MeasureRows" 42 "MeasureRows" "greatestWeight" "[I") mw_63) (fun _ h9 => h9) rfl d_M_weighKinds_9 ?_
    refine lv_iload_n hx hb d_M_weighKinds_12 rfl (lv_at hl 0 rfl) ?_
    refine lv_iconst (v := 0) hx hb d_M_weighKinds_13 (by decide) ?_
    refine va_iast (D := (dC, dI)) hx hb hK hP hD hS 7 0 rfl rfl (i := nI j) (nI_in (by omega) (by decide)) d_M_weighKinds_14 (fun H locs hP hD hS => ?_)
    have hP : va_P (dC, dI) mr_cl (([((r 0), .inr (0, mf_M r (nI n) nw pb lc)), ((r 1), .inr (1, [.ref (r 2), .ref (r 3)])), ((r 2), .inl (cI, 8, .inl fm)), ((r 3), .inl (cI, 8, .inl fi)), ((r 4), .inl (cR, 80, .inr (.inr (.inr (.inr fr))))), ((r 5), .inl (cI, 80, .inl fl)), ((r 6), .inl (cI, 80, .inl fc)), ((r 7), .inl (cI, 8, .inl (upd fg9 (nI j).toNatClampNeg 0)))] : va_W) ++ va_pl L f) H := hP
    have hD : va_D A (([((r 0), .inr (0, mf_M r (nI n) nw pb lc)), ((r 1), .inr (1, [.ref (r 2), .ref (r 3)])), ((r 2), .inl (cI, 8, .inl fm)), ((r 3), .inl (cI, 8, .inl fi)), ((r 4), .inl (cR, 80, .inr (.inr (.inr (.inr fr))))), ((r 5), .inl (cI, 80, .inl fl)), ((r 6), .inl (cI, 80, .inl fc)), ((r 7), .inl (cI, 8, .inl (upd fg9 (nI j).toNatClampNeg 0)))] : va_W) ++ va_pl L f) := hD
    have hBH := hB.at hS hA0
    refine lv_iinc (v := nI (j + 1)) (lv' := [(2, .int (nI (j + 1))), (0, .ref (r 0)), (1, .int (nI cc))]) hx hb d_M_weighKinds_15 hl (k := 0) rfl ((nI_succ j).symm) (by decide) rfl (fun ls hl => ?_)
    refine lv_goto (tgt := 2) hx hb d_M_weighKinds_18 (by decide) ?_
    exact ih _ _ _ ⟨(upd fg9 (nI j).toNatClampNeg 0), trivial, hP, hD, hS, lv_sub hl [0, 1, 2] rfl⟩
  · obtain ⟨fg9, hexj, hP, hD, hS, hl⟩ := hI9
    have hBH := hB.at hS hA0
    refine lv_iload_n hx hb d_M_weighKinds_2 rfl (lv_at hl 0 rfl) ?_
    refine lv_bipush (v := 8) hx hb d_M_weighKinds_3 (by decide) ?_
    refine lv_icmp_ge (tgt := 21) hx hb d_M_weighKinds_5 (by decide) (fun _ => ?_) (fun c_2 => absurd c_2 (by decide))
    refine lv_iconst (v := 0) hx hb d_M_weighKinds_21 (by decide) ?_
    refine lv_istore_n (lv' := [(2, .int 0), (0, .ref (r 0)), (1, .int (nI cc))]) hx hb d_M_weighKinds_22 rfl hl (by decide) rfl (fun ls hl => ?_)
    refine mr_loop (N := cc) (I := fun i H locs ls => ∃ fgb : Nat → Int32, True ∧ va_P (dC, dI) mr_cl (([((r 0), .inr (0, mf_M r (nI n) nw pb lc)), ((r 1), .inr (1, [.ref (r 2), .ref (r 3)])), ((r 2), .inl (cI, 8, .inl fm)), ((r 3), .inl (cI, 8, .inl fi)), ((r 4), .inl (cR, 80, .inr (.inr (.inr (.inr fr))))), ((r 5), .inl (cI, 80, .inl fl)), ((r 6), .inl (cI, 80, .inl fc)), ((r 7), .inl (cI, 8, .inl fgb))] : va_W) ++ va_pl L f) H ∧ va_D A (([((r 0), .inr (0, mf_M r (nI n) nw pb lc)), ((r 1), .inr (1, [.ref (r 2), .ref (r 3)])), ((r 2), .inl (cI, 8, .inl fm)), ((r 3), .inl (cI, 8, .inl fi)), ((r 4), .inl (cR, 80, .inr (.inr (.inr (.inr fr))))), ((r 5), .inl (cI, 80, .inl fl)), ((r 6), .inl (cI, 80, .inl fc)), ((r 7), .inl (cI, 8, .inl fgb))] : va_W) ++ va_pl L f) ∧ va_S A s.heap H locs ∧ lv_has ls 4 [(2, .int (nI i)), (0, .ref (r 0)), (1, .int (nI cc))]) (fun i H locs ls hi9 hI9 ih2 => ?_) (fun H locs ls hI9 => ?_) 0 _ _ _ (Nat.zero_le _) ⟨fg9, trivial, hP, hD, hS, (lv_sub hl [0, 1, 2] rfl)⟩
    · obtain ⟨fgb, hexi, hP, hD, hS, hl⟩ := hI9
      have hBH := hB.at hS hA0
      refine lv_iload_n hx hb d_M_weighKinds_23 rfl (lv_at hl 0 rfl) ?_
      refine lv_iload_n hx hb d_M_weighKinds_24 rfl (lv_at hl 2 rfl) ?_
      refine lv_icmp_ge (tgt := 74) hx hb d_M_weighKinds_25 (by decide) (fun c_3 => absurd c_3 (nI_ge hi9 (by omega))) (fun _ => ?_)
      refine lv_aload_n hx hb d_M_weighKinds_28 rfl (lv_at hl 1 rfl) ?_
      refine lv_aload_n hx hb d_M_weighKinds_29 rfl (lv_at hl 1 rfl) ?_
      refine va_get (D := (dC, dI)) (ci := 0) (v := .ref (r 6)) (C := R_M) (T := T_M) (N := 9) hx hb hts ti_M hown hK hP 0 rfl rfl 7 (by decide) (hts (Cond.fieldLink "MeasureRows" 39 "MeasureRows" "candidates" "[I") mw_62) (fun _ h9 => h9) rfl d_M_weighKinds_30 ?_
      refine lv_iload_n hx hb d_M_weighKinds_33 rfl (lv_at hl 0 rfl) ?_
      refine va_iald (D := (dC, dI)) hx hb hK hP 6 0 rfl rfl (i := nI i) (nI_in (by omega) (by decide)) d_M_weighKinds_34 ?_
      refine mr_top (show fc (nI i).toNatClampNeg = fc i by rw [nI_clamp (by omega)]) ?_
      refine va_csq (va_Run.run (va_runV (As := [.int (fc i)]) (rest := []) (C := R_M) ⟨hx, hb, hml, hown, hts⟩ (mc_M_find l s0 dC dI cI cR cL cZ r n nw pb lc fr (fc i) hR.1) ⟨(mr_cB 1 (hts (Cond.code y_M_find b_M_find 2 (some (.object "MeasureRows$Row"))) mw_117) (hts (Cond.initialized y_M_find.cls) mw_118) (hts (Cond.methodLink "MeasureRows" 111 y_M_find) mw_119) rfl rfl (by decide +kernel) ⟨Nat.le_of_ble_eq_true rfl, Nat.le_of_ble_eq_true rfl⟩), (hts (Cond.instanceMethod y_M_find) mw_120), (hts (Cond.selects "MeasureRows" y_M_find y_M_find) mw_121)⟩ (mr_preV hBH hK (hP.sub (ws' := [((r 0), .inr (0, mf_M r (nI n) nw pb lc)), ((r 4), .inl (cR, 80, .inr (.inr (.inr (.inr fr)))))]) [0, 4] rfl) (ci := 0) (q0 := 0) rfl rfl) rfl rfl hl.1 rfl (lv_room (Nat.le_of_ble_eq_true rfl)) d_M_weighKinds_35 ⟨Nat.le_of_ble_eq_true rfl, Nat.le_of_ble_eq_true rfl⟩)) (fun r_4 h_5 => ?_)
      subst h_5
      rcases mr_fc hR (fc i) with hf_10 | ⟨i_10, hi_10, hxe_10, a_10, ql_10, qk_10, v0_10, v1_10, v2_10, v4_10, v5_10, v6_10, v7_10, k_10, t_10, ld_10, kd_10, hf_10, hfi_10, m1_10, m2_10, m3_10, e1_10, e2_10, e3_10, hk_10, ht_10, ho_10, hne_10⟩
      · refine mr_topv (show va_rf (mv_M_find n fr (fc i)) = .null by rw [hf_10]; rfl) ?_
        refine lv_astore_nN (lv' := [(3, .null), (2, .int (nI i)), (0, .ref (r 0)), (1, .int (nI cc))]) hx hb d_M_weighKinds_38 rfl hl (by decide) rfl (fun ls hl => ?_)
        refine lv_aload_nN hx hb d_M_weighKinds_39 rfl (lv_at hl 0 rfl) ?_
        refine lv_ifnullN (tgt := 68) hx hb d_M_weighKinds_40 (by decide) ?_
        refine lv_iinc (v := nI (i + 1)) (lv' := [(2, .int (nI (i + 1))), (3, .null), (0, .ref (r 0)), (1, .int (nI cc))]) hx hb d_M_weighKinds_68 hl (k := 1) rfl ((nI_succ i).symm) (by decide) rfl (fun ls hl => ?_)
        refine lv_goto (tgt := 23) hx hb d_M_weighKinds_71 (by decide) ?_
        exact ih2 _ _ _ ⟨fgb, trivial, hP, hD, hS, lv_sub hl [0, 2, 3] rfl⟩
      · refine mr_topv (show va_rf (mv_M_find n fr (fc i)) = .ref a_10 by rw [hf_10]; rfl) ?_
        have hPr_10 := mr_row3 (X := [((r 0), .inr (0, mf_M r (nI n) nw pb lc)), ((r 1), .inr (1, [.ref (r 2), .ref (r 3)])), ((r 2), .inl (cI, 8, .inl fm)), ((r 3), .inl (cI, 8, .inl fi)), ((r 4), .inl (cR, 80, .inr (.inr (.inr (.inr fr))))), ((r 5), .inl (cI, 80, .inl fl)), ((r 6), .inl (cI, 80, .inl fc)), ((r 7), .inl (cI, 8, .inl fgb))]) hP m1_10 m2_10 m3_10 e1_10 e2_10 e3_10
        refine lv_astore_n (lv' := [(3, .ref a_10), (2, .int (nI i)), (0, .ref (r 0)), (1, .int (nI cc))]) hx hb d_M_weighKinds_38 rfl hl (by decide) rfl (fun ls hl => ?_)
        refine lv_aload_n hx hb d_M_weighKinds_39 rfl (lv_at hl 0 rfl) ?_
        refine lv_ifnull hx hb d_M_weighKinds_40 ?_
        refine lv_aload_n hx hb d_M_weighKinds_43 rfl (lv_at hl 2 rfl) ?_
        refine va_get (D := (dC, dI)) (ci := 0) (v := .ref (r 7)) (C := R_M) (T := T_M) (N := 9) hx hb hts ti_M hown hK hP 0 rfl rfl 8 (by decide) (hts (Cond.fieldLink "MeasureRows" 42 "MeasureRows" "greatestWeight" "[I") mw_63) (fun _ h9 => h9) rfl d_M_weighKinds_44 ?_
        refine lv_aload_n hx hb d_M_weighKinds_47 rfl (lv_at hl 0 rfl) ?_
        refine va_get (D := (dC, dI)) (ci := 2) (v := .int (nI k_10)) (C := R_R) (T := T_R) (N := 11) hx hb hts ti_R hown hK hPr_10 0 rfl rfl 3 (by decide) (hts (Cond.fieldLink "MeasureRows" 164 "MeasureRows$Row" "kind" "I") mw_151) (fun _ h9 => h9) rfl d_M_weighKinds_48 ?_
        refine lv_aload_n hx hb d_M_weighKinds_51 rfl (lv_at hl 2 rfl) ?_
        refine va_get (D := (dC, dI)) (ci := 0) (v := .ref (r 7)) (C := R_M) (T := T_M) (N := 9) hx hb hts ti_M hown hK hP 0 rfl rfl 8 (by decide) (hts (Cond.fieldLink "MeasureRows" 42 "MeasureRows" "greatestWeight" "[I") mw_63) (fun _ h9 => h9) rfl d_M_weighKinds_52 ?_
        refine lv_aload_n hx hb d_M_weighKinds_55 rfl (lv_at hl 0 rfl) ?_
        refine va_get (D := (dC, dI)) (ci := 2) (v := .int (nI k_10)) (C := R_R) (T := T_R) (N := 11) hx hb hts ti_R hown hK hPr_10 0 rfl rfl 3 (by decide) (hts (Cond.fieldLink "MeasureRows" 164 "MeasureRows$Row" "kind" "I") mw_151) (fun _ h9 => h9) rfl d_M_weighKinds_56 ?_
        refine va_iald (D := (dC, dI)) hx hb hK hP 7 0 rfl rfl (i := nI k_10) (nI_in hk_10 (by decide)) d_M_weighKinds_59 ?_
        refine lv_aload_n hx hb d_M_weighKinds_60 rfl (lv_at hl 0 rfl) ?_
        refine vp_callSi (va_Run.run (va_runV (As := []) (rest := [.int (fgb (nI k_10).toNatClampNeg), .int (nI k_10), .ref (r 7)]) (C := R_R) ⟨hx, hb, hml, hown, hts⟩ (mc_R_weight l s0 dC dI cI cR cL cZ a_10 ql_10 qk_10 v0_10 v1_10 v2_10 (nI k_10) v4_10 v5_10 v6_10 v7_10 (nI t_10)) ⟨(mr_cB 0 (hts (Cond.code y_R_weight b_R_weight 1 (some .int)) mw_164) (hts (Cond.initialized y_R_weight.cls) mw_165) (hts (Cond.methodLink "MeasureRows" 210 y_R_weight) mw_166) rfl rfl (by decide +kernel) ⟨Nat.le_of_ble_eq_true rfl, Nat.le_of_ble_eq_true rfl⟩), (hts (Cond.instanceMethod y_R_weight) mw_167), (hts (Cond.selects "MeasureRows$Row" y_R_weight y_R_weight) mw_168)⟩ (mr_preV hBH hK (hPr_10.sub (ws' := [(a_10, .inr (2, [.int v0_10, .int v1_10, .int v2_10, .int (nI k_10), .int v4_10, .int v5_10, .int v6_10, .int v7_10, .int (nI t_10), .ref ql_10, .ref qk_10]))]) [0] rfl) (ci := 2) (q0 := 0) rfl rfl) rfl rfl hl.1 rfl (lv_room (Nat.le_of_ble_eq_true rfl)) d_M_weighKinds_61 ⟨Nat.le_of_ble_eq_true rfl, Nat.le_of_ble_eq_true rfl⟩)) (fun r_6 h_7 => ?_)
        subst h_7
        refine va_mmax hx hb (hml.trans hl.1.symm) hown (hts (Cond.methodLink "MeasureRows" 105 Lib.Math.max.name) mw_193) (hts (Cond.static Lib.Math.max.name) mw_194) (hts (Cond.initialized "java/lang/Math") mw_195) (hts (Cond.code Lib.Math.max.name Lib.Math.max.code 2 (some .int)) mw_196) (Nat.le_of_ble_eq_true rfl) (Nat.le_of_ble_eq_true rfl) (Nat.le_of_ble_eq_true rfl) (Nat.le_of_ble_eq_true rfl) d_M_weighKinds_64 ?_
        refine va_iast (D := (dC, dI)) hx hb hK hP hD hS 7 0 rfl rfl (i := nI k_10) (nI_in hk_10 (by decide)) d_M_weighKinds_67 (fun H locs hP hD hS => ?_)
        have hP : va_P (dC, dI) mr_cl (([((r 0), .inr (0, mf_M r (nI n) nw pb lc)), ((r 1), .inr (1, [.ref (r 2), .ref (r 3)])), ((r 2), .inl (cI, 8, .inl fm)), ((r 3), .inl (cI, 8, .inl fi)), ((r 4), .inl (cR, 80, .inr (.inr (.inr (.inr fr))))), ((r 5), .inl (cI, 80, .inl fl)), ((r 6), .inl (cI, 80, .inl fc)), ((r 7), .inl (cI, 8, .inl (upd fgb (nI k_10).toNatClampNeg (if (fgb (nI k_10).toNatClampNeg) < (mv_R_weight v0_10 v4_10) then (mv_R_weight v0_10 v4_10) else (fgb (nI k_10).toNatClampNeg)))))] : va_W) ++ va_pl L f) H := hP
        have hD : va_D A (([((r 0), .inr (0, mf_M r (nI n) nw pb lc)), ((r 1), .inr (1, [.ref (r 2), .ref (r 3)])), ((r 2), .inl (cI, 8, .inl fm)), ((r 3), .inl (cI, 8, .inl fi)), ((r 4), .inl (cR, 80, .inr (.inr (.inr (.inr fr))))), ((r 5), .inl (cI, 80, .inl fl)), ((r 6), .inl (cI, 80, .inl fc)), ((r 7), .inl (cI, 8, .inl (upd fgb (nI k_10).toNatClampNeg (if (fgb (nI k_10).toNatClampNeg) < (mv_R_weight v0_10 v4_10) then (mv_R_weight v0_10 v4_10) else (fgb (nI k_10).toNatClampNeg)))))] : va_W) ++ va_pl L f) := hD
        have hBH := hB.at hS hA0
        have hPr_10 := mr_row3 (X := [((r 0), .inr (0, mf_M r (nI n) nw pb lc)), ((r 1), .inr (1, [.ref (r 2), .ref (r 3)])), ((r 2), .inl (cI, 8, .inl fm)), ((r 3), .inl (cI, 8, .inl fi)), ((r 4), .inl (cR, 80, .inr (.inr (.inr (.inr fr))))), ((r 5), .inl (cI, 80, .inl fl)), ((r 6), .inl (cI, 80, .inl fc)), ((r 7), .inl (cI, 8, .inl (upd fgb (nI k_10).toNatClampNeg (if (fgb (nI k_10).toNatClampNeg) < (mv_R_weight v0_10 v4_10) then (mv_R_weight v0_10 v4_10) else (fgb (nI k_10).toNatClampNeg)))))]) hP m1_10 m2_10 m3_10 e1_10 e2_10 e3_10
        refine lv_iinc (v := nI (i + 1)) (lv' := [(2, .int (nI (i + 1))), (3, .ref a_10), (0, .ref (r 0)), (1, .int (nI cc))]) hx hb d_M_weighKinds_68 hl (k := 1) rfl ((nI_succ i).symm) (by decide) rfl (fun ls hl => ?_)
        refine lv_goto (tgt := 23) hx hb d_M_weighKinds_71 (by decide) ?_
        exact ih2 _ _ _ ⟨(upd fgb (nI k_10).toNatClampNeg (if (fgb (nI k_10).toNatClampNeg) < (mv_R_weight v0_10 v4_10) then (mv_R_weight v0_10 v4_10) else (fgb (nI k_10).toNatClampNeg))), trivial, hP, hD, hS, lv_sub hl [0, 2, 3] rfl⟩
    · obtain ⟨fgb, hexi, hP, hD, hS, hl⟩ := hI9
      have hBH := hB.at hS hA0
      refine lv_iload_n hx hb d_M_weighKinds_23 rfl (lv_at hl 0 rfl) ?_
      refine lv_iload_n hx hb d_M_weighKinds_24 rfl (lv_at hl 2 rfl) ?_
      refine lv_icmp_ge (tgt := 74) hx hb d_M_weighKinds_25 (by decide) (fun _ => ?_) (fun c_8 => absurd (Int32.le_refl _) c_8)
      have hP9 := hP
      have hD9 := hD
      exact W.vret hx hb hr (fun t ht hW => ⟨⟨fgb, rfl, trivial, by rw [ht]; exact hP9, va_K.moved hW.alike hK, hD9⟩, hS.F ht⟩) hS.2.2 d_M_weighKinds_74
