theorem mr_z8 {fg : Nat → Int32} {j : Nat} (h : ∀ x, x < j → fg x = 0) (hj : j < 8) : ∀ x, x < j + 1 → upd fg (nI j).toNatClampNeg 0 x = 0 := fun x hx => by
  rw [nI_clamp (by omega)]
  by_cases e : x = j
  · subst e; simp [upd]
  · have : upd fg j 0 x = fg x := by simp [upd, e]
    rw [this]; exact h x (by omega)

set_option maxHeartbeats 4000000 in
set_option maxRecDepth 100000 in
theorem mc_M_weighKindsX (l : Launch) (s0 : State) (dC : Nat → ClassId) (dI : Nat → Nat → Nat) (cI cR cL cZ : ClassId) (r : Nat → Nat) (n : Nat) (nw pb lc : Int32) (fm fi : Nat → Int32) (fr : Nat → Option Nat) (fl fc fg : Nat → Int32) (L : List Nat) (f : Nat → va_E) (fco fla ffi fki fra fkn cls cpa fe fa fk : Nat → Int32) (cc : Nat) (PP : Nat → Int32) (sz : Nat)  (hc : cc ≤ 80) (hcc : cc = mr_cnt PP n) (hfc : ∀ m, m < n → ¬ PP m = 0 → fc (mr_cnt PP m) = nI (m + 1)) (hX : mr_RX cI n L f fr fco fla ffi fki fra fkn cls cpa fe fa fk) (hN : mr_NX n nw fco fki fra fkn fe fk) : Met l y_M_weighKinds [Cond.code y_M_weighKinds b_M_weighKinds 4 none] ({ frames := 2, cells := 0, slots := 0, locals := 40 }) (mr_PC s0 (dC, dI) [(cI, .int), (cR, .object "MeasureRows$Row"), (cL, .long), (cZ, .boolean)] [.ref (r 0), .int (nI cc)] (([((r 0), .inr (0, mf_M r (nI n) nw pb lc)), ((r 1), .inr (1, [.ref (r 2), .ref (r 3)])), ((r 2), .inl (cI, 8, .inl fm)), ((r 3), .inl (cI, 8, .inl fi)), ((r 4), .inl (cR, 80, .inr (.inr (.inr (.inr fr))))), ((r 5), .inl (cI, 80, .inl fl)), ((r 6), .inl (cI, 80, .inl fc)), ((r 7), .inl (cI, 8, .inl fg))] : va_W) ++ va_pl L f) sz) (va_Qv (fun u => ∀ k, k < 8 → u k = mr_wt PP (mr_ww fco fra) (mr_kd fki) n k) (fun (u : Nat → Int32) t => mr_W (dC, dI) [(cI, .int), (cR, .object "MeasureRows$Row"), (cL, .long), (cZ, .boolean)] (va_A (([((r 0), .inr (0, mf_M r (nI n) nw pb lc)), ((r 1), .inr (1, [.ref (r 2), .ref (r 3)])), ((r 2), .inl (cI, 8, .inl fm)), ((r 3), .inl (cI, 8, .inl fi)), ((r 4), .inl (cR, 80, .inr (.inr (.inr (.inr fr))))), ((r 5), .inl (cI, 80, .inl fl)), ((r 6), .inl (cI, 80, .inl fc)), ((r 7), .inl (cI, 8, .inl fg))] : va_W) ++ va_pl L f) sz) (([((r 0), .inr (0, mf_M r (nI n) nw pb lc)), ((r 1), .inr (1, [.ref (r 2), .ref (r 3)])), ((r 2), .inl (cI, 8, .inl fm)), ((r 3), .inl (cI, 8, .inl fi)), ((r 4), .inl (cR, 80, .inr (.inr (.inr (.inr fr))))), ((r 5), .inl (cI, 80, .inl fl)), ((r 6), .inl (cI, 80, .inl fc)), ((r 7), .inl (cI, 8, .inl u))] : va_W) ++ va_pl L f) t) (va_A (([((r 0), .inr (0, mf_M r (nI n) nw pb lc)), ((r 1), .inr (1, [.ref (r 2), .ref (r 3)])), ((r 2), .inl (cI, 8, .inl fm)), ((r 3), .inl (cI, 8, .inl fi)), ((r 4), .inl (cR, 80, .inr (.inr (.inr (.inr fr))))), ((r 5), .inl (cI, 80, .inl fl)), ((r 6), .inl (cI, 80, .inl fc)), ((r 7), .inl (cI, 8, .inl fg))] : va_W) ++ va_pl L f) sz)) 0 0 (va_A (([((r 0), .inr (0, mf_M r (nI n) nw pb lc)), ((r 1), .inr (1, [.ref (r 2), .ref (r 3)])), ((r 2), .inl (cI, 8, .inl fm)), ((r 3), .inl (cI, 8, .inl fi)), ((r 4), .inl (cR, 80, .inr (.inr (.inr (.inr fr))))), ((r 5), .inl (cI, 80, .inl fl)), ((r 6), .inl (cI, 80, .inl fc)), ((r 7), .inl (cI, 8, .inl fg))] : va_W) ++ va_pl L f) sz) := by
  refine Met.ofW (cc := b_M_weighKinds) (maxL := 4) (ret := none) (by decide) rfl ?_
  intro p e s m args below meth c s₁ B hml hv
  obtain ⟨rfl, hsz, hB, hK, hP, hD0⟩ := hv
  subst hsz
  have hA0 := mr_A hB hD0
  have hD := hD0.self (sz := s.heap.size)
  generalize hAe : va_A (([((r 0), .inr (0, mf_M r (nI n) nw pb lc)), ((r 1), .inr (1, [.ref (r 2), .ref (r 3)])), ((r 2), .inl (cI, 8, .inl fm)), ((r 3), .inl (cI, 8, .inl fi)), ((r 4), .inl (cR, 80, .inr (.inr (.inr (.inr fr))))), ((r 5), .inl (cI, 80, .inl fl)), ((r 6), .inl (cI, 80, .inl fc)), ((r 7), .inl (cI, 8, .inl fg))] : va_W) ++ va_pl L f) s.heap.size = A at hD hA0 ⊢
  have hA : ∀ q : Nat, s.heap.size ≤ q → A q := fun q h => by rw [← hAe]; exact Or.inr h
  have hS : va_S A s.heap s.heap [] := va_S.rf
  have hP : va_P (dC, dI) mr_cl (([((r 0), .inr (0, mf_M r (nI n) nw pb lc)), ((r 1), .inr (1, [.ref (r 2), .ref (r 3)])), ((r 2), .inl (cI, 8, .inl fm)), ((r 3), .inl (cI, 8, .inl fi)), ((r 4), .inl (cR, 80, .inr (.inr (.inr (.inr fr))))), ((r 5), .inl (cI, 80, .inl fl)), ((r 6), .inl (cI, 80, .inl fc)), ((r 7), .inl (cI, 8, .inl fg))] : va_W) ++ va_pl L f) s.heap := hP
  have hBH := hB.at hS hA0
  have hx := B.exec
  have hb := B.bytes
  have hr := B.returns
  have hlocks := B.notSynchronized
  have hts : ∀ w ∈ lw_tbl, w.before [.ref (r 0), .int (nI cc)].toArray s = true := hB.hts _
  have hown : s.vm.findClass "MeasureRows" = some m.cls := findClass_of_methodNamed B.named
  have hl := lv_entry ([.ref (r 0), .int (nI cc)]) (n := 4) (Nat.le_of_ble_eq_true rfl)
  rw [lg_entry_eq]
  generalize (lg_sl ([.ref (r 0), .int (nI cc)]) ++ List.replicate (4 - (lg_sl ([.ref (r 0), .int (nI cc)])).length) Slot.unset).toArray = ls at hl ⊢
  have hl : lv_has ls 4 [(0, .ref (r 0)), (1, .int (nI cc))] := hl
  refine lv_iconst (v := 0) hx hb d_M_weighKinds_0 (by decide) ?_
  refine lv_istore_n (lv' := [(2, .int 0), (0, .ref (r 0)), (1, .int (nI cc))]) hx hb d_M_weighKinds_1 rfl hl (by decide) rfl (fun ls hl => ?_)
  refine mr_loop (N := 8) (I := fun j H locs ls => ∃ fg9 : Nat → Int32, (∀ x, x < j → fg9 x = 0) ∧ va_P (dC, dI) mr_cl (([((r 0), .inr (0, mf_M r (nI n) nw pb lc)), ((r 1), .inr (1, [.ref (r 2), .ref (r 3)])), ((r 2), .inl (cI, 8, .inl fm)), ((r 3), .inl (cI, 8, .inl fi)), ((r 4), .inl (cR, 80, .inr (.inr (.inr (.inr fr))))), ((r 5), .inl (cI, 80, .inl fl)), ((r 6), .inl (cI, 80, .inl fc)), ((r 7), .inl (cI, 8, .inl fg9))] : va_W) ++ va_pl L f) H ∧ va_D A (([((r 0), .inr (0, mf_M r (nI n) nw pb lc)), ((r 1), .inr (1, [.ref (r 2), .ref (r 3)])), ((r 2), .inl (cI, 8, .inl fm)), ((r 3), .inl (cI, 8, .inl fi)), ((r 4), .inl (cR, 80, .inr (.inr (.inr (.inr fr))))), ((r 5), .inl (cI, 80, .inl fl)), ((r 6), .inl (cI, 80, .inl fc)), ((r 7), .inl (cI, 8, .inl fg9))] : va_W) ++ va_pl L f) ∧ va_S A s.heap H locs ∧ lv_has ls 4 [(2, .int (nI j)), (0, .ref (r 0)), (1, .int (nI cc))]) (fun j H locs ls hj hI9 ih => ?_) (fun H locs ls hI9 => ?_) 0 _ _ _ (Nat.zero_le _) ⟨fg, (fun x hx => absurd hx (Nat.not_lt_zero x)), hP, hD, hS, (lv_sub hl [0, 1, 2] rfl)⟩
  · obtain ⟨fg9, hexj, hP, hD, hS, hl⟩ := hI9
    have hBH := hB.at hS hA0
    refine lv_iload_n hx hb d_M_weighKinds_2 rfl (lv_at hl 0 rfl) ?_
    refine lv_bipush (v := 8) hx hb d_M_weighKinds_3 (by decide) ?_
    refine lv_icmp_ge (tgt := 21) hx hb d_M_weighKinds_5 (by decide) (fun c_1 => absurd c_1 (nI_ge (b := 8) hj (by decide))) (fun _ => ?_)
    refine lv_aload_n hx hb d_M_weighKinds_8 rfl (lv_at hl 1 rfl) ?_
    refine va_get (D := (dC, dI)) (ci := 0) (v := .ref (r 7)) (C := R_M) (T := T_M) (N := 9) hx hb hts ti_M hown hK hP 0 rfl rfl 8 (by decide) (hts (Cond.fieldLink "MeasureRows" 42 "MeasureRows" "greatestWeight" "[I") mw_63) (fun _ h9 => h9) rfl d_M_weighKinds_9 ?_
    refine lv_iload_n hx hb d_M_weighKinds_12 rfl (lv_at hl 0 rfl) ?_
    refine lv_iconst (v := 0) hx hb d_M_weighKinds_13 (by decide) ?_
    refine va_iast (D := (dC, dI)) hx hb hK hP hD hS 7 0 rfl rfl (i := nI j) (nI_in (by omega) (by decide)) d_M_weighKinds_14 (fun H locs hP hD hS => ?_)
    have hP : va_P (dC, dI) mr_cl (([((r 0), .inr (0, mf_M r (nI n) nw pb lc)), ((r 1), .inr (1, [.ref (r 2), .ref (r 3)])), ((r 2), .inl (cI, 8, .inl fm)), ((r 3), .inl (cI, 8, .inl fi)), ((r 4), .inl (cR, 80, .inr (.inr (.inr (.inr fr))))), ((r 5), .inl (cI, 80, .inl fl)), ((r 6), .inl (cI, 80, .inl fc)), ((r 7), .inl (cI, 8, .inl (upd fg9 (nI j).toNatClampNeg 0)))] : va_W) ++ va_pl L f) H := hP
    have hD : va_D A (([((r 0), .inr (0, mf_M r (nI n) nw pb lc)), ((r 1), .inr (1, [.ref (r 2), .ref (r 3)])), ((r 2), .inl (cI, 8, .inl fm)), ((r 3), .inl (cI, 8, .inl fi)), ((r 4), .inl (cR, 80, .inr (.inr (.inr (.inr fr))))), ((r 5), .inl (cI, 80, .inl fl)), ((r 6), .inl (cI, 80, .inl fc)), ((r 7), .inl (cI, 8, .inl (upd fg9 (nI j).toNatClampNeg 0)))] : va_W) ++ va_pl L f) := hD
    have hBH := hB.at hS hA0
    refine lv_iinc (v := nI (j + 1)) (lv' := [(2, .int (nI (j + 1))), (0, .ref (r 0)), (1, .int (nI cc))]) hx hb d_M_weighKinds_15 hl (k := 0) rfl ((nI_succ j).symm) (by decide) rfl (fun ls hl => ?_)
    refine lv_goto (tgt := 2) hx hb d_M_weighKinds_18 (by decide) ?_
    exact ih _ _ _ ⟨(upd fg9 (nI j).toNatClampNeg 0), (mr_z8 hexj hj), hP, hD, hS, lv_sub hl [0, 1, 2] rfl⟩
  · obtain ⟨fg9, hexj, hP, hD, hS, hl⟩ := hI9
    have hBH := hB.at hS hA0
    refine lv_iload_n hx hb d_M_weighKinds_2 rfl (lv_at hl 0 rfl) ?_
    refine lv_bipush (v := 8) hx hb d_M_weighKinds_3 (by decide) ?_
    refine lv_icmp_ge (tgt := 21) hx hb d_M_weighKinds_5 (by decide) (fun _ => ?_) (fun c_2 => absurd c_2 (by decide))
    refine lv_iconst (v := 0) hx hb d_M_weighKinds_21 (by decide) ?_
    refine lv_istore_n (lv' := [(2, .int 0), (0, .ref (r 0)), (1, .int (nI cc))]) hx hb d_M_weighKinds_22 rfl hl (by decide) rfl (fun ls hl => ?_)
    refine mr_loop (N := cc) (I := fun i H locs ls => ∃ fgb : Nat → Int32, ∃ M9 : Nat, (M9 ≤ n ∧ mr_cnt PP M9 = i ∧ ∀ k, k < 8 → fgb k = mr_wt PP (mr_ww fco fra) (mr_kd fki) M9 k) ∧ va_P (dC, dI) mr_cl (([((r 0), .inr (0, mf_M r (nI n) nw pb lc)), ((r 1), .inr (1, [.ref (r 2), .ref (r 3)])), ((r 2), .inl (cI, 8, .inl fm)), ((r 3), .inl (cI, 8, .inl fi)), ((r 4), .inl (cR, 80, .inr (.inr (.inr (.inr fr))))), ((r 5), .inl (cI, 80, .inl fl)), ((r 6), .inl (cI, 80, .inl fc)), ((r 7), .inl (cI, 8, .inl fgb))] : va_W) ++ va_pl L f) H ∧ va_D A (([((r 0), .inr (0, mf_M r (nI n) nw pb lc)), ((r 1), .inr (1, [.ref (r 2), .ref (r 3)])), ((r 2), .inl (cI, 8, .inl fm)), ((r 3), .inl (cI, 8, .inl fi)), ((r 4), .inl (cR, 80, .inr (.inr (.inr (.inr fr))))), ((r 5), .inl (cI, 80, .inl fl)), ((r 6), .inl (cI, 80, .inl fc)), ((r 7), .inl (cI, 8, .inl fgb))] : va_W) ++ va_pl L f) ∧ va_S A s.heap H locs ∧ lv_has ls 4 [(2, .int (nI i)), (0, .ref (r 0)), (1, .int (nI cc))]) (fun i H locs ls hi9 hI9 ih2 => ?_) (fun H locs ls hI9 => ?_) 0 _ _ _ (Nat.zero_le _) ⟨fg9, 0, ⟨Nat.zero_le _, rfl, fun k hk => hexj k hk⟩, hP, hD, hS, (lv_sub hl [0, 1, 2] rfl)⟩
    · obtain ⟨fgb, M9, hexi, hP, hD, hS, hl⟩ := hI9
      have hBH := hB.at hS hA0
      refine lv_iload_n hx hb d_M_weighKinds_23 rfl (lv_at hl 0 rfl) ?_
      refine lv_iload_n hx hb d_M_weighKinds_24 rfl (lv_at hl 2 rfl) ?_
      refine lv_icmp_ge (tgt := 74) hx hb d_M_weighKinds_25 (by decide) (fun c_3 => absurd c_3 (nI_ge hi9 (by omega))) (fun _ => ?_)
      obtain ⟨m9, hm1, hm2, hm3, hm4, hm5⟩ := mr_cand hexi.1 hexi.2.1 (by rw [← hcc]; exact hi9)
      have hft : fc i = nI (m9 + 1) := by have h9 := hfc m9 hm2 hm3; rw [hm4] at h9; exact h9
      refine lv_aload_n hx hb d_M_weighKinds_28 rfl (lv_at hl 1 rfl) ?_
      refine lv_aload_n hx hb d_M_weighKinds_29 rfl (lv_at hl 1 rfl) ?_
      refine va_get (D := (dC, dI)) (ci := 0) (v := .ref (r 6)) (C := R_M) (T := T_M) (N := 9) hx hb hts ti_M hown hK hP 0 rfl rfl 7 (by decide) (hts (Cond.fieldLink "MeasureRows" 39 "MeasureRows" "candidates" "[I") mw_62) (fun _ h9 => h9) rfl d_M_weighKinds_30 ?_
      refine lv_iload_n hx hb d_M_weighKinds_33 rfl (lv_at hl 0 rfl) ?_
      refine va_iald (D := (dC, dI)) hx hb hK hP 6 0 rfl rfl (i := nI i) (nI_in (by omega) (by decide)) d_M_weighKinds_34 ?_
      refine mr_top (show fc (nI i).toNatClampNeg = nI (m9 + 1) by rw [nI_clamp (by omega)]; exact hft) ?_
      refine va_csq (va_Run.run (va_runV (As := [.int (nI (m9 + 1))]) (rest := []) (C := R_M) ⟨hx, hb, hml, hown, hts⟩ (mc_M_find l s0 dC dI cI cR cL cZ r n nw pb lc fr (nI (m9 + 1)) hX.1) ⟨(mr_cB 1 (hts (Cond.code y_M_find b_M_find 2 (some (.object "MeasureRows$Row"))) mw_117) (hts (Cond.initialized y_M_find.cls) mw_118) (hts (Cond.methodLink "MeasureRows" 111 y_M_find) mw_119) rfl rfl (by decide +kernel) ⟨Nat.le_of_ble_eq_true rfl, Nat.le_of_ble_eq_true rfl⟩), (hts (Cond.instanceMethod y_M_find) mw_120), (hts (Cond.selects "MeasureRows" y_M_find y_M_find) mw_121)⟩ (mr_preV hBH hK (hP.sub (ws' := [((r 0), .inr (0, mf_M r (nI n) nw pb lc)), ((r 4), .inl (cR, 80, .inr (.inr (.inr (.inr fr)))))]) [0, 4] rfl) (ci := 0) (q0 := 0) rfl rfl) rfl rfl hl.1 rfl (lv_room (Nat.le_of_ble_eq_true rfl)) d_M_weighKinds_35 ⟨Nat.le_of_ble_eq_true rfl, Nat.le_of_ble_eq_true rfl⟩)) (fun r_4 h_5 => ?_)
      subst h_5
      obtain ⟨a_21, ql_21, qk_21, k_21, t_21, ld_21, kd_21, hf_21, hfi_21, m1_21, m2_21, m3_21, e1_21, e2_21, e3_21, hke_21, hte_21, hk_21, ht_21, ho_21, hne_21, hld_21⟩ := mr_fy hX hN (i := (m9 + 1)) (by omega) (by omega)
      refine mr_topv (show va_rf (mv_M_find n fr (nI (m9 + 1))) = .ref a_21 by rw [hf_21]; rfl) ?_
      have hPr_21 := mr_row3 (X := [((r 0), .inr (0, mf_M r (nI n) nw pb lc)), ((r 1), .inr (1, [.ref (r 2), .ref (r 3)])), ((r 2), .inl (cI, 8, .inl fm)), ((r 3), .inl (cI, 8, .inl fi)), ((r 4), .inl (cR, 80, .inr (.inr (.inr (.inr fr))))), ((r 5), .inl (cI, 80, .inl fl)), ((r 6), .inl (cI, 80, .inl fc)), ((r 7), .inl (cI, 8, .inl fgb))]) hP m1_21 m2_21 m3_21 e1_21 e2_21 e3_21
      refine lv_astore_n (lv' := [(3, .ref a_21), (2, .int (nI i)), (0, .ref (r 0)), (1, .int (nI cc))]) hx hb d_M_weighKinds_38 rfl hl (by decide) rfl (fun ls hl => ?_)
      refine lv_aload_n hx hb d_M_weighKinds_39 rfl (lv_at hl 0 rfl) ?_
      refine lv_ifnull hx hb d_M_weighKinds_40 ?_
      refine lv_aload_n hx hb d_M_weighKinds_43 rfl (lv_at hl 2 rfl) ?_
      refine va_get (D := (dC, dI)) (ci := 0) (v := .ref (r 7)) (C := R_M) (T := T_M) (N := 9) hx hb hts ti_M hown hK hP 0 rfl rfl 8 (by decide) (hts (Cond.fieldLink "MeasureRows" 42 "MeasureRows" "greatestWeight" "[I") mw_63) (fun _ h9 => h9) rfl d_M_weighKinds_44 ?_
      refine lv_aload_n hx hb d_M_weighKinds_47 rfl (lv_at hl 0 rfl) ?_
      refine va_get (D := (dC, dI)) (ci := 2) (v := .int (nI k_21)) (C := R_R) (T := T_R) (N := 11) hx hb hts ti_R hown hK hPr_21 0 rfl rfl 3 (by decide) (hts (Cond.fieldLink "MeasureRows" 164 "MeasureRows$Row" "kind" "I") mw_151) (fun _ h9 => h9) rfl d_M_weighKinds_48 ?_
      refine lv_aload_n hx hb d_M_weighKinds_51 rfl (lv_at hl 2 rfl) ?_
      refine va_get (D := (dC, dI)) (ci := 0) (v := .ref (r 7)) (C := R_M) (T := T_M) (N := 9) hx hb hts ti_M hown hK hP 0 rfl rfl 8 (by decide) (hts (Cond.fieldLink "MeasureRows" 42 "MeasureRows" "greatestWeight" "[I") mw_63) (fun _ h9 => h9) rfl d_M_weighKinds_52 ?_
      refine lv_aload_n hx hb d_M_weighKinds_55 rfl (lv_at hl 0 rfl) ?_
      refine va_get (D := (dC, dI)) (ci := 2) (v := .int (nI k_21)) (C := R_R) (T := T_R) (N := 11) hx hb hts ti_R hown hK hPr_21 0 rfl rfl 3 (by decide) (hts (Cond.fieldLink "MeasureRows" 164 "MeasureRows$Row" "kind" "I") mw_151) (fun _ h9 => h9) rfl d_M_weighKinds_56 ?_
      refine va_iald (D := (dC, dI)) hx hb hK hP 7 0 rfl rfl (i := nI k_21) (nI_in hk_21 (by decide)) d_M_weighKinds_59 ?_
      refine lv_aload_n hx hb d_M_weighKinds_60 rfl (lv_at hl 0 rfl) ?_
      refine vp_callSi (va_Run.run (va_runV (As := []) (rest := [.int (fgb (nI k_21).toNatClampNeg), .int (nI k_21), .ref (r 7)]) (C := R_R) ⟨hx, hb, hml, hown, hts⟩ (mc_R_weight l s0 dC dI cI cR cL cZ a_21 ql_21 qk_21 (fco (m9 + 1)) (fla (m9 + 1)) (ffi (m9 + 1)) (nI k_21) (fra (m9 + 1)) (fkn (m9 + 1)) (cls (m9 + 1)) (cpa (m9 + 1)) (nI t_21)) ⟨(mr_cB 0 (hts (Cond.code y_R_weight b_R_weight 1 (some .int)) mw_164) (hts (Cond.initialized y_R_weight.cls) mw_165) (hts (Cond.methodLink "MeasureRows" 210 y_R_weight) mw_166) rfl rfl (by decide +kernel) ⟨Nat.le_of_ble_eq_true rfl, Nat.le_of_ble_eq_true rfl⟩), (hts (Cond.instanceMethod y_R_weight) mw_167), (hts (Cond.selects "MeasureRows$Row" y_R_weight y_R_weight) mw_168)⟩ (mr_preV hBH hK (hPr_21.sub (ws' := [(a_21, .inr (2, [.int (fco (m9 + 1)), .int (fla (m9 + 1)), .int (ffi (m9 + 1)), .int (nI k_21), .int (fra (m9 + 1)), .int (fkn (m9 + 1)), .int (cls (m9 + 1)), .int (cpa (m9 + 1)), .int (nI t_21), .ref ql_21, .ref qk_21]))]) [0] rfl) (ci := 2) (q0 := 0) rfl rfl) rfl rfl hl.1 rfl (lv_room (Nat.le_of_ble_eq_true rfl)) d_M_weighKinds_61 ⟨Nat.le_of_ble_eq_true rfl, Nat.le_of_ble_eq_true rfl⟩)) (fun r_6 h_7 => ?_)
      subst h_7
      refine va_mmax hx hb (hml.trans hl.1.symm) hown (hts (Cond.methodLink "MeasureRows" 105 Lib.Math.max.name) mw_193) (hts (Cond.static Lib.Math.max.name) mw_194) (hts (Cond.initialized "java/lang/Math") mw_195) (hts (Cond.code Lib.Math.max.name Lib.Math.max.code 2 (some .int)) mw_196) (Nat.le_of_ble_eq_true rfl) (Nat.le_of_ble_eq_true rfl) (Nat.le_of_ble_eq_true rfl) (Nat.le_of_ble_eq_true rfl) d_M_weighKinds_64 ?_
      refine va_iast (D := (dC, dI)) hx hb hK hP hD hS 7 0 rfl rfl (i := nI k_21) (nI_in hk_21 (by decide)) d_M_weighKinds_67 (fun H locs hP hD hS => ?_)
      have hP : va_P (dC, dI) mr_cl (([((r 0), .inr (0, mf_M r (nI n) nw pb lc)), ((r 1), .inr (1, [.ref (r 2), .ref (r 3)])), ((r 2), .inl (cI, 8, .inl fm)), ((r 3), .inl (cI, 8, .inl fi)), ((r 4), .inl (cR, 80, .inr (.inr (.inr (.inr fr))))), ((r 5), .inl (cI, 80, .inl fl)), ((r 6), .inl (cI, 80, .inl fc)), ((r 7), .inl (cI, 8, .inl (upd fgb (nI k_21).toNatClampNeg (if (fgb (nI k_21).toNatClampNeg) < (mv_R_weight (fco (m9 + 1)) (fra (m9 + 1))) then (mv_R_weight (fco (m9 + 1)) (fra (m9 + 1))) else (fgb (nI k_21).toNatClampNeg)))))] : va_W) ++ va_pl L f) H := hP
      have hD : va_D A (([((r 0), .inr (0, mf_M r (nI n) nw pb lc)), ((r 1), .inr (1, [.ref (r 2), .ref (r 3)])), ((r 2), .inl (cI, 8, .inl fm)), ((r 3), .inl (cI, 8, .inl fi)), ((r 4), .inl (cR, 80, .inr (.inr (.inr (.inr fr))))), ((r 5), .inl (cI, 80, .inl fl)), ((r 6), .inl (cI, 80, .inl fc)), ((r 7), .inl (cI, 8, .inl (upd fgb (nI k_21).toNatClampNeg (if (fgb (nI k_21).toNatClampNeg) < (mv_R_weight (fco (m9 + 1)) (fra (m9 + 1))) then (mv_R_weight (fco (m9 + 1)) (fra (m9 + 1))) else (fgb (nI k_21).toNatClampNeg)))))] : va_W) ++ va_pl L f) := hD
      have hBH := hB.at hS hA0
      have hPr_21 := mr_row3 (X := [((r 0), .inr (0, mf_M r (nI n) nw pb lc)), ((r 1), .inr (1, [.ref (r 2), .ref (r 3)])), ((r 2), .inl (cI, 8, .inl fm)), ((r 3), .inl (cI, 8, .inl fi)), ((r 4), .inl (cR, 80, .inr (.inr (.inr (.inr fr))))), ((r 5), .inl (cI, 80, .inl fl)), ((r 6), .inl (cI, 80, .inl fc)), ((r 7), .inl (cI, 8, .inl (upd fgb (nI k_21).toNatClampNeg (if (fgb (nI k_21).toNatClampNeg) < (mv_R_weight (fco (m9 + 1)) (fra (m9 + 1))) then (mv_R_weight (fco (m9 + 1)) (fra (m9 + 1))) else (fgb (nI k_21).toNatClampNeg)))))]) hP m1_21 m2_21 m3_21 e1_21 e2_21 e3_21
      refine lv_iinc (v := nI (i + 1)) (lv' := [(2, .int (nI (i + 1))), (3, .ref a_21), (0, .ref (r 0)), (1, .int (nI cc))]) hx hb d_M_weighKinds_68 hl (k := 1) rfl ((nI_succ i).symm) (by decide) rfl (fun ls hl => ?_)
      refine lv_goto (tgt := 23) hx hb d_M_weighKinds_71 (by decide) ?_
      exact ih2 _ _ _ ⟨(upd fgb (nI k_21).toNatClampNeg (if (fgb (nI k_21).toNatClampNeg) < (mv_R_weight (fco (m9 + 1)) (fra (m9 + 1))) then (mv_R_weight (fco (m9 + 1)) (fra (m9 + 1))) else (fgb (nI k_21).toNatClampNeg))), (m9 + 1), ⟨by omega, by rw [mr_cnt_y hm3, hm4], mr_wtstep (w := (mr_ww fco fra)) hexi.2.2 hm1 hm5 hm3 (mr_kd_eq hke_21 hk_21) hk_21⟩, hP, hD, hS, lv_sub hl [0, 2, 3] rfl⟩
    · obtain ⟨fgb, M9, hexi, hP, hD, hS, hl⟩ := hI9
      have hBH := hB.at hS hA0
      refine lv_iload_n hx hb d_M_weighKinds_23 rfl (lv_at hl 0 rfl) ?_
      refine lv_iload_n hx hb d_M_weighKinds_24 rfl (lv_at hl 2 rfl) ?_
      refine lv_icmp_ge (tgt := 74) hx hb d_M_weighKinds_25 (by decide) (fun _ => ?_) (fun c_8 => absurd (Int32.le_refl _) c_8)
      have hen := mr_wt_flat' (P := PP) (w := (mr_ww fco fra)) (kd := (mr_kd fki)) hexi.1 (mr_cnt_eq0 hexi.1 (hexi.2.1.trans hcc))
      have hP9 := hP
      have hD9 := hD
      exact W.vret hx hb hr (fun t ht hW => ⟨⟨fgb, rfl, (by rw [hen]; exact hexi.2.2), by rw [ht]; exact hP9, va_K.moved hW.alike hK, hD9⟩, hS.F ht⟩) hS.2.2 d_M_weighKinds_74
