
def mv_M_isBeaten (fg : Nat → Int32) (vc vr : Int32) (k : Nat) : Int32 := if 4 ≤ (nI k) then 0 else if (fg (nI k).toNatClampNeg) ≤ (mv_R_weight vc vr) then 0 else 1
theorem mv_M_isBeaten_b (fg : Nat → Int32) (vc vr : Int32) (k : Nat) : mr_b01 (mv_M_isBeaten fg vc vr k ) := (mr_bi mr_b0 (mr_bi mr_b0 mr_b1))
set_option maxHeartbeats 4000000 in
set_option maxRecDepth 100000 in
theorem mc_M_isBeatenX (l : Launch) (s0 : State) (dC : Nat → ClassId) (dI : Nat → Nat → Nat) (cI cR cL cZ : ClassId) (r : Nat → Nat) (n : Nat) (nw pb lc : Int32) (fg : Nat → Int32) (q ql qk : Nat) (vc vp vf vr vn ve vw vt : Int32) (k : Nat) (hk : k < 8) : Met l y_M_isBeaten [Cond.code y_M_isBeaten b_M_isBeaten 2 (some .boolean)] ({ frames := 2, cells := 0, slots := 0, locals := 40 }) (mr_PW s0 (dC, dI) [(cI, .int), (cR, .object "MeasureRows$Row"), (cL, .long), (cZ, .boolean)] [.ref (r 0), .ref q] [((r 0), .inr (0, mf_M r (nI n) nw pb lc)), ((r 7), .inl (cI, 8, .inl fg)), (q, .inr (2, [.int vc, .int vp, .int vf, .int (nI k), .int vr, .int vn, .int ve, .int vw, .int vt, .ref ql, .ref qk]))]) (vp_Si (fun r => r = mv_M_isBeaten fg vc vr k )) 0 0 (fun _ => False) := by
  refine Met.ofW (cc := b_M_isBeaten) (maxL := 2) (ret := (some .boolean)) (by decide) rfl ?_
  intro p e s m args below meth c s₁ B hml hv
  obtain ⟨rfl, hB, hK, hP⟩ := hv
  have hBH := hB.here
  have hx := B.exec
  have hb := B.bytes
  have hr := B.returns
  have hlocks := B.notSynchronized
  have hts : ∀ w ∈ lw_tbl, w.before [.ref (r 0), .ref q].toArray s = true := hB.hts _
  have hown : s.vm.findClass "MeasureRows" = some m.cls := findClass_of_methodNamed B.named
  have hl := lv_entry ([.ref (r 0), .ref q]) (n := 2) (Nat.le_of_ble_eq_true rfl)
  rw [lg_entry_eq]
  generalize (lg_sl ([.ref (r 0), .ref q]) ++ List.replicate (2 - (lg_sl ([.ref (r 0), .ref q])).length) Slot.unset).toArray = ls at hl ⊢
  have hl : lv_has ls 2 [(0, .ref (r 0)), (1, .ref q)] := hl
  refine lv_aload_n hx hb d_M_isBeaten_0 rfl (lv_at hl 1 rfl) ?_
  refine va_get (D := (dC, dI)) (ci := 2) (v := .int (nI k)) (C := R_R) (T := T_R) (N := 11) hx hb hts ti_R hown hK hP 2 rfl rfl 3 (by decide) (hts (Cond.fieldLink "MeasureRows" 164 "MeasureRows$Row" "kind" "I") mw_151) (fun _ h9 => h9) rfl d_M_isBeaten_1 ?_
  refine lv_iconst (v := 4) hx hb d_M_isBeaten_4 (by decide) ?_
  refine lv_icmp_ge (tgt := 28) hx hb d_M_isBeaten_5 (by decide) (fun c_1 => ?_) (fun c_1 => ?_)
  · refine lv_iconst (v := 0) hx hb d_M_isBeaten_28 (by decide) ?_
    exact W.zret (v := 0) hx hb hr (mr_narz mr_b0) (fun t ht _ => ⟨_, rfl, by unfold mv_M_isBeaten; rw [if_pos c_1], ht⟩) (fun _ h => nomatch h) d_M_isBeaten_29
  · refine lv_aload_n hx hb d_M_isBeaten_8 rfl (lv_at hl 1 rfl) ?_
    refine vp_callSi (va_Run.run (va_runV (As := []) (rest := []) (C := R_R) ⟨hx, hb, hml, hown, hts⟩ (mc_R_weight l s0 dC dI cI cR cL cZ q ql qk vc vp vf (nI k) vr vn ve vw vt) ⟨(mr_cB 0 (hts (Cond.code y_R_weight b_R_weight 1 (some .int)) mw_164) (hts (Cond.initialized y_R_weight.cls) mw_165) (hts (Cond.methodLink "MeasureRows" 210 y_R_weight) mw_166) rfl rfl (by decide +kernel) ⟨Nat.le_of_ble_eq_true rfl, Nat.le_of_ble_eq_true rfl⟩), (hts (Cond.instanceMethod y_R_weight) mw_167), (hts (Cond.selects "MeasureRows$Row" y_R_weight y_R_weight) mw_168)⟩ (mr_preV hBH hK (hP.sub (ws' := [(q, .inr (2, [.int vc, .int vp, .int vf, .int (nI k), .int vr, .int vn, .int ve, .int vw, .int vt, .ref ql, .ref qk]))]) [2] rfl) (ci := 2) (q0 := 0) rfl rfl) rfl rfl hl.1 rfl (lv_room (Nat.le_of_ble_eq_true rfl)) d_M_isBeaten_9 ⟨Nat.le_of_ble_eq_true rfl, Nat.le_of_ble_eq_true rfl⟩)) (fun r_2 h_3 => ?_)
    subst h_3
    refine lv_aload_n hx hb d_M_isBeaten_12 rfl (lv_at hl 0 rfl) ?_
    refine va_get (D := (dC, dI)) (ci := 0) (v := .ref (r 7)) (C := R_M) (T := T_M) (N := 9) hx hb hts ti_M hown hK hP 0 rfl rfl 8 (by decide) (hts (Cond.fieldLink "MeasureRows" 42 "MeasureRows" "greatestWeight" "[I") mw_63) (fun _ h9 => h9) rfl d_M_isBeaten_13 ?_
    refine lv_aload_n hx hb d_M_isBeaten_16 rfl (lv_at hl 1 rfl) ?_
    refine va_get (D := (dC, dI)) (ci := 2) (v := .int (nI k)) (C := R_R) (T := T_R) (N := 11) hx hb hts ti_R hown hK hP 2 rfl rfl 3 (by decide) (hts (Cond.fieldLink "MeasureRows" 164 "MeasureRows$Row" "kind" "I") mw_151) (fun _ h9 => h9) rfl d_M_isBeaten_17 ?_
    refine va_iald (D := (dC, dI)) hx hb hK hP 1 0 rfl rfl (i := (nI k)) (nI_in hk (by decide)) d_M_isBeaten_20 ?_
    refine lv_icmp_ge (tgt := 28) hx hb d_M_isBeaten_21 (by decide) (fun c_4 => ?_) (fun c_4 => ?_)
    · refine lv_iconst (v := 0) hx hb d_M_isBeaten_28 (by decide) ?_
      exact W.zret (v := 0) hx hb hr (mr_narz mr_b0) (fun t ht _ => ⟨_, rfl, by unfold mv_M_isBeaten; rw [if_neg c_1, if_pos c_4], ht⟩) (fun _ h => nomatch h) d_M_isBeaten_29
    · refine lv_iconst (v := 1) hx hb d_M_isBeaten_24 (by decide) ?_
      refine lv_goto (tgt := 29) hx hb d_M_isBeaten_25 (by decide) ?_
      exact W.zret (v := 1) hx hb hr (mr_narz mr_b1) (fun t ht _ => ⟨_, rfl, by unfold mv_M_isBeaten; rw [if_neg c_1, if_neg c_4], ht⟩) (fun _ h => nomatch h) d_M_isBeaten_29
theorem mr_beat {fg : Nat → Int32} {vc vr : Int32} {k : Nat} (hk : k < 8) : mv_M_isBeaten fg vc vr k = 0 ↔ ¬ (k < 4 ∧ mv_R_weight vc vr < fg k) := by
  unfold mv_M_isBeaten
  rw [nI_clamp (by omega)]
  by_cases c1 : 4 ≤ nI k
  · have : ¬ k < 4 := fun h => absurd c1 (nI_ge (b := 4) h (by decide))
    simp [c1, this]
  · have h4 : k < 4 := Classical.byContradiction fun h => c1 (nI_le (a := 4) (by omega) (by omega))
    by_cases c2 : fg k ≤ mv_R_weight vc vr
    · have := Int32.not_lt.mpr c2
      simp [c1, c2, h4, this]
    · have := Int32.not_le.mp c2
      simp [c1, c2, h4, this]
set_option maxHeartbeats 4000000 in
set_option maxRecDepth 100000 in
theorem mc_M_listUnbeatenX (l : Launch) (s0 : State) (dC : Nat → ClassId) (dI : Nat → Nat → Nat) (cI cR cL cZ : ClassId) (r : Nat → Nat) (n : Nat) (nw pb lc : Int32) (fm fi : Nat → Int32) (fr : Nat → Option Nat) (fl fc fg : Nat → Int32) (L : List Nat) (f : Nat → va_E) (fco fla ffi fki fra fkn cls cpa fe fa fk : Nat → Int32) (cc : Nat) (PP : Nat → Int32) (sz : Nat)  (hc : cc ≤ 80) (hcc : cc = mr_cnt PP n) (hfc : ∀ m, m < n → ¬ PP m = 0 → fc (mr_cnt PP m) = nI (m + 1)) (hfg : ∀ k, k < 8 → fg k = mr_wt PP (mr_ww fco fra) (mr_kd fki) n k) (hX : mr_RX cI n L f fr fco fla ffi fki fra fkn cls cpa fe fa fk) (hN : mr_NX n nw fco fki fra fkn fe fk) : Met l y_M_listUnbeaten [Cond.code y_M_listUnbeaten b_M_listUnbeaten 5 none] ({ frames := 3, cells := 0, slots := 0, locals := 61 }) (mr_PC s0 (dC, dI) [(cI, .int), (cR, .object "MeasureRows$Row"), (cL, .long), (cZ, .boolean)] [.ref (r 0), .int (nI cc)] (([((r 0), .inr (0, mf_M r (nI n) nw pb lc)), ((r 1), .inr (1, [.ref (r 2), .ref (r 3)])), ((r 2), .inl (cI, 8, .inl fm)), ((r 3), .inl (cI, 8, .inl fi)), ((r 4), .inl (cR, 80, .inr (.inr (.inr (.inr fr))))), ((r 5), .inl (cI, 80, .inl fl)), ((r 6), .inl (cI, 80, .inl fc)), ((r 7), .inl (cI, 8, .inl fg))] : va_W) ++ va_pl L f) sz) (va_Qv (fun u => u.1 = mr_tot (mv_ub PP (mr_ww fco fra) (mr_kd fki) n) (mr_kd fki) n 8) (fun (u : Nat × (Nat → Int32)) t => mr_W (dC, dI) [(cI, .int), (cR, .object "MeasureRows$Row"), (cL, .long), (cZ, .boolean)] (va_A (([((r 0), .inr (0, mf_M r (nI n) nw pb lc)), ((r 1), .inr (1, [.ref (r 2), .ref (r 3)])), ((r 2), .inl (cI, 8, .inl fm)), ((r 3), .inl (cI, 8, .inl fi)), ((r 4), .inl (cR, 80, .inr (.inr (.inr (.inr fr))))), ((r 5), .inl (cI, 80, .inl fl)), ((r 6), .inl (cI, 80, .inl fc)), ((r 7), .inl (cI, 8, .inl fg))] : va_W) ++ va_pl L f) sz) (([((r 0), .inr (0, mf_M r (nI n) nw pb (nI u.1))), ((r 1), .inr (1, [.ref (r 2), .ref (r 3)])), ((r 2), .inl (cI, 8, .inl fm)), ((r 3), .inl (cI, 8, .inl fi)), ((r 4), .inl (cR, 80, .inr (.inr (.inr (.inr fr))))), ((r 5), .inl (cI, 80, .inl u.2)), ((r 6), .inl (cI, 80, .inl fc)), ((r 7), .inl (cI, 8, .inl fg))] : va_W) ++ va_pl L f) t) (va_A (([((r 0), .inr (0, mf_M r (nI n) nw pb lc)), ((r 1), .inr (1, [.ref (r 2), .ref (r 3)])), ((r 2), .inl (cI, 8, .inl fm)), ((r 3), .inl (cI, 8, .inl fi)), ((r 4), .inl (cR, 80, .inr (.inr (.inr (.inr fr))))), ((r 5), .inl (cI, 80, .inl fl)), ((r 6), .inl (cI, 80, .inl fc)), ((r 7), .inl (cI, 8, .inl fg))] : va_W) ++ va_pl L f) sz)) 0 0 (va_A (([((r 0), .inr (0, mf_M r (nI n) nw pb lc)), ((r 1), .inr (1, [.ref (r 2), .ref (r 3)])), ((r 2), .inl (cI, 8, .inl fm)), ((r 3), .inl (cI, 8, .inl fi)), ((r 4), .inl (cR, 80, .inr (.inr (.inr (.inr fr))))), ((r 5), .inl (cI, 80, .inl fl)), ((r 6), .inl (cI, 80, .inl fc)), ((r 7), .inl (cI, 8, .inl fg))] : va_W) ++ va_pl L f) sz) := by
  refine Met.ofW (cc := b_M_listUnbeaten) (maxL := 5) (ret := none) (by decide) rfl ?_
  intro p e s m args below meth c s₁ B hml hv
  obtain ⟨rfl, hsz, hB, hK, hP, hD0⟩ := hv
  subst hsz
  have hA0 := mr_A hB hD0
  have hD := hD0.self (sz := s.heap.size)
  generalize hAe : va_A (([((r 0), .inr (0, mf_M r (nI n) nw pb lc)), ((r 1), .inr (1, [.ref (r 2), .ref (r 3)])), ((r 2), .inl (cI, 8, .inl fm)), ((r 3), .inl (cI, 8, .inl fi)), ((r 4), .inl (cR, 80, .inr (.inr (.inr (.inr fr))))), ((r 5), .inl (cI, 80, .inl fl)), ((r 6), .inl (cI, 80, .inl fc)), ((r 7), .inl (cI, 8, .inl fg))] : va_W) ++ va_pl L f) s.heap.size = A at hD hA0 ⊢
  have hA : ∀ q : Nat, s.heap.size ≤ q → A q := fun q h => by rw [← hAe]; exact Or.inr h
  have hS : va_S A s.heap s.heap [] := va_S.rf
  have hP : va_P (dC, dI) mr_cl (([((r 0), .inr (0, mf_M r (nI n) nw pb lc)), ((r 1), .inr (1, [.ref (r 2), .ref (r 3)])), ((r 2), .inl (cI, 8, .inl fm)), ((r 3), .inl (cI, 8, .inl fi)), ((r 4), .inl (cR, 80, .inr (.inr (.inr (.inr fr))))), ((r 5), .inl (cI, 80, .inl fl)), ((r 6), .inl (cI, 80, .inl fc)), ((r 7), .inl (cI, 8, .inl fg))] : va_W) ++ va_pl L f) s.heap := hP
  have hBH := hB.at hS hA0
  have hx := B.exec
  have hb := B.bytes
  have hr := B.returns
  have hlocks := B.notSynchronized
  have hts : ∀ w ∈ lw_tbl, w.before [.ref (r 0), .int (nI cc)].toArray s = true := hB.hts _
  have hown : s.vm.findClass "MeasureRows" = some m.cls := findClass_of_methodNamed B.named
  have hl := lv_entry ([.ref (r 0), .int (nI cc)]) (n := 5) (Nat.le_of_ble_eq_true rfl)
  rw [lg_entry_eq]
  generalize (lg_sl ([.ref (r 0), .int (nI cc)]) ++ List.replicate (5 - (lg_sl ([.ref (r 0), .int (nI cc)])).length) Slot.unset).toArray = ls at hl ⊢
  have hl : lv_has ls 5 [(0, .ref (r 0)), (1, .int (nI cc))] := hl
  refine lv_aload_n hx hb d_M_listUnbeaten_0 rfl (lv_at hl 0 rfl) ?_
  refine lv_iconst (v := 0) hx hb d_M_listUnbeaten_1 (by decide) ?_
  refine va_put (D := (dC, dI)) (ci := 0) (v := .int 0) (ty := .int) (C := R_M) (T := T_M) (N := 9) hx hb hts ti_M t_M to_M tn_M hown hK hP hD hS 0 rfl rfl 6 (by decide) (hts (Cond.fieldLink "MeasureRows" 36 "MeasureRows" "listedCount" "I") mw_61) (fun _ h9 => h9) rfl (by decide +kernel) rfl rfl (Nat.le_of_ble_eq_true rfl) d_M_listUnbeaten_2 (fun H locs hP hD hS => ?_)
  have hP : va_P (dC, dI) mr_cl (([((r 0), .inr (0, mf_M r (nI n) nw pb 0)), ((r 1), .inr (1, [.ref (r 2), .ref (r 3)])), ((r 2), .inl (cI, 8, .inl fm)), ((r 3), .inl (cI, 8, .inl fi)), ((r 4), .inl (cR, 80, .inr (.inr (.inr (.inr fr))))), ((r 5), .inl (cI, 80, .inl fl)), ((r 6), .inl (cI, 80, .inl fc)), ((r 7), .inl (cI, 8, .inl fg))] : va_W) ++ va_pl L f) H := hP
  have hD : va_D A (([((r 0), .inr (0, mf_M r (nI n) nw pb 0)), ((r 1), .inr (1, [.ref (r 2), .ref (r 3)])), ((r 2), .inl (cI, 8, .inl fm)), ((r 3), .inl (cI, 8, .inl fi)), ((r 4), .inl (cR, 80, .inr (.inr (.inr (.inr fr))))), ((r 5), .inl (cI, 80, .inl fl)), ((r 6), .inl (cI, 80, .inl fc)), ((r 7), .inl (cI, 8, .inl fg))] : va_W) ++ va_pl L f) := hD
  have hBH := hB.at hS hA0
  refine lv_iconst (v := 0) hx hb d_M_listUnbeaten_5 (by decide) ?_
  refine lv_istore_n (lv' := [(2, .int 0), (0, .ref (r 0)), (1, .int (nI cc))]) hx hb d_M_listUnbeaten_6 rfl hl (by decide) rfl (fun ls hl => ?_)
  refine mr_loop (N := 8) (I := fun j H locs ls => ∃ q8 : Nat, ∃ ft8 : Nat → Int32, (q8 = mr_tot (mv_ub PP (mr_ww fco fra) (mr_kd fki) n) (mr_kd fki) n j) ∧ va_P (dC, dI) mr_cl (([((r 0), .inr (0, mf_M r (nI n) nw pb (nI q8))), ((r 1), .inr (1, [.ref (r 2), .ref (r 3)])), ((r 2), .inl (cI, 8, .inl fm)), ((r 3), .inl (cI, 8, .inl fi)), ((r 4), .inl (cR, 80, .inr (.inr (.inr (.inr fr))))), ((r 5), .inl (cI, 80, .inl ft8)), ((r 6), .inl (cI, 80, .inl fc)), ((r 7), .inl (cI, 8, .inl fg))] : va_W) ++ va_pl L f) H ∧ va_D A (([((r 0), .inr (0, mf_M r (nI n) nw pb (nI q8))), ((r 1), .inr (1, [.ref (r 2), .ref (r 3)])), ((r 2), .inl (cI, 8, .inl fm)), ((r 3), .inl (cI, 8, .inl fi)), ((r 4), .inl (cR, 80, .inr (.inr (.inr (.inr fr))))), ((r 5), .inl (cI, 80, .inl ft8)), ((r 6), .inl (cI, 80, .inl fc)), ((r 7), .inl (cI, 8, .inl fg))] : va_W) ++ va_pl L f) ∧ va_S A s.heap H locs ∧ lv_has ls 5 [(2, .int (nI j)), (0, .ref (r 0)), (1, .int (nI cc))]) (fun j H locs ls hj hI9 ih => ?_) (fun H locs ls hI9 => ?_) 0 _ _ _ (Nat.zero_le _) ⟨0, fl, rfl, hP, hD, hS, (lv_sub hl [0, 1, 2] rfl)⟩
  · obtain ⟨q8, ft8, hexj, hP, hD, hS, hl⟩ := hI9
    have hBH := hB.at hS hA0
    refine lv_iload_n hx hb d_M_listUnbeaten_7 rfl (lv_at hl 0 rfl) ?_
    refine lv_bipush (v := 8) hx hb d_M_listUnbeaten_8 (by decide) ?_
    refine lv_icmp_ge (tgt := 92) hx hb d_M_listUnbeaten_10 (by decide) (fun c_1 => absurd c_1 (nI_ge (b := 8) hj (by decide))) (fun _ => ?_)
    refine lv_iconst (v := 0) hx hb d_M_listUnbeaten_13 (by decide) ?_
    refine lv_istore_n (lv' := [(3, .int 0), (2, .int (nI j)), (0, .ref (r 0)), (1, .int (nI cc))]) hx hb d_M_listUnbeaten_14 rfl hl (by decide) rfl (fun ls hl => ?_)
    refine mr_loop (N := cc) (I := fun i H locs ls => ∃ q9 : Nat, ∃ ft9 : Nat → Int32, ∃ M9 : Nat, (M9 ≤ n ∧ mr_cnt PP M9 = i ∧ q9 = mr_tot (mv_ub PP (mr_ww fco fra) (mr_kd fki) n) (mr_kd fki) n j + mr_cnt (mr_ofk (mv_ub PP (mr_ww fco fra) (mr_kd fki) n) (mr_kd fki) j) M9) ∧ va_P (dC, dI) mr_cl (([((r 0), .inr (0, mf_M r (nI n) nw pb (nI q9))), ((r 1), .inr (1, [.ref (r 2), .ref (r 3)])), ((r 2), .inl (cI, 8, .inl fm)), ((r 3), .inl (cI, 8, .inl fi)), ((r 4), .inl (cR, 80, .inr (.inr (.inr (.inr fr))))), ((r 5), .inl (cI, 80, .inl ft9)), ((r 6), .inl (cI, 80, .inl fc)), ((r 7), .inl (cI, 8, .inl fg))] : va_W) ++ va_pl L f) H ∧ va_D A (([((r 0), .inr (0, mf_M r (nI n) nw pb (nI q9))), ((r 1), .inr (1, [.ref (r 2), .ref (r 3)])), ((r 2), .inl (cI, 8, .inl fm)), ((r 3), .inl (cI, 8, .inl fi)), ((r 4), .inl (cR, 80, .inr (.inr (.inr (.inr fr))))), ((r 5), .inl (cI, 80, .inl ft9)), ((r 6), .inl (cI, 80, .inl fc)), ((r 7), .inl (cI, 8, .inl fg))] : va_W) ++ va_pl L f) ∧ va_S A s.heap H locs ∧ lv_has ls 5 [(3, .int (nI i)), (2, .int (nI j)), (0, .ref (r 0)), (1, .int (nI cc))]) (fun i H locs ls hi9 hI9 ih2 => ?_) (fun H locs ls hI9 => ?_) 0 _ _ _ (Nat.zero_le _) ⟨q8, ft8, 0, ⟨Nat.zero_le _, rfl, hexj⟩, hP, hD, hS, (lv_sub hl [0, 1, 2, 3] rfl)⟩
    · obtain ⟨q9, ft9, M9, hexi, hP, hD, hS, hl⟩ := hI9
      have hBH := hB.at hS hA0
      refine lv_iload_n hx hb d_M_listUnbeaten_15 rfl (lv_at hl 0 rfl) ?_
      refine lv_iload_n hx hb d_M_listUnbeaten_16 rfl (lv_at hl 3 rfl) ?_
      refine lv_icmp_ge (tgt := 86) hx hb d_M_listUnbeaten_17 (by decide) (fun c_2 => absurd c_2 (nI_ge hi9 (by omega))) (fun _ => ?_)
      obtain ⟨m9, hm1, hm2, hm3, hm4, hm5⟩ := mr_cand hexi.1 hexi.2.1 (by rw [← hcc]; exact hi9)
      have hft : fc i = nI (m9 + 1) := by have h9 := hfc m9 hm2 hm3; rw [hm4] at h9; exact h9
      refine lv_aload_n hx hb d_M_listUnbeaten_20 rfl (lv_at hl 2 rfl) ?_
      refine lv_aload_n hx hb d_M_listUnbeaten_21 rfl (lv_at hl 2 rfl) ?_
      refine va_get (D := (dC, dI)) (ci := 0) (v := .ref (r 6)) (C := R_M) (T := T_M) (N := 9) hx hb hts ti_M hown hK hP 0 rfl rfl 7 (by decide) (hts (Cond.fieldLink "MeasureRows" 39 "MeasureRows" "candidates" "[I") mw_62) (fun _ h9 => h9) rfl d_M_listUnbeaten_22 ?_
      refine lv_iload_n hx hb d_M_listUnbeaten_25 rfl (lv_at hl 0 rfl) ?_
      refine va_iald (D := (dC, dI)) hx hb hK hP 6 0 rfl rfl (i := nI i) (nI_in (by omega) (by decide)) d_M_listUnbeaten_26 ?_
      refine mr_top (show fc (nI i).toNatClampNeg = nI (m9 + 1) by rw [nI_clamp (by omega)]; exact hft) ?_
      refine va_csq (va_Run.run (va_runV (As := [.int (nI (m9 + 1))]) (rest := []) (C := R_M) ⟨hx, hb, hml, hown, hts⟩ (mc_M_find l s0 dC dI cI cR cL cZ r n nw pb (nI q9) fr (nI (m9 + 1)) hX.1) ⟨(mr_cB 1 (hts (Cond.code y_M_find b_M_find 2 (some (.object "MeasureRows$Row"))) mw_117) (hts (Cond.initialized y_M_find.cls) mw_118) (hts (Cond.methodLink "MeasureRows" 111 y_M_find) mw_119) rfl rfl (by decide +kernel) ⟨Nat.le_of_ble_eq_true rfl, Nat.le_of_ble_eq_true rfl⟩), (hts (Cond.instanceMethod y_M_find) mw_120), (hts (Cond.selects "MeasureRows" y_M_find y_M_find) mw_121)⟩ (mr_preV hBH hK (hP.sub (ws' := [((r 0), .inr (0, mf_M r (nI n) nw pb (nI q9))), ((r 4), .inl (cR, 80, .inr (.inr (.inr (.inr fr)))))]) [0, 4] rfl) (ci := 0) (q0 := 0) rfl rfl) rfl rfl hl.1 rfl (lv_room (Nat.le_of_ble_eq_true rfl)) d_M_listUnbeaten_27 ⟨Nat.le_of_ble_eq_true rfl, Nat.le_of_ble_eq_true rfl⟩)) (fun r_3 h_4 => ?_)
      subst h_4
      obtain ⟨a_22, ql_22, qk_22, k_22, t_22, ld_22, kd_22, hf_22, hfi_22, m1_22, m2_22, m3_22, e1_22, e2_22, e3_22, hke_22, hte_22, hk_22, ht_22, ho_22, hne_22, hld_22⟩ := mr_fy hX hN (i := (m9 + 1)) (by omega) (by omega)
      refine mr_topv (show va_rf (mv_M_find n fr (nI (m9 + 1))) = .ref a_22 by rw [hf_22]; rfl) ?_
      have hPr_22 := mr_row3 (X := [((r 0), .inr (0, mf_M r (nI n) nw pb (nI q9))), ((r 1), .inr (1, [.ref (r 2), .ref (r 3)])), ((r 2), .inl (cI, 8, .inl fm)), ((r 3), .inl (cI, 8, .inl fi)), ((r 4), .inl (cR, 80, .inr (.inr (.inr (.inr fr))))), ((r 5), .inl (cI, 80, .inl ft9)), ((r 6), .inl (cI, 80, .inl fc)), ((r 7), .inl (cI, 8, .inl fg))]) hP m1_22 m2_22 m3_22 e1_22 e2_22 e3_22
      refine lv_astore (lv' := [(4, .ref a_22), (3, .int (nI i)), (2, .int (nI j)), (0, .ref (r 0)), (1, .int (nI cc))]) hx hb d_M_listUnbeaten_30 hl (by decide) rfl (fun ls hl => ?_)
      refine lv_aload hx hb d_M_listUnbeaten_32 (lv_at hl 0 rfl) ?_
      refine lv_ifnull hx hb d_M_listUnbeaten_34 ?_
      refine lv_aload hx hb d_M_listUnbeaten_37 (lv_at hl 0 rfl) ?_
      refine va_get (D := (dC, dI)) (ci := 2) (v := .int (nI k_22)) (C := R_R) (T := T_R) (N := 11) hx hb hts ti_R hown hK hPr_22 0 rfl rfl 3 (by decide) (hts (Cond.fieldLink "MeasureRows" 164 "MeasureRows$Row" "kind" "I") mw_151) (fun _ h9 => h9) rfl d_M_listUnbeaten_39 ?_
      refine lv_iload_n hx hb d_M_listUnbeaten_42 rfl (lv_at hl 2 rfl) ?_
      refine lv_icmp_ne (tgt := 80) hx hb d_M_listUnbeaten_43 (by decide) (fun c_5 => ?_) (fun c_5 => ?_)
      · refine lv_iinc (v := nI (i + 1)) (lv' := [(3, .int (nI (i + 1))), (4, .ref a_22), (2, .int (nI j)), (0, .ref (r 0)), (1, .int (nI cc))]) hx hb d_M_listUnbeaten_80 hl (k := 1) rfl ((nI_succ i).symm) (by decide) rfl (fun ls hl => ?_)
        refine lv_goto (tgt := 15) hx hb d_M_listUnbeaten_83 (by decide) ?_
        have hz9 := mr_ubK (P := PP) (w := (mr_ww fco fra)) (n := n) (kd := (mr_kd fki)) (j := j) (by rw [(mr_kd_eq hke_22 hk_22)]; intro e; exact c_5 (by rw [e]))
        exact ih2 _ _ _ ⟨q9, ft9, (m9 + 1), ⟨by omega, by rw [mr_cnt_y hm3, hm4], by rw [mr_cnt_n hz9, mr_ubflat hm1 hm5]; exact hexi.2.2⟩, hP, hD, hS, lv_sub hl [0, 2, 3, 4] rfl⟩
      · refine lv_aload_n hx hb d_M_listUnbeaten_46 rfl (lv_at hl 3 rfl) ?_
        refine lv_aload hx hb d_M_listUnbeaten_47 (lv_at hl 0 rfl) ?_
        refine vp_callSi (va_Run.run (va_runV (As := [.ref a_22]) (rest := []) (C := R_M) ⟨hx, hb, hml, hown, hts⟩ (mc_M_isBeatenX l s0 dC dI cI cR cL cZ r n nw pb (nI q9) fg a_22 ql_22 qk_22 (fco (m9 + 1)) (fla (m9 + 1)) (ffi (m9 + 1)) (fra (m9 + 1)) (fkn (m9 + 1)) (cls (m9 + 1)) (cpa (m9 + 1)) (nI t_22) k_22 hk_22) ⟨(mr_cB 1 (hts (Cond.code y_M_isBeaten b_M_isBeaten 2 (some .boolean)) mw_214) (hts (Cond.initialized y_M_isBeaten.cls) mw_215) (hts (Cond.methodLink "MeasureRows" 214 y_M_isBeaten) mw_216) rfl rfl (by decide +kernel) ⟨Nat.le_of_ble_eq_true rfl, Nat.le_of_ble_eq_true rfl⟩), (hts (Cond.instanceMethod y_M_isBeaten) mw_217), (hts (Cond.selects "MeasureRows" y_M_isBeaten y_M_isBeaten) mw_218)⟩ (mr_preV hBH hK ((hP.sub (ws' := [((r 0), .inr (0, mf_M r (nI n) nw pb (nI q9))), ((r 7), .inl (cI, 8, .inl fg))]) [0, 7] rfl).app (hPr_22.sub (ws' := [(a_22, .inr (2, [.int (fco (m9 + 1)), .int (fla (m9 + 1)), .int (ffi (m9 + 1)), .int (nI k_22), .int (fra (m9 + 1)), .int (fkn (m9 + 1)), .int (cls (m9 + 1)), .int (cpa (m9 + 1)), .int (nI t_22), .ref ql_22, .ref qk_22]))]) [0] rfl)) (ci := 0) (q0 := 0) rfl rfl) rfl rfl hl.1 rfl (lv_room (Nat.le_of_ble_eq_true rfl)) d_M_listUnbeaten_49 ⟨Nat.le_of_ble_eq_true rfl, Nat.le_of_ble_eq_true rfl⟩)) (fun r_6 h_7 => ?_)
        subst h_7
        refine lv_if_ne (tgt := 80) hx hb d_M_listUnbeaten_52 (by decide) (fun c_8 => ?_) (fun c_8 => ?_)
        · refine lv_iinc (v := nI (i + 1)) (lv' := [(3, .int (nI (i + 1))), (4, .ref a_22), (2, .int (nI j)), (0, .ref (r 0)), (1, .int (nI cc))]) hx hb d_M_listUnbeaten_80 hl (k := 1) rfl ((nI_succ i).symm) (by decide) rfl (fun ls hl => ?_)
          refine lv_goto (tgt := 15) hx hb d_M_listUnbeaten_83 (by decide) ?_
          have hz9 := mr_ubB (P := PP) (w := (mr_ww fco fra)) (n := n) (kd := (mr_kd fki)) (j := j) (m := m9) (by rw [(mr_kd_eq hke_22 hk_22), ← hfg k_22 hk_22]; exact Classical.byContradiction fun h => c_8 ((mr_beat hk_22).mpr h))
          exact ih2 _ _ _ ⟨q9, ft9, (m9 + 1), ⟨by omega, by rw [mr_cnt_y hm3, hm4], by rw [mr_cnt_n hz9, mr_ubflat hm1 hm5]; exact hexi.2.2⟩, hP, hD, hS, lv_sub hl [0, 2, 3, 4] rfl⟩
        · have hkj : k_22 = j := mr_kk c_5 hk_22 hj
          have hz9 := mr_ubY (P := PP) (w := (mr_ww fco fra)) (n := n) (kd := (mr_kd fki)) (j := j) (m := m9) ((mr_kd_eq hke_22 hk_22).trans hkj) hm3 (by rw [(mr_kd_eq hke_22 hk_22), ← hfg k_22 hk_22]; exact (mr_beat hk_22).mp c_8)
          have hb9 : q9 < 80 := by have h9 := mr_totle (P := PP) (w := (mr_ww fco fra)) (kd := (mr_kd fki)) (n := n) 8 (m9 + 1) j hj (by omega); rw [mr_cnt_y hz9, mr_ubflat hm1 hm5] at h9; have := hexi.2.2; have := hX.1; omega
          refine lv_aload_n hx hb d_M_listUnbeaten_55 rfl (lv_at hl 3 rfl) ?_
          refine va_get (D := (dC, dI)) (ci := 0) (v := .ref (r 5)) (C := R_M) (T := T_M) (N := 9) hx hb hts ti_M hown hK hP 0 rfl rfl 5 (by decide) (hts (Cond.fieldLink "MeasureRows" 32 "MeasureRows" "listed" "[I") mw_60) (fun _ h9 => h9) rfl d_M_listUnbeaten_56 ?_
          refine lv_aload_n hx hb d_M_listUnbeaten_59 rfl (lv_at hl 3 rfl) ?_
          refine va_get (D := (dC, dI)) (ci := 0) (v := .int (nI q9)) (C := R_M) (T := T_M) (N := 9) hx hb hts ti_M hown hK hP 0 rfl rfl 6 (by decide) (hts (Cond.fieldLink "MeasureRows" 36 "MeasureRows" "listedCount" "I") mw_61) (fun _ h9 => h9) rfl d_M_listUnbeaten_60 ?_
          refine lv_aload_n hx hb d_M_listUnbeaten_63 rfl (lv_at hl 3 rfl) ?_
          refine va_get (D := (dC, dI)) (ci := 0) (v := .ref (r 6)) (C := R_M) (T := T_M) (N := 9) hx hb hts ti_M hown hK hP 0 rfl rfl 7 (by decide) (hts (Cond.fieldLink "MeasureRows" 39 "MeasureRows" "candidates" "[I") mw_62) (fun _ h9 => h9) rfl d_M_listUnbeaten_64 ?_
          refine lv_iload_n hx hb d_M_listUnbeaten_67 rfl (lv_at hl 1 rfl) ?_
          refine va_iald (D := (dC, dI)) hx hb hK hP 6 0 rfl rfl (i := nI i) (nI_in (by omega) (by decide)) d_M_listUnbeaten_68 ?_
          refine mr_top (show fc (nI i).toNatClampNeg = nI (m9 + 1) by rw [nI_clamp (by omega)]; exact hft) ?_
          refine va_iast (D := (dC, dI)) hx hb hK hP hD hS 5 0 rfl rfl (i := (nI q9)) (nI_in hb9 (by decide)) d_M_listUnbeaten_69 (fun H locs hP hD hS => ?_)
          have hP : va_P (dC, dI) mr_cl (([((r 0), .inr (0, mf_M r (nI n) nw pb (nI q9))), ((r 1), .inr (1, [.ref (r 2), .ref (r 3)])), ((r 2), .inl (cI, 8, .inl fm)), ((r 3), .inl (cI, 8, .inl fi)), ((r 4), .inl (cR, 80, .inr (.inr (.inr (.inr fr))))), ((r 5), .inl (cI, 80, .inl (upd ft9 (nI q9).toNatClampNeg (nI (m9 + 1))))), ((r 6), .inl (cI, 80, .inl fc)), ((r 7), .inl (cI, 8, .inl fg))] : va_W) ++ va_pl L f) H := hP
          have hD : va_D A (([((r 0), .inr (0, mf_M r (nI n) nw pb (nI q9))), ((r 1), .inr (1, [.ref (r 2), .ref (r 3)])), ((r 2), .inl (cI, 8, .inl fm)), ((r 3), .inl (cI, 8, .inl fi)), ((r 4), .inl (cR, 80, .inr (.inr (.inr (.inr fr))))), ((r 5), .inl (cI, 80, .inl (upd ft9 (nI q9).toNatClampNeg (nI (m9 + 1))))), ((r 6), .inl (cI, 80, .inl fc)), ((r 7), .inl (cI, 8, .inl fg))] : va_W) ++ va_pl L f) := hD
          have hBH := hB.at hS hA0
          have hPr_22 := mr_row3 (X := [((r 0), .inr (0, mf_M r (nI n) nw pb (nI q9))), ((r 1), .inr (1, [.ref (r 2), .ref (r 3)])), ((r 2), .inl (cI, 8, .inl fm)), ((r 3), .inl (cI, 8, .inl fi)), ((r 4), .inl (cR, 80, .inr (.inr (.inr (.inr fr))))), ((r 5), .inl (cI, 80, .inl (upd ft9 (nI q9).toNatClampNeg (nI (m9 + 1))))), ((r 6), .inl (cI, 80, .inl fc)), ((r 7), .inl (cI, 8, .inl fg))]) hP m1_22 m2_22 m3_22 e1_22 e2_22 e3_22
          refine lv_aload_n hx hb d_M_listUnbeaten_70 rfl (lv_at hl 3 rfl) ?_
          refine lv_dup hx hb d_M_listUnbeaten_71 rfl ?_
          refine va_get (D := (dC, dI)) (ci := 0) (v := .int (nI q9)) (C := R_M) (T := T_M) (N := 9) hx hb hts ti_M hown hK hP 0 rfl rfl 6 (by decide) (hts (Cond.fieldLink "MeasureRows" 36 "MeasureRows" "listedCount" "I") mw_61) (fun _ h9 => h9) rfl d_M_listUnbeaten_72 ?_
          refine lv_iconst (v := 1) hx hb d_M_listUnbeaten_75 (by decide) ?_
          refine lv_iadd hx hb d_M_listUnbeaten_76 ?_
          refine mr_top (nI_1 q9) ?_
          refine va_put (D := (dC, dI)) (ci := 0) (v := .int (nI (q9 + 1))) (ty := .int) (C := R_M) (T := T_M) (N := 9) hx hb hts ti_M t_M to_M tn_M hown hK hP hD hS 0 rfl rfl 6 (by decide) (hts (Cond.fieldLink "MeasureRows" 36 "MeasureRows" "listedCount" "I") mw_61) (fun _ h9 => h9) rfl (by decide +kernel) rfl rfl (Nat.le_of_ble_eq_true rfl) d_M_listUnbeaten_77 (fun H locs hP hD hS => ?_)
          have hP : va_P (dC, dI) mr_cl (([((r 0), .inr (0, mf_M r (nI n) nw pb (nI (q9 + 1)))), ((r 1), .inr (1, [.ref (r 2), .ref (r 3)])), ((r 2), .inl (cI, 8, .inl fm)), ((r 3), .inl (cI, 8, .inl fi)), ((r 4), .inl (cR, 80, .inr (.inr (.inr (.inr fr))))), ((r 5), .inl (cI, 80, .inl (upd ft9 (nI q9).toNatClampNeg (nI (m9 + 1))))), ((r 6), .inl (cI, 80, .inl fc)), ((r 7), .inl (cI, 8, .inl fg))] : va_W) ++ va_pl L f) H := hP
          have hD : va_D A (([((r 0), .inr (0, mf_M r (nI n) nw pb (nI (q9 + 1)))), ((r 1), .inr (1, [.ref (r 2), .ref (r 3)])), ((r 2), .inl (cI, 8, .inl fm)), ((r 3), .inl (cI, 8, .inl fi)), ((r 4), .inl (cR, 80, .inr (.inr (.inr (.inr fr))))), ((r 5), .inl (cI, 80, .inl (upd ft9 (nI q9).toNatClampNeg (nI (m9 + 1))))), ((r 6), .inl (cI, 80, .inl fc)), ((r 7), .inl (cI, 8, .inl fg))] : va_W) ++ va_pl L f) := hD
          have hBH := hB.at hS hA0
          have hPr_22 := mr_row3 (X := [((r 0), .inr (0, mf_M r (nI n) nw pb (nI (q9 + 1)))), ((r 1), .inr (1, [.ref (r 2), .ref (r 3)])), ((r 2), .inl (cI, 8, .inl fm)), ((r 3), .inl (cI, 8, .inl fi)), ((r 4), .inl (cR, 80, .inr (.inr (.inr (.inr fr))))), ((r 5), .inl (cI, 80, .inl (upd ft9 (nI q9).toNatClampNeg (nI (m9 + 1))))), ((r 6), .inl (cI, 80, .inl fc)), ((r 7), .inl (cI, 8, .inl fg))]) hP m1_22 m2_22 m3_22 e1_22 e2_22 e3_22
          refine lv_iinc (v := nI (i + 1)) (lv' := [(3, .int (nI (i + 1))), (4, .ref a_22), (2, .int (nI j)), (0, .ref (r 0)), (1, .int (nI cc))]) hx hb d_M_listUnbeaten_80 hl (k := 1) rfl ((nI_succ i).symm) (by decide) rfl (fun ls hl => ?_)
          refine lv_goto (tgt := 15) hx hb d_M_listUnbeaten_83 (by decide) ?_
          exact ih2 _ _ _ ⟨(q9 + 1), (upd ft9 (nI q9).toNatClampNeg (nI (m9 + 1))), (m9 + 1), ⟨by omega, by rw [mr_cnt_y hm3, hm4], by have h9 := hexi.2.2; rw [mr_cnt_y hz9, mr_ubflat hm1 hm5]; omega⟩, hP, hD, hS, lv_sub hl [0, 2, 3, 4] rfl⟩
    · obtain ⟨q9, ft9, M9, hexi, hP, hD, hS, hl⟩ := hI9
      have hBH := hB.at hS hA0
      refine lv_iload_n hx hb d_M_listUnbeaten_15 rfl (lv_at hl 0 rfl) ?_
      refine lv_iload_n hx hb d_M_listUnbeaten_16 rfl (lv_at hl 3 rfl) ?_
      refine lv_icmp_ge (tgt := 86) hx hb d_M_listUnbeaten_17 (by decide) (fun _ => ?_) (fun c_10 => absurd (Int32.le_refl _) c_10)
      refine lv_iinc (v := nI (j + 1)) (lv' := [(2, .int (nI (j + 1))), (3, .int (nI cc)), (0, .ref (r 0)), (1, .int (nI cc))]) hx hb d_M_listUnbeaten_86 hl (k := 1) rfl ((nI_succ j).symm) (by decide) rfl (fun ls hl => ?_)
      refine lv_goto (tgt := 7) hx hb d_M_listUnbeaten_89 (by decide) ?_
      exact ih _ _ _ ⟨q9, ft9, (by rw [hexi.2.2]; exact congrArg _ (mr_ubflat hexi.1 (mr_cnt_eq0 hexi.1 (hexi.2.1.trans hcc))).symm), hP, hD, hS, lv_sub hl [0, 2, 3] rfl⟩
  · obtain ⟨q8, ft8, hexj, hP, hD, hS, hl⟩ := hI9
    have hBH := hB.at hS hA0
    refine lv_iload_n hx hb d_M_listUnbeaten_7 rfl (lv_at hl 0 rfl) ?_
    refine lv_bipush (v := 8) hx hb d_M_listUnbeaten_8 (by decide) ?_
    refine lv_icmp_ge (tgt := 92) hx hb d_M_listUnbeaten_10 (by decide) (fun _ => ?_) (fun c_11 => absurd c_11 (by decide))
    have hP9 := hP
    have hD9 := hD
    exact W.vret hx hb hr (fun t ht hW => ⟨⟨(q8, ft8), rfl, hexj, by rw [ht]; exact hP9, va_K.moved hW.alike hK, hD9⟩, hS.F ht⟩) hS.2.2 d_M_listUnbeaten_92
