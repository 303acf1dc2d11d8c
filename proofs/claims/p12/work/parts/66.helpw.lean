theorem mw_370 : Cond.code y_M_apply b_M_apply 6 (some .int) ∈ lw_tbl := by decide +kernel
theorem mw_371 : Cond.initialized y_M_apply.cls ∈ lw_tbl := by decide +kernel
theorem mw_372 : Cond.methodLink "MeasureRowsLaw" 30 y_M_apply ∈ lw_tbl := by decide +kernel
theorem mw_373 : Cond.instanceMethod y_M_apply ∈ lw_tbl := by decide +kernel
theorem mw_374 : Cond.selects "MeasureRows" y_M_apply y_M_apply ∈ lw_tbl := by decide +kernel
theorem mw_375 : Cond.code y_M_scan b_M_scan 5 (some .int) ∈ lw_tbl := by decide +kernel
theorem mw_376 : Cond.initialized y_M_scan.cls ∈ lw_tbl := by decide +kernel
theorem mw_377 : Cond.methodLink "MeasureRowsLaw" 34 y_M_scan ∈ lw_tbl := by decide +kernel
theorem mw_378 : Cond.instanceMethod y_M_scan ∈ lw_tbl := by decide +kernel
theorem mw_379 : Cond.selects "MeasureRows" y_M_scan y_M_scan ∈ lw_tbl := by decide +kernel
set_option maxHeartbeats 4000000 in
set_option maxRecDepth 100000 in
theorem mc_L_apply (l : Launch) (hlt : l.stackTraces = false) (s0 : State) (dC : Nat → ClassId) (dI : Nat → Nat → Nat) (cI cR cL cZ : ClassId) (r : Nat → Nat) (n : Nat) (nw pb : Int32) (qc : Nat) (fm fi : Nat → Int32) (fr : Nat → Option Nat) (fl fc fg : Nat → Int32) (L : List Nat) (f : Nat → va_E) (o : Nat) (fo : Nat → Int64) (sz : Nat) (a0 : Int32) (a1 : Int32) (a2 : Int32) (a3 : Int32) (hq : qc ≤ 80) (hR : mr_RI cI n L f fr) : Met l y_L_apply [Cond.codeWith y_L_apply b_L_apply 7 (some .int) [(0, 14, 17, 22)]] ({ frames := 7, cells := 1, slots := 6, locals := 138 }) (mr_PC s0 (dC, dI) [(cI, .int), (cR, .object "MeasureRows$Row"), (cL, .long), (cZ, .boolean)] [.ref (r 0), .int a0, .int a1, .int a2, .int a3, .ref o] (([(o, .inl (cL, 1, .inr (.inl fo))), ((r 0), .inr (0, mf_M r (nI n) nw pb (nI qc))), ((r 1), .inr (1, [.ref (r 2), .ref (r 3)])), ((r 2), .inl (cI, 8, .inl fm)), ((r 3), .inl (cI, 8, .inl fi)), ((r 4), .inl (cR, 80, .inr (.inr (.inr (.inr fr))))), ((r 5), .inl (cI, 80, .inl fl)), ((r 6), .inl (cI, 80, .inl fc)), ((r 7), .inl (cI, 8, .inl fg))] : va_W) ++ va_pl L f) sz) (va_Qi (fun _ u => u.2.1 ≤ 80) (fun (u : (Nat → Int64) × Nat × (Nat → Int32) × (Nat → Int32) × (Nat → Int32)) t => mr_W (dC, dI) [(cI, .int), (cR, .object "MeasureRows$Row"), (cL, .long), (cZ, .boolean)] (va_A (([(o, .inl (cL, 1, .inr (.inl fo))), ((r 0), .inr (0, mf_M r (nI n) nw pb (nI qc))), ((r 1), .inr (1, [.ref (r 2), .ref (r 3)])), ((r 2), .inl (cI, 8, .inl fm)), ((r 3), .inl (cI, 8, .inl fi)), ((r 4), .inl (cR, 80, .inr (.inr (.inr (.inr fr))))), ((r 5), .inl (cI, 80, .inl fl)), ((r 6), .inl (cI, 80, .inl fc)), ((r 7), .inl (cI, 8, .inl fg))] : va_W) ++ va_pl L f) sz) (([(o, .inl (cL, 1, .inr (.inl u.1))), ((r 0), .inr (0, mf_M r (nI n) nw pb (nI u.2.1))), ((r 1), .inr (1, [.ref (r 2), .ref (r 3)])), ((r 2), .inl (cI, 8, .inl fm)), ((r 3), .inl (cI, 8, .inl fi)), ((r 4), .inl (cR, 80, .inr (.inr (.inr (.inr fr))))), ((r 5), .inl (cI, 80, .inl u.2.2.1)), ((r 6), .inl (cI, 80, .inl u.2.2.2.1)), ((r 7), .inl (cI, 8, .inl u.2.2.2.2))] : va_W) ++ va_pl L f) t) (va_A (([(o, .inl (cL, 1, .inr (.inl fo))), ((r 0), .inr (0, mf_M r (nI n) nw pb (nI qc))), ((r 1), .inr (1, [.ref (r 2), .ref (r 3)])), ((r 2), .inl (cI, 8, .inl fm)), ((r 3), .inl (cI, 8, .inl fi)), ((r 4), .inl (cR, 80, .inr (.inr (.inr (.inr fr))))), ((r 5), .inl (cI, 80, .inl fl)), ((r 6), .inl (cI, 80, .inl fc)), ((r 7), .inl (cI, 8, .inl fg))] : va_W) ++ va_pl L f) sz)) 1 6 (va_A (([(o, .inl (cL, 1, .inr (.inl fo))), ((r 0), .inr (0, mf_M r (nI n) nw pb (nI qc))), ((r 1), .inr (1, [.ref (r 2), .ref (r 3)])), ((r 2), .inl (cI, 8, .inl fm)), ((r 3), .inl (cI, 8, .inl fi)), ((r 4), .inl (cR, 80, .inr (.inr (.inr (.inr fr))))), ((r 5), .inl (cI, 80, .inl fl)), ((r 6), .inl (cI, 80, .inl fc)), ((r 7), .inl (cI, 8, .inl fg))] : va_W) ++ va_pl L f) sz) := by
  refine mr_ofH (cc := b_L_apply) (maxL := 7) (ret := (some .int)) (by decide) ?_
  intro p e s m args below meth c s₁ B hml htab hv
  obtain ⟨rfl, hsz, hB, hK, hP, hD0⟩ := hv
  subst hsz
  have hA0 := mr_A hB hD0
  have hD := hD0.self (sz := s.heap.size)
  generalize hAe : va_A (([(o, .inl (cL, 1, .inr (.inl fo))), ((r 0), .inr (0, mf_M r (nI n) nw pb (nI qc))), ((r 1), .inr (1, [.ref (r 2), .ref (r 3)])), ((r 2), .inl (cI, 8, .inl fm)), ((r 3), .inl (cI, 8, .inl fi)), ((r 4), .inl (cR, 80, .inr (.inr (.inr (.inr fr))))), ((r 5), .inl (cI, 80, .inl fl)), ((r 6), .inl (cI, 80, .inl fc)), ((r 7), .inl (cI, 8, .inl fg))] : va_W) ++ va_pl L f) s.heap.size = A at hD hA0 ⊢
  have hA : ∀ q : Nat, s.heap.size ≤ q → A q := fun q h => by rw [← hAe]; exact Or.inr h
  have hS : va_S A s.heap s.heap [] := va_S.rf
  have hP : va_P (dC, dI) mr_cl (([(o, .inl (cL, 1, .inr (.inl fo))), ((r 0), .inr (0, mf_M r (nI n) nw pb (nI qc))), ((r 1), .inr (1, [.ref (r 2), .ref (r 3)])), ((r 2), .inl (cI, 8, .inl fm)), ((r 3), .inl (cI, 8, .inl fi)), ((r 4), .inl (cR, 80, .inr (.inr (.inr (.inr fr))))), ((r 5), .inl (cI, 80, .inl fl)), ((r 6), .inl (cI, 80, .inl fc)), ((r 7), .inl (cI, 8, .inl fg))] : va_W) ++ va_pl L f) s.heap := hP
  have hBH := hB.at hS hA0
  have hx := B.exec
  have hb := B.bytes
  have hr := B.returns
  have hlocks := B.notSynchronized
  have hts : ∀ w ∈ lw_tbl, w.before [.ref (r 0), .int a0, .int a1, .int a2, .int a3, .ref o].toArray s = true := hB.hts _
  have hown : s.vm.findClass "MeasureRowsLaw" = some m.cls := findClass_of_methodNamed B.named
  have hl := lv_entry ([.ref (r 0), .int a0, .int a1, .int a2, .int a3, .ref o]) (n := 7) (Nat.le_of_ble_eq_true rfl)
  rw [lg_entry_eq]
  generalize (lg_sl ([.ref (r 0), .int a0, .int a1, .int a2, .int a3, .ref o]) ++ List.replicate (7 - (lg_sl ([.ref (r 0), .int a0, .int a1, .int a2, .int a3, .ref o])).length) Slot.unset).toArray = ls at hl ⊢
  have hl : lv_has ls 7 [(0, .ref (r 0)), (1, .int a0), (2, .int a1), (3, .int a2), (4, .int a3), (5, .ref o)] := hl
  obtain ⟨x0, ht0, s0a, s0b, s0c, s0d⟩ := mr_tab1 htab
  refine lv_aload hx hb d_L_apply_0 (lv_at hl 5 rfl) ?_
  refine lv_iconst (v := 0) hx hb d_L_apply_2 (by decide) ?_
  refine lv_aload_n hx hb d_L_apply_3 rfl (lv_at hl 0 rfl) ?_
  refine lv_iload_n hx hb d_L_apply_4 rfl (lv_at hl 1 rfl) ?_
  refine lv_iload_n hx hb d_L_apply_5 rfl (lv_at hl 2 rfl) ?_
  refine lv_iload_n hx hb d_L_apply_6 rfl (lv_at hl 3 rfl) ?_
  refine lv_iload hx hb d_L_apply_7 (lv_at hl 4 rfl) ?_
  have hPc : va_P (dC, dI) mr_cl (([((r 0), .inr (0, mf_M r (nI n) nw pb (nI qc))), ((r 1), .inr (1, [.ref (r 2), .ref (r 3)])), ((r 2), .inl (cI, 8, .inl fm)), ((r 3), .inl (cI, 8, .inl fi)), ((r 4), .inl (cR, 80, .inr (.inr (.inr (.inr fr))))), ((r 5), .inl (cI, 80, .inl fl)), ((r 6), .inl (cI, 80, .inl fc)), ((r 7), .inl (cI, 8, .inl fg))] : va_W) ++ va_pl L f) s.heap := fun k y h => hP (k + 1) y h
  have hDc : va_D A (([((r 0), .inr (0, mf_M r (nI n) nw pb (nI qc))), ((r 1), .inr (1, [.ref (r 2), .ref (r 3)])), ((r 2), .inl (cI, 8, .inl fm)), ((r 3), .inl (cI, 8, .inl fi)), ((r 4), .inl (cR, 80, .inr (.inr (.inr (.inr fr))))), ((r 5), .inl (cI, 80, .inl fl)), ((r 6), .inl (cI, 80, .inl fc)), ((r 7), .inl (cI, 8, .inl fg))] : va_W) ++ va_pl L f) := ⟨fun i j p q h1 h2 h => Nat.succ.inj (hD.1 (i + 1) (j + 1) p q h1 h2 h), fun k q h => hD.2 (k + 1) q h⟩
  have hFc : ∀ q : Nat, va_A (([((r 0), .inr (0, mf_M r (nI n) nw pb (nI qc))), ((r 1), .inr (1, [.ref (r 2), .ref (r 3)])), ((r 2), .inl (cI, 8, .inl fm)), ((r 3), .inl (cI, 8, .inl fi)), ((r 4), .inl (cR, 80, .inr (.inr (.inr (.inr fr))))), ((r 5), .inl (cI, 80, .inl fl)), ((r 6), .inl (cI, 80, .inl fc)), ((r 7), .inl (cI, 8, .inl fg))] : va_W) ++ va_pl L f) s.heap.size q → A q := fun q h => h.elim (fun ⟨k, e, h⟩ => hD.2 (k + 1) (q, e) h) (fun h => hA q h)
  refine mr_callVw (As := [.int a0, .int a1, .int a2, .int a3]) (rest := [.int 0, .ref o]) (C := R_M) ⟨hx, hb, hml, hown, hts⟩ (mc_M_apply l hlt s0 dC dI cI cR cL cZ r n nw pb qc fm fi fr fl fc fg L f _ a0 a1 a2 a3 hq hR) ⟨(mr_cB 4 (hts (Cond.code y_M_apply b_M_apply 6 (some .int)) mw_370) (hts (Cond.initialized y_M_apply.cls) mw_371) (hts (Cond.methodLink "MeasureRowsLaw" 30 y_M_apply) mw_372) rfl rfl (by decide +kernel) ⟨Nat.le_of_ble_eq_true rfl, Nat.le_of_ble_eq_true rfl⟩), (hts (Cond.instanceMethod y_M_apply) mw_373), (hts (Cond.selects "MeasureRows" y_M_apply y_M_apply) mw_374)⟩ (mr_preCV hBH hK hPc (hDc.weaken (fun _ _ _ h => hA0 _ h)) (ci := 0) (q0 := 0) rfl rfl) rfl hl.1 rfl (Nat.le_of_ble_eq_true rfl) d_L_apply_9 ⟨Nat.le_of_ble_eq_true rfl, Nat.le_of_ble_eq_true rfl⟩ hS (fun q _ h => hFc q h) hFc (fun r9 u9 t H1 locs ht hvm hw hB1 hz1 hk1 hS => ?_) (fun E9 hE => ?_)
  · obtain ⟨q9, fl9, fc9, fg9⟩ := u9
    obtain ⟨hP1, hK1, hD1⟩ := hB1
    rw [ht] at hP1
    obtain ⟨hP, hD⟩ := mr_tl hP hD hk1 hFc hP1 hD1
    clear hK1 hk1 hPc hDc hFc
    generalize H1 = H at hP hS ht ⊢
    have hP : va_P (dC, dI) mr_cl (([(o, .inl (cL, 1, .inr (.inl fo))), ((r 0), .inr (0, mf_M r (nI n) nw pb (nI q9))), ((r 1), .inr (1, [.ref (r 2), .ref (r 3)])), ((r 2), .inl (cI, 8, .inl fm)), ((r 3), .inl (cI, 8, .inl fi)), ((r 4), .inl (cR, 80, .inr (.inr (.inr (.inr fr))))), ((r 5), .inl (cI, 80, .inl fl9)), ((r 6), .inl (cI, 80, .inl fc9)), ((r 7), .inl (cI, 8, .inl fg9))] : va_W) ++ va_pl L f) H := hP
    have hD : va_D A (([(o, .inl (cL, 1, .inr (.inl fo))), ((r 0), .inr (0, mf_M r (nI n) nw pb (nI q9))), ((r 1), .inr (1, [.ref (r 2), .ref (r 3)])), ((r 2), .inl (cI, 8, .inl fm)), ((r 3), .inl (cI, 8, .inl fi)), ((r 4), .inl (cR, 80, .inr (.inr (.inr (.inr fr))))), ((r 5), .inl (cI, 80, .inl fl9)), ((r 6), .inl (cI, 80, .inl fc9)), ((r 7), .inl (cI, 8, .inl fg9))] : va_W) ++ va_pl L f) := hD
    have hBH := hB.at hS hA0
    have hBH := hB.at hS hA0
    refine W.widen (k := 1) (n := 6) (Nat.le_of_ble_eq_true rfl) (Nat.le_of_ble_eq_true rfl) ?_
    refine lv_i2l (v := r9.toInt64) hx hb d_L_apply_12 rfl ?_
    refine va_last (D := (dC, dI)) hx hb hK hP hD hS 0 2 rfl rfl (i := 0) (by unfold vp_in; decide) d_L_apply_13 (fun H locs hP hD hS => ?_)
    have hP : va_P (dC, dI) mr_cl (([(o, .inl (cL, 1, .inr (.inl (vp_updL fo (0 : Int32).toNatClampNeg r9.toInt64)))), ((r 0), .inr (0, mf_M r (nI n) nw pb (nI q9))), ((r 1), .inr (1, [.ref (r 2), .ref (r 3)])), ((r 2), .inl (cI, 8, .inl fm)), ((r 3), .inl (cI, 8, .inl fi)), ((r 4), .inl (cR, 80, .inr (.inr (.inr (.inr fr))))), ((r 5), .inl (cI, 80, .inl fl9)), ((r 6), .inl (cI, 80, .inl fc9)), ((r 7), .inl (cI, 8, .inl fg9))] : va_W) ++ va_pl L f) H := hP
    have hD : va_D A (([(o, .inl (cL, 1, .inr (.inl (vp_updL fo (0 : Int32).toNatClampNeg r9.toInt64)))), ((r 0), .inr (0, mf_M r (nI n) nw pb (nI q9))), ((r 1), .inr (1, [.ref (r 2), .ref (r 3)])), ((r 2), .inl (cI, 8, .inl fm)), ((r 3), .inl (cI, 8, .inl fi)), ((r 4), .inl (cR, 80, .inr (.inr (.inr (.inr fr))))), ((r 5), .inl (cI, 80, .inl fl9)), ((r 6), .inl (cI, 80, .inl fc9)), ((r 7), .inl (cI, 8, .inl fg9))] : va_W) ++ va_pl L f) := hD
    have hBH := hB.at hS hA0
    refine lv_goto (tgt := 21) hx hb d_L_apply_14 (by decide) ?_
    refine lv_iconst (v := 0) hx hb d_L_apply_21 (by decide) ?_
    have hP9 := hP
    have hD9 := hD
    exact W.iret (v := 0) hx hb hr (fun t ht hW => ⟨⟨_, ((vp_updL fo (0 : Int32).toNatClampNeg r9.toInt64), q9, fl9, fc9, fg9), rfl, hw, by rw [ht]; exact hP9, va_K.moved hW.alike hK, hD9⟩, hS.F ht⟩) hS.2.2 d_L_apply_22
  · subst hE
    refine ⟨17, ⟨[], [], x0, mr_iae, ht0, s0c, mr_cov s0a s0b (by decide), by rw [s0d]; decide, (by rw [s0d]; exact (hts (Cond.classLink "MeasureRowsLaw" 22 mr_iae) mw_363)), (hts (Cond.castable mr_iae mr_iae) mw_364), (fun y hy => nomatch hy)⟩, fun q9 H1 hz hk1 => ?_⟩
    have hS : va_S A s.heap H1 [] := ⟨Nat.le_trans hS.1 hz, fun a h1 h2 => (hk1 a (Nat.lt_of_lt_of_le h1 hS.1)).trans (hS.2.1 a h1 h2), hS.2.2⟩
    have hP := hP.kept (fun k x hx => hk1 x.1 (hP k x hx).lt)
    generalize H1 = H at hP hS ⊢
    refine W.widen (k := 1) (n := 6) (Nat.le_of_ble_eq_true rfl) (Nat.le_of_ble_eq_true rfl) ?_
    refine lv_astore (lv' := [(6, .ref q9), (0, .ref (r 0)), (1, .int a0), (2, .int a1), (3, .int a2), (4, .int a3), (5, .ref o)]) hx hb d_L_apply_17 hl (by decide) rfl (fun ls hl => ?_)
    refine lv_iconst (v := 1) hx hb d_L_apply_19 (by decide) ?_
    have hP9 := hP
    have hD9 := hD
    exact W.iret (v := 1) hx hb hr (fun t ht hW => ⟨⟨_, (fo, qc, fl, fc, fg), rfl, hq, by rw [ht]; exact hP9, va_K.moved hW.alike hK, hD9⟩, hS.F ht⟩) hS.2.2 d_L_apply_20
