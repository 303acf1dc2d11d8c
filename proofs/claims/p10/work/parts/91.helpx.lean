
set_option maxHeartbeats 4000000 in
set_option maxRecDepth 100000 in
theorem mc_L_changeX (l : Launch) (hlt : l.stackTraces = false) (s0 : State) (dC : Nat → ClassId) (dI : Nat → Nat → Nat) (cI cR cL cZ : ClassId) (r : Nat → Nat) (n : Nat) (nw pb lc : Int32) (fm fi : Nat → Int32) (fr : Nat → Option Nat) (fl fc fg : Nat → Int32) (L : List Nat) (f : Nat → va_E) (fco fla ffi fki fra fkn cls cpa fe fa fk : Nat → Int32) (o : Nat) (fo : Nat → Int64) (sz : Nat) (a0 : Int32) (a1 : Int32) (a2 : Int32) (hX : mr_RX cI n L f fr fco fla ffi fki fra fkn cls cpa fe fa fk) (hN : mr_NX n nw fco fki fra fkn fe fk) : Met l y_L_change [Cond.codeWith y_L_change b_L_change 6 (some .int) [(0, 12, 15, 22)]] ({ frames := 7, cells := 1, slots := 6, locals := 118 }) (mr_PC s0 (dC, dI) [(cI, .int), (cR, .object "MeasureRows$Row"), (cL, .long), (cZ, .boolean)] [.ref (r 0), .int a0, .int a1, .int a2, .ref o] (([(o, .inl (cL, 1, .inr (.inl fo))), ((r 0), .inr (0, mf_M r (nI n) nw pb lc)), ((r 1), .inr (1, [.ref (r 2), .ref (r 3)])), ((r 2), .inl (cI, 8, .inl fm)), ((r 3), .inl (cI, 8, .inl fi)), ((r 4), .inl (cR, 80, .inr (.inr (.inr (.inr fr))))), ((r 5), .inl (cI, 80, .inl fl)), ((r 6), .inl (cI, 80, .inl fc)), ((r 7), .inl (cI, 8, .inl fg))] : va_W) ++ va_pl L f) sz) (va_Qi (fun rr u => rr = mk_M_change n nw ffi fe fa fk a0 a1 a2 ∧ (mk_M_change n nw ffi fe fa fk a0 a1 a2 = 0 → u 0 = ((mv_M_change n nw ffi fe fa fk a0 a1 a2 : Int32).toInt64))) (fun (u : Nat → Int64) t => mr_W (dC, dI) [(cI, .int), (cR, .object "MeasureRows$Row"), (cL, .long), (cZ, .boolean)] (va_A (([(o, .inl (cL, 1, .inr (.inl fo))), ((r 0), .inr (0, mf_M r (nI n) nw pb lc)), ((r 1), .inr (1, [.ref (r 2), .ref (r 3)])), ((r 2), .inl (cI, 8, .inl fm)), ((r 3), .inl (cI, 8, .inl fi)), ((r 4), .inl (cR, 80, .inr (.inr (.inr (.inr fr))))), ((r 5), .inl (cI, 80, .inl fl)), ((r 6), .inl (cI, 80, .inl fc)), ((r 7), .inl (cI, 8, .inl fg))] : va_W) ++ va_pl L f) sz) (([(o, .inl (cL, 1, .inr (.inl u))), ((r 0), .inr (0, mf_M r (nI n) nw pb lc)), ((r 1), .inr (1, [.ref (r 2), .ref (r 3)])), ((r 2), .inl (cI, 8, .inl fm)), ((r 3), .inl (cI, 8, .inl fi)), ((r 4), .inl (cR, 80, .inr (.inr (.inr (.inr fr))))), ((r 5), .inl (cI, 80, .inl fl)), ((r 6), .inl (cI, 80, .inl fc)), ((r 7), .inl (cI, 8, .inl fg))] : va_W) ++ va_pl L f) t) (va_A (([(o, .inl (cL, 1, .inr (.inl fo))), ((r 0), .inr (0, mf_M r (nI n) nw pb lc)), ((r 1), .inr (1, [.ref (r 2), .ref (r 3)])), ((r 2), .inl (cI, 8, .inl fm)), ((r 3), .inl (cI, 8, .inl fi)), ((r 4), .inl (cR, 80, .inr (.inr (.inr (.inr fr))))), ((r 5), .inl (cI, 80, .inl fl)), ((r 6), .inl (cI, 80, .inl fc)), ((r 7), .inl (cI, 8, .inl fg))] : va_W) ++ va_pl L f) sz)) 1 6 (va_A (([(o, .inl (cL, 1, .inr (.inl fo))), ((r 0), .inr (0, mf_M r (nI n) nw pb lc)), ((r 1), .inr (1, [.ref (r 2), .ref (r 3)])), ((r 2), .inl (cI, 8, .inl fm)), ((r 3), .inl (cI, 8, .inl fi)), ((r 4), .inl (cR, 80, .inr (.inr (.inr (.inr fr))))), ((r 5), .inl (cI, 80, .inl fl)), ((r 6), .inl (cI, 80, .inl fc)), ((r 7), .inl (cI, 8, .inl fg))] : va_W) ++ va_pl L f) sz) := by
  refine mr_ofH (cc := b_L_change) (maxL := 6) (ret := (some .int)) (by decide) ?_
  intro p e s m args below meth c s₁ B hml htab hv
  obtain ⟨rfl, hsz, hB, hK, hP, hD0⟩ := hv
  subst hsz
  have hA0 := mr_A hB hD0
  have hD := hD0.self (sz := s.heap.size)
  generalize hAe : va_A (([(o, .inl (cL, 1, .inr (.inl fo))), ((r 0), .inr (0, mf_M r (nI n) nw pb lc)), ((r 1), .inr (1, [.ref (r 2), .ref (r 3)])), ((r 2), .inl (cI, 8, .inl fm)), ((r 3), .inl (cI, 8, .inl fi)), ((r 4), .inl (cR, 80, .inr (.inr (.inr (.inr fr))))), ((r 5), .inl (cI, 80, .inl fl)), ((r 6), .inl (cI, 80, .inl fc)), ((r 7), .inl (cI, 8, .inl fg))] : va_W) ++ va_pl L f) s.heap.size = A at hD hA0 ⊢
  have hA : ∀ q : Nat, s.heap.size ≤ q → A q := fun q h => by rw [← hAe]; exact Or.inr h
  have hS : va_S A s.heap s.heap [] := va_S.rf
  have hP : va_P (dC, dI) mr_cl (([(o, .inl (cL, 1, .inr (.inl fo))), ((r 0), .inr (0, mf_M r (nI n) nw pb lc)), ((r 1), .inr (1, [.ref (r 2), .ref (r 3)])), ((r 2), .inl (cI, 8, .inl fm)), ((r 3), .inl (cI, 8, .inl fi)), ((r 4), .inl (cR, 80, .inr (.inr (.inr (.inr fr))))), ((r 5), .inl (cI, 80, .inl fl)), ((r 6), .inl (cI, 80, .inl fc)), ((r 7), .inl (cI, 8, .inl fg))] : va_W) ++ va_pl L f) s.heap := hP
  have hBH := hB.at hS hA0
  have hx := B.exec
  have hb := B.bytes
  have hr := B.returns
  have hlocks := B.notSynchronized
  have hts : ∀ w ∈ lw_tbl, w.before [.ref (r 0), .int a0, .int a1, .int a2, .ref o].toArray s = true := hB.hts _
  have hown : s.vm.findClass "MeasureRowsLaw" = some m.cls := findClass_of_methodNamed B.named
  have hl := lv_entry ([.ref (r 0), .int a0, .int a1, .int a2, .ref o]) (n := 6) (Nat.le_of_ble_eq_true rfl)
  rw [lg_entry_eq]
  generalize (lg_sl ([.ref (r 0), .int a0, .int a1, .int a2, .ref o]) ++ List.replicate (6 - (lg_sl ([.ref (r 0), .int a0, .int a1, .int a2, .ref o])).length) Slot.unset).toArray = ls at hl ⊢
  have hl : lv_has ls 6 [(0, .ref (r 0)), (1, .int a0), (2, .int a1), (3, .int a2), (4, .ref o)] := hl
  obtain ⟨x0, ht0, s0a, s0b, s0c, s0d⟩ := mr_tab1 htab
  refine lv_aload hx hb d_L_change_0 (lv_at hl 4 rfl) ?_
  refine lv_iconst (v := 0) hx hb d_L_change_2 (by decide) ?_
  refine lv_aload_n hx hb d_L_change_3 rfl (lv_at hl 0 rfl) ?_
  refine lv_iload_n hx hb d_L_change_4 rfl (lv_at hl 1 rfl) ?_
  refine lv_iload_n hx hb d_L_change_5 rfl (lv_at hl 2 rfl) ?_
  refine lv_iload_n hx hb d_L_change_6 rfl (lv_at hl 3 rfl) ?_
  refine mr_callVp (As := [.int a0, .int a1, .int a2]) (rest := [.int 0, .ref o]) (C := R_M) ⟨hx, hb, hml, hown, hts⟩ (mc_M_changeX l hlt s0 dC dI cI cR cL cZ r n nw pb lc fm fi fr fl fc fg L f fco fla ffi fki fra fkn cls cpa fe fa fk a0 a1 a2 hX hN) ⟨(mr_cB 3 (hts (Cond.code y_M_change b_M_change 7 (some .int)) mw_358) (hts (Cond.initialized y_M_change.cls) mw_359) (hts (Cond.methodLink "MeasureRowsLaw" 37 y_M_change) mw_360) rfl rfl (by decide +kernel) ⟨Nat.le_of_ble_eq_true rfl, Nat.le_of_ble_eq_true rfl⟩), (hts (Cond.instanceMethod y_M_change) mw_361), (hts (Cond.selects "MeasureRows" y_M_change y_M_change) mw_362)⟩ (mr_preV (ws := ([((r 0), .inr (0, mf_M r (nI n) nw pb lc)), ((r 1), .inr (1, [.ref (r 2), .ref (r 3)])), ((r 2), .inl (cI, 8, .inl fm)), ((r 3), .inl (cI, 8, .inl fi)), ((r 4), .inl (cR, 80, .inr (.inr (.inr (.inr fr))))), ((r 5), .inl (cI, 80, .inl fl)), ((r 6), .inl (cI, 80, .inl fc)), ((r 7), .inl (cI, 8, .inl fg))] : va_W) ++ va_pl L f) hBH hK (fun k y h => hP (k + 1) y h) (ci := 0) (q0 := 0) rfl rfl) rfl hl.1 rfl (Nat.le_of_ble_eq_true rfl) d_L_change_7 ⟨Nat.le_of_ble_eq_true rfl, Nat.le_of_ble_eq_true rfl⟩ (fun r9 h9 => ?_) (fun E9 hE => ?_)
  · obtain ⟨hk0, rfl⟩ := h9
    refine W.widen (k := 1) (n := 6) (Nat.le_of_ble_eq_true rfl) (Nat.le_of_ble_eq_true rfl) ?_
    refine lv_i2l (v := (mv_M_change n nw ffi fe fa fk a0 a1 a2).toInt64) hx hb d_L_change_10 rfl ?_
    refine va_last (D := (dC, dI)) hx hb hK hP hD hS 0 2 rfl rfl (i := 0) (by unfold vp_in; decide) d_L_change_11 (fun H locs hP hD hS => ?_)
    have hP : va_P (dC, dI) mr_cl (([(o, .inl (cL, 1, .inr (.inl (vp_updL fo (0 : Int32).toNatClampNeg ((mv_M_change n nw ffi fe fa fk a0 a1 a2).toInt64))))), ((r 0), .inr (0, mf_M r (nI n) nw pb lc)), ((r 1), .inr (1, [.ref (r 2), .ref (r 3)])), ((r 2), .inl (cI, 8, .inl fm)), ((r 3), .inl (cI, 8, .inl fi)), ((r 4), .inl (cR, 80, .inr (.inr (.inr (.inr fr))))), ((r 5), .inl (cI, 80, .inl fl)), ((r 6), .inl (cI, 80, .inl fc)), ((r 7), .inl (cI, 8, .inl fg))] : va_W) ++ va_pl L f) H := hP
    have hD : va_D A (([(o, .inl (cL, 1, .inr (.inl (vp_updL fo (0 : Int32).toNatClampNeg ((mv_M_change n nw ffi fe fa fk a0 a1 a2).toInt64))))), ((r 0), .inr (0, mf_M r (nI n) nw pb lc)), ((r 1), .inr (1, [.ref (r 2), .ref (r 3)])), ((r 2), .inl (cI, 8, .inl fm)), ((r 3), .inl (cI, 8, .inl fi)), ((r 4), .inl (cR, 80, .inr (.inr (.inr (.inr fr))))), ((r 5), .inl (cI, 80, .inl fl)), ((r 6), .inl (cI, 80, .inl fc)), ((r 7), .inl (cI, 8, .inl fg))] : va_W) ++ va_pl L f) := hD
    have hBH := hB.at hS hA0
    refine lv_goto (tgt := 19) hx hb d_L_change_12 (by decide) ?_
    refine lv_iconst (v := 0) hx hb d_L_change_19 (by decide) ?_
    exact W.iret (v := 0) hx hb hr (fun t ht hW => ⟨⟨_, (vp_updL fo (0 : Int32).toNatClampNeg ((mv_M_change n nw ffi fe fa fk a0 a1 a2).toInt64)), rfl, ⟨hk0.symm, fun _ => rfl⟩, ⟨by rw [ht]; exact hP, va_K.moved hW.alike hK, hD⟩⟩, hS.F ht⟩) hS.2.2 d_L_change_20
  · obtain ⟨rfl, hkE⟩ := hE
    refine ⟨15, ⟨[], [], x0, mr_iae, ht0, s0c, mr_cov s0a s0b (by decide), by rw [s0d]; decide, (by rw [s0d]; exact (hts (Cond.classLink "MeasureRowsLaw" 22 mr_iae) mw_363)), (hts (Cond.castable mr_iae mr_iae) mw_364), (fun y hy => nomatch hy)⟩, fun q9 H1 hz hk1 => ?_⟩
    have hS : va_S A s.heap H1 [] := ⟨Nat.le_trans hS.1 hz, fun a h1 h2 => (hk1 a (Nat.lt_of_lt_of_le h1 hS.1)).trans (hS.2.1 a h1 h2), hS.2.2⟩
    have hP := hP.kept (fun k x hx => hk1 x.1 (hP k x hx).lt)
    generalize H1 = H at hP hS ⊢
    refine W.widen (k := 1) (n := 6) (Nat.le_of_ble_eq_true rfl) (Nat.le_of_ble_eq_true rfl) ?_
    refine lv_astore (lv' := [(5, .ref q9), (0, .ref (r 0)), (1, .int a0), (2, .int a1), (3, .int a2), (4, .ref o)]) hx hb d_L_change_15 hl (by decide) rfl (fun ls hl => ?_)
    refine lv_iconst (v := 1) hx hb d_L_change_17 (by decide) ?_
    exact W.iret (v := 1) hx hb hr (fun t ht hW => ⟨⟨_, fo, rfl, ⟨hkE.symm, fun h => absurd (hkE.symm.trans h) (by decide)⟩, ⟨by rw [ht]; exact hP, va_K.moved hW.alike hK, hD⟩⟩, hS.F ht⟩) hS.2.2 d_L_change_18
set_option maxHeartbeats 4000000 in
set_option maxRecDepth 100000 in
theorem mc_L_look_yX (l : Launch) (hlt : l.stackTraces = false) (s0 : State) (dC : Nat → ClassId) (dI : Nat → Nat → Nat) (cI cR cL cZ : ClassId) (r : Nat → Nat) (n : Nat) (nw pb lc : Int32) (fm fi : Nat → Int32) (fr : Nat → Option Nat) (fl fc fg : Nat → Int32) (L : List Nat) (f : Nat → va_E) (fco fla ffi fki fra fkn cls cpa fe fa fk : Nat → Int32) (i : Nat) (o : Nat) (fo : Nat → Int64) (sz : Nat) (a1 : Int32) (hi1 : 1 ≤ i) (hin : i ≤ n) (hX : mr_RX cI n L f fr fco fla ffi fki fra fkn cls cpa fe fa fk) (hN : mr_NX n nw fco fki fra fkn fe fk) : Met l y_L_look [Cond.codeWith y_L_look b_L_look 5 (some .int) [(0, 10, 13, 13)]] ({ frames := 7, cells := 1, slots := 6, locals := 115 }) (mr_PC s0 (dC, dI) [(cI, .int), (cR, .object "MeasureRows$Row"), (cL, .long), (cZ, .boolean)] [.ref (r 0), .int (nI i), .int a1, .ref o] (([(o, .inl (cL, 1, .inr (.inl fo))), ((r 0), .inr (0, mf_M r (nI n) nw pb lc)), ((r 1), .inr (1, [.ref (r 2), .ref (r 3)])), ((r 2), .inl (cI, 8, .inl fm)), ((r 3), .inl (cI, 8, .inl fi)), ((r 4), .inl (cR, 80, .inr (.inr (.inr (.inr fr))))), ((r 5), .inl (cI, 80, .inl fl)), ((r 6), .inl (cI, 80, .inl fc)), ((r 7), .inl (cI, 8, .inl fg))] : va_W) ++ va_pl L f) sz) (va_Qi (fun rr u => rr = mk_M_look_y fco fla ffi fki fra fkn cls cpa fe fa fk nw i a1 ∧ (mk_M_look_y fco fla ffi fki fra fkn cls cpa fe fa fk nw i a1 = 0 → u 0 = ((mv_M_look_y fco fla ffi fki fra fkn cls cpa fe fa fk nw i a1 : Int32).toInt64))) (fun (u : Nat → Int64) t => mr_W (dC, dI) [(cI, .int), (cR, .object "MeasureRows$Row"), (cL, .long), (cZ, .boolean)] (va_A (([(o, .inl (cL, 1, .inr (.inl fo))), ((r 0), .inr (0, mf_M r (nI n) nw pb lc)), ((r 1), .inr (1, [.ref (r 2), .ref (r 3)])), ((r 2), .inl (cI, 8, .inl fm)), ((r 3), .inl (cI, 8, .inl fi)), ((r 4), .inl (cR, 80, .inr (.inr (.inr (.inr fr))))), ((r 5), .inl (cI, 80, .inl fl)), ((r 6), .inl (cI, 80, .inl fc)), ((r 7), .inl (cI, 8, .inl fg))] : va_W) ++ va_pl L f) sz) (([(o, .inl (cL, 1, .inr (.inl u))), ((r 0), .inr (0, mf_M r (nI n) nw pb lc)), ((r 1), .inr (1, [.ref (r 2), .ref (r 3)])), ((r 2), .inl (cI, 8, .inl fm)), ((r 3), .inl (cI, 8, .inl fi)), ((r 4), .inl (cR, 80, .inr (.inr (.inr (.inr fr))))), ((r 5), .inl (cI, 80, .inl fl)), ((r 6), .inl (cI, 80, .inl fc)), ((r 7), .inl (cI, 8, .inl fg))] : va_W) ++ va_pl L f) t) (va_A (([(o, .inl (cL, 1, .inr (.inl fo))), ((r 0), .inr (0, mf_M r (nI n) nw pb lc)), ((r 1), .inr (1, [.ref (r 2), .ref (r 3)])), ((r 2), .inl (cI, 8, .inl fm)), ((r 3), .inl (cI, 8, .inl fi)), ((r 4), .inl (cR, 80, .inr (.inr (.inr (.inr fr))))), ((r 5), .inl (cI, 80, .inl fl)), ((r 6), .inl (cI, 80, .inl fc)), ((r 7), .inl (cI, 8, .inl fg))] : va_W) ++ va_pl L f) sz)) 1 6 (va_A (([(o, .inl (cL, 1, .inr (.inl fo))), ((r 0), .inr (0, mf_M r (nI n) nw pb lc)), ((r 1), .inr (1, [.ref (r 2), .ref (r 3)])), ((r 2), .inl (cI, 8, .inl fm)), ((r 3), .inl (cI, 8, .inl fi)), ((r 4), .inl (cR, 80, .inr (.inr (.inr (.inr fr))))), ((r 5), .inl (cI, 80, .inl fl)), ((r 6), .inl (cI, 80, .inl fc)), ((r 7), .inl (cI, 8, .inl fg))] : va_W) ++ va_pl L f) sz) := by
  refine mr_ofH (cc := b_L_look) (maxL := 5) (ret := (some .int)) (by decide) ?_
  intro p e s m args below meth c s₁ B hml htab hv
  obtain ⟨rfl, hsz, hB, hK, hP, hD0⟩ := hv
  subst hsz
  have hA0 := mr_A hB hD0
  have hD := hD0.self (sz := s.heap.size)
  generalize hAe : va_A (([(o, .inl (cL, 1, .inr (.inl fo))), ((r 0), .inr (0, mf_M r (nI n) nw pb lc)), ((r 1), .inr (1, [.ref (r 2), .ref (r 3)])), ((r 2), .inl (cI, 8, .inl fm)), ((r 3), .inl (cI, 8, .inl fi)), ((r 4), .inl (cR, 80, .inr (.inr (.inr (.inr fr))))), ((r 5), .inl (cI, 80, .inl fl)), ((r 6), .inl (cI, 80, .inl fc)), ((r 7), .inl (cI, 8, .inl fg))] : va_W) ++ va_pl L f) s.heap.size = A at hD hA0 ⊢
  have hA : ∀ q : Nat, s.heap.size ≤ q → A q := fun q h => by rw [← hAe]; exact Or.inr h
  have hS : va_S A s.heap s.heap [] := va_S.rf
  have hP : va_P (dC, dI) mr_cl (([(o, .inl (cL, 1, .inr (.inl fo))), ((r 0), .inr (0, mf_M r (nI n) nw pb lc)), ((r 1), .inr (1, [.ref (r 2), .ref (r 3)])), ((r 2), .inl (cI, 8, .inl fm)), ((r 3), .inl (cI, 8, .inl fi)), ((r 4), .inl (cR, 80, .inr (.inr (.inr (.inr fr))))), ((r 5), .inl (cI, 80, .inl fl)), ((r 6), .inl (cI, 80, .inl fc)), ((r 7), .inl (cI, 8, .inl fg))] : va_W) ++ va_pl L f) s.heap := hP
  have hBH := hB.at hS hA0
  have hx := B.exec
  have hb := B.bytes
  have hr := B.returns
  have hlocks := B.notSynchronized
  have hts : ∀ w ∈ lw_tbl, w.before [.ref (r 0), .int (nI i), .int a1, .ref o].toArray s = true := hB.hts _
  have hown : s.vm.findClass "MeasureRowsLaw" = some m.cls := findClass_of_methodNamed B.named
  have hl := lv_entry ([.ref (r 0), .int (nI i), .int a1, .ref o]) (n := 5) (Nat.le_of_ble_eq_true rfl)
  rw [lg_entry_eq]
  generalize (lg_sl ([.ref (r 0), .int (nI i), .int a1, .ref o]) ++ List.replicate (5 - (lg_sl ([.ref (r 0), .int (nI i), .int a1, .ref o])).length) Slot.unset).toArray = ls at hl ⊢
  have hl : lv_has ls 5 [(0, .ref (r 0)), (1, .int (nI i)), (2, .int a1), (3, .ref o)] := hl
  obtain ⟨x0, ht0, s0a, s0b, s0c, s0d⟩ := mr_tab1 htab
  refine lv_aload_n hx hb d_L_look_0 rfl (lv_at hl 3 rfl) ?_
  refine lv_iconst (v := 0) hx hb d_L_look_1 (by decide) ?_
  refine lv_aload_n hx hb d_L_look_2 rfl (lv_at hl 0 rfl) ?_
  refine lv_iload_n hx hb d_L_look_3 rfl (lv_at hl 1 rfl) ?_
  refine lv_iload_n hx hb d_L_look_4 rfl (lv_at hl 2 rfl) ?_
  refine mr_callVp (As := [.int (nI i), .int a1]) (rest := [.int 0, .ref o]) (C := R_M) ⟨hx, hb, hml, hown, hts⟩ (mc_M_look_yX l hlt s0 dC dI cI cR cL cZ r n nw pb lc fm fi fr fl fc fg L f fco fla ffi fki fra fkn cls cpa fe fa fk i a1 hi1 hin hX hN) ⟨(mr_cB 2 (hts (Cond.code y_M_look b_M_look 4 (some .int)) mw_365) (hts (Cond.initialized y_M_look.cls) mw_366) (hts (Cond.methodLink "MeasureRowsLaw" 40 y_M_look) mw_367) rfl rfl (by decide +kernel) ⟨Nat.le_of_ble_eq_true rfl, Nat.le_of_ble_eq_true rfl⟩), (hts (Cond.instanceMethod y_M_look) mw_368), (hts (Cond.selects "MeasureRows" y_M_look y_M_look) mw_369)⟩ (mr_preV (ws := ([((r 0), .inr (0, mf_M r (nI n) nw pb lc)), ((r 1), .inr (1, [.ref (r 2), .ref (r 3)])), ((r 2), .inl (cI, 8, .inl fm)), ((r 3), .inl (cI, 8, .inl fi)), ((r 4), .inl (cR, 80, .inr (.inr (.inr (.inr fr))))), ((r 5), .inl (cI, 80, .inl fl)), ((r 6), .inl (cI, 80, .inl fc)), ((r 7), .inl (cI, 8, .inl fg))] : va_W) ++ va_pl L f) hBH hK (fun k y h => hP (k + 1) y h) (ci := 0) (q0 := 0) rfl rfl) rfl hl.1 rfl (Nat.le_of_ble_eq_true rfl) d_L_look_5 ⟨Nat.le_of_ble_eq_true rfl, Nat.le_of_ble_eq_true rfl⟩ (fun r9 h9 => ?_) (fun E9 hE => ?_)
  · obtain ⟨hk0, rfl⟩ := h9
    refine W.widen (k := 1) (n := 6) (Nat.le_of_ble_eq_true rfl) (Nat.le_of_ble_eq_true rfl) ?_
    refine lv_i2l (v := (mv_M_look_y fco fla ffi fki fra fkn cls cpa fe fa fk nw i a1).toInt64) hx hb d_L_look_8 rfl ?_
    refine va_last (D := (dC, dI)) hx hb hK hP hD hS 0 2 rfl rfl (i := 0) (by unfold vp_in; decide) d_L_look_9 (fun H locs hP hD hS => ?_)
    have hP : va_P (dC, dI) mr_cl (([(o, .inl (cL, 1, .inr (.inl (vp_updL fo (0 : Int32).toNatClampNeg ((mv_M_look_y fco fla ffi fki fra fkn cls cpa fe fa fk nw i a1).toInt64))))), ((r 0), .inr (0, mf_M r (nI n) nw pb lc)), ((r 1), .inr (1, [.ref (r 2), .ref (r 3)])), ((r 2), .inl (cI, 8, .inl fm)), ((r 3), .inl (cI, 8, .inl fi)), ((r 4), .inl (cR, 80, .inr (.inr (.inr (.inr fr))))), ((r 5), .inl (cI, 80, .inl fl)), ((r 6), .inl (cI, 80, .inl fc)), ((r 7), .inl (cI, 8, .inl fg))] : va_W) ++ va_pl L f) H := hP
    have hD : va_D A (([(o, .inl (cL, 1, .inr (.inl (vp_updL fo (0 : Int32).toNatClampNeg ((mv_M_look_y fco fla ffi fki fra fkn cls cpa fe fa fk nw i a1).toInt64))))), ((r 0), .inr (0, mf_M r (nI n) nw pb lc)), ((r 1), .inr (1, [.ref (r 2), .ref (r 3)])), ((r 2), .inl (cI, 8, .inl fm)), ((r 3), .inl (cI, 8, .inl fi)), ((r 4), .inl (cR, 80, .inr (.inr (.inr (.inr fr))))), ((r 5), .inl (cI, 80, .inl fl)), ((r 6), .inl (cI, 80, .inl fc)), ((r 7), .inl (cI, 8, .inl fg))] : va_W) ++ va_pl L f) := hD
    have hBH := hB.at hS hA0
    refine lv_goto (tgt := 17) hx hb d_L_look_10 (by decide) ?_
    refine lv_iconst (v := 0) hx hb d_L_look_17 (by decide) ?_
    exact W.iret (v := 0) hx hb hr (fun t ht hW => ⟨⟨_, (vp_updL fo (0 : Int32).toNatClampNeg ((mv_M_look_y fco fla ffi fki fra fkn cls cpa fe fa fk nw i a1).toInt64)), rfl, ⟨hk0.symm, fun _ => rfl⟩, ⟨by rw [ht]; exact hP, va_K.moved hW.alike hK, hD⟩⟩, hS.F ht⟩) hS.2.2 d_L_look_18
  · obtain ⟨rfl, hkE⟩ := hE
    refine ⟨13, ⟨[], [], x0, mr_iob, ht0, s0c, mr_cov s0a s0b (by decide), by rw [s0d]; decide, (by rw [s0d]; exact (hts (Cond.classLink "MeasureRowsLaw" 13 mr_iob) mw_351)), (hts (Cond.castable mr_iob mr_iob) mw_352), (fun y hy => nomatch hy)⟩, fun q9 H1 hz hk1 => ?_⟩
    have hS : va_S A s.heap H1 [] := ⟨Nat.le_trans hS.1 hz, fun a h1 h2 => (hk1 a (Nat.lt_of_lt_of_le h1 hS.1)).trans (hS.2.1 a h1 h2), hS.2.2⟩
    have hP := hP.kept (fun k x hx => hk1 x.1 (hP k x hx).lt)
    generalize H1 = H at hP hS ⊢
    refine W.widen (k := 1) (n := 6) (Nat.le_of_ble_eq_true rfl) (Nat.le_of_ble_eq_true rfl) ?_
    refine lv_astore (lv' := [(4, .ref q9), (0, .ref (r 0)), (1, .int (nI i)), (2, .int a1), (3, .ref o)]) hx hb d_L_look_13 hl (by decide) rfl (fun ls hl => ?_)
    refine lv_iconst (v := 1) hx hb d_L_look_15 (by decide) ?_
    exact W.iret (v := 1) hx hb hr (fun t ht hW => ⟨⟨_, fo, rfl, ⟨hkE.symm, fun h => absurd (hkE.symm.trans h) (by decide)⟩, ⟨by rw [ht]; exact hP, va_K.moved hW.alike hK, hD⟩⟩, hS.F ht⟩) hS.2.2 d_L_look_16
set_option maxHeartbeats 4000000 in
set_option maxRecDepth 100000 in
theorem mc_L_look_nX (l : Launch) (hlt : l.stackTraces = false) (s0 : State) (dC : Nat → ClassId) (dI : Nat → Nat → Nat) (cI cR cL cZ : ClassId) (r : Nat → Nat) (n : Nat) (nw pb lc : Int32) (fm fi : Nat → Int32) (fr : Nat → Option Nat) (fl fc fg : Nat → Int32) (L : List Nat) (f : Nat → va_E) (fco fla ffi fki fra fkn cls cpa fe fa fk : Nat → Int32) (o : Nat) (fo : Nat → Int64) (sz : Nat) (a0 : Int32) (a1 : Int32) (hnr : mv_D_isRow n a0 = 0) (hX : mr_RX cI n L f fr fco fla ffi fki fra fkn cls cpa fe fa fk) (hN : mr_NX n nw fco fki fra fkn fe fk) : Met l y_L_look [Cond.codeWith y_L_look b_L_look 5 (some .int) [(0, 10, 13, 13)]] ({ frames := 7, cells := 1, slots := 6, locals := 115 }) (mr_PC s0 (dC, dI) [(cI, .int), (cR, .object "MeasureRows$Row"), (cL, .long), (cZ, .boolean)] [.ref (r 0), .int a0, .int a1, .ref o] (([(o, .inl (cL, 1, .inr (.inl fo))), ((r 0), .inr (0, mf_M r (nI n) nw pb lc)), ((r 1), .inr (1, [.ref (r 2), .ref (r 3)])), ((r 2), .inl (cI, 8, .inl fm)), ((r 3), .inl (cI, 8, .inl fi)), ((r 4), .inl (cR, 80, .inr (.inr (.inr (.inr fr))))), ((r 5), .inl (cI, 80, .inl fl)), ((r 6), .inl (cI, 80, .inl fc)), ((r 7), .inl (cI, 8, .inl fg))] : va_W) ++ va_pl L f) sz) (va_Qi (fun rr u => rr = mk_M_look_n a0 a1 ∧ (mk_M_look_n a0 a1 = 0 → u 0 = ((mv_M_look_n a0 a1 : Int32).toInt64))) (fun (u : Nat → Int64) t => mr_W (dC, dI) [(cI, .int), (cR, .object "MeasureRows$Row"), (cL, .long), (cZ, .boolean)] (va_A (([(o, .inl (cL, 1, .inr (.inl fo))), ((r 0), .inr (0, mf_M r (nI n) nw pb lc)), ((r 1), .inr (1, [.ref (r 2), .ref (r 3)])), ((r 2), .inl (cI, 8, .inl fm)), ((r 3), .inl (cI, 8, .inl fi)), ((r 4), .inl (cR, 80, .inr (.inr (.inr (.inr fr))))), ((r 5), .inl (cI, 80, .inl fl)), ((r 6), .inl (cI, 80, .inl fc)), ((r 7), .inl (cI, 8, .inl fg))] : va_W) ++ va_pl L f) sz) (([(o, .inl (cL, 1, .inr (.inl u))), ((r 0), .inr (0, mf_M r (nI n) nw pb lc)), ((r 1), .inr (1, [.ref (r 2), .ref (r 3)])), ((r 2), .inl (cI, 8, .inl fm)), ((r 3), .inl (cI, 8, .inl fi)), ((r 4), .inl (cR, 80, .inr (.inr (.inr (.inr fr))))), ((r 5), .inl (cI, 80, .inl fl)), ((r 6), .inl (cI, 80, .inl fc)), ((r 7), .inl (cI, 8, .inl fg))] : va_W) ++ va_pl L f) t) (va_A (([(o, .inl (cL, 1, .inr (.inl fo))), ((r 0), .inr (0, mf_M r (nI n) nw pb lc)), ((r 1), .inr (1, [.ref (r 2), .ref (r 3)])), ((r 2), .inl (cI, 8, .inl fm)), ((r 3), .inl (cI, 8, .inl fi)), ((r 4), .inl (cR, 80, .inr (.inr (.inr (.inr fr))))), ((r 5), .inl (cI, 80, .inl fl)), ((r 6), .inl (cI, 80, .inl fc)), ((r 7), .inl (cI, 8, .inl fg))] : va_W) ++ va_pl L f) sz)) 1 6 (va_A (([(o, .inl (cL, 1, .inr (.inl fo))), ((r 0), .inr (0, mf_M r (nI n) nw pb lc)), ((r 1), .inr (1, [.ref (r 2), .ref (r 3)])), ((r 2), .inl (cI, 8, .inl fm)), ((r 3), .inl (cI, 8, .inl fi)), ((r 4), .inl (cR, 80, .inr (.inr (.inr (.inr fr))))), ((r 5), .inl (cI, 80, .inl fl)), ((r 6), .inl (cI, 80, .inl fc)), ((r 7), .inl (cI, 8, .inl fg))] : va_W) ++ va_pl L f) sz) := by
  refine mr_ofH (cc := b_L_look) (maxL := 5) (ret := (some .int)) (by decide) ?_
  intro p e s m args below meth c s₁ B hml htab hv
  obtain ⟨rfl, hsz, hB, hK, hP, hD0⟩ := hv
  subst hsz
  have hA0 := mr_A hB hD0
  have hD := hD0.self (sz := s.heap.size)
  generalize hAe : va_A (([(o, .inl (cL, 1, .inr (.inl fo))), ((r 0), .inr (0, mf_M r (nI n) nw pb lc)), ((r 1), .inr (1, [.ref (r 2), .ref (r 3)])), ((r 2), .inl (cI, 8, .inl fm)), ((r 3), .inl (cI, 8, .inl fi)), ((r 4), .inl (cR, 80, .inr (.inr (.inr (.inr fr))))), ((r 5), .inl (cI, 80, .inl fl)), ((r 6), .inl (cI, 80, .inl fc)), ((r 7), .inl (cI, 8, .inl fg))] : va_W) ++ va_pl L f) s.heap.size = A at hD hA0 ⊢
  have hA : ∀ q : Nat, s.heap.size ≤ q → A q := fun q h => by rw [← hAe]; exact Or.inr h
  have hS : va_S A s.heap s.heap [] := va_S.rf
  have hP : va_P (dC, dI) mr_cl (([(o, .inl (cL, 1, .inr (.inl fo))), ((r 0), .inr (0, mf_M r (nI n) nw pb lc)), ((r 1), .inr (1, [.ref (r 2), .ref (r 3)])), ((r 2), .inl (cI, 8, .inl fm)), ((r 3), .inl (cI, 8, .inl fi)), ((r 4), .inl (cR, 80, .inr (.inr (.inr (.inr fr))))), ((r 5), .inl (cI, 80, .inl fl)), ((r 6), .inl (cI, 80, .inl fc)), ((r 7), .inl (cI, 8, .inl fg))] : va_W) ++ va_pl L f) s.heap := hP
  have hBH := hB.at hS hA0
  have hx := B.exec
  have hb := B.bytes
  have hr := B.returns
  have hlocks := B.notSynchronized
  have hts : ∀ w ∈ lw_tbl, w.before [.ref (r 0), .int a0, .int a1, .ref o].toArray s = true := hB.hts _
  have hown : s.vm.findClass "MeasureRowsLaw" = some m.cls := findClass_of_methodNamed B.named
  have hl := lv_entry ([.ref (r 0), .int a0, .int a1, .ref o]) (n := 5) (Nat.le_of_ble_eq_true rfl)
  rw [lg_entry_eq]
  generalize (lg_sl ([.ref (r 0), .int a0, .int a1, .ref o]) ++ List.replicate (5 - (lg_sl ([.ref (r 0), .int a0, .int a1, .ref o])).length) Slot.unset).toArray = ls at hl ⊢
  have hl : lv_has ls 5 [(0, .ref (r 0)), (1, .int a0), (2, .int a1), (3, .ref o)] := hl
  obtain ⟨x0, ht0, s0a, s0b, s0c, s0d⟩ := mr_tab1 htab
  refine lv_aload_n hx hb d_L_look_0 rfl (lv_at hl 3 rfl) ?_
  refine lv_iconst (v := 0) hx hb d_L_look_1 (by decide) ?_
  refine lv_aload_n hx hb d_L_look_2 rfl (lv_at hl 0 rfl) ?_
  refine lv_iload_n hx hb d_L_look_3 rfl (lv_at hl 1 rfl) ?_
  refine lv_iload_n hx hb d_L_look_4 rfl (lv_at hl 2 rfl) ?_
  refine mr_callVp (As := [.int a0, .int a1]) (rest := [.int 0, .ref o]) (C := R_M) ⟨hx, hb, hml, hown, hts⟩ (mc_M_look_nX l hlt s0 dC dI cI cR cL cZ r n nw pb lc fm fi fr fl fc fg L f fco fla ffi fki fra fkn cls cpa fe fa fk a0 a1 hnr hX hN) ⟨(mr_cB 2 (hts (Cond.code y_M_look b_M_look 4 (some .int)) mw_365) (hts (Cond.initialized y_M_look.cls) mw_366) (hts (Cond.methodLink "MeasureRowsLaw" 40 y_M_look) mw_367) rfl rfl (by decide +kernel) ⟨Nat.le_of_ble_eq_true rfl, Nat.le_of_ble_eq_true rfl⟩), (hts (Cond.instanceMethod y_M_look) mw_368), (hts (Cond.selects "MeasureRows" y_M_look y_M_look) mw_369)⟩ (mr_preV (ws := ([((r 0), .inr (0, mf_M r (nI n) nw pb lc)), ((r 1), .inr (1, [.ref (r 2), .ref (r 3)])), ((r 2), .inl (cI, 8, .inl fm)), ((r 3), .inl (cI, 8, .inl fi)), ((r 4), .inl (cR, 80, .inr (.inr (.inr (.inr fr))))), ((r 5), .inl (cI, 80, .inl fl)), ((r 6), .inl (cI, 80, .inl fc)), ((r 7), .inl (cI, 8, .inl fg))] : va_W) ++ va_pl L f) hBH hK (fun k y h => hP (k + 1) y h) (ci := 0) (q0 := 0) rfl rfl) rfl hl.1 rfl (Nat.le_of_ble_eq_true rfl) d_L_look_5 ⟨Nat.le_of_ble_eq_true rfl, Nat.le_of_ble_eq_true rfl⟩ (fun r9 h9 => ?_) (fun E9 hE => ?_)
  · obtain ⟨hk0, rfl⟩ := h9
    refine W.widen (k := 1) (n := 6) (Nat.le_of_ble_eq_true rfl) (Nat.le_of_ble_eq_true rfl) ?_
    refine lv_i2l (v := (mv_M_look_n a0 a1).toInt64) hx hb d_L_look_8 rfl ?_
    refine va_last (D := (dC, dI)) hx hb hK hP hD hS 0 2 rfl rfl (i := 0) (by unfold vp_in; decide) d_L_look_9 (fun H locs hP hD hS => ?_)
    have hP : va_P (dC, dI) mr_cl (([(o, .inl (cL, 1, .inr (.inl (vp_updL fo (0 : Int32).toNatClampNeg ((mv_M_look_n a0 a1).toInt64))))), ((r 0), .inr (0, mf_M r (nI n) nw pb lc)), ((r 1), .inr (1, [.ref (r 2), .ref (r 3)])), ((r 2), .inl (cI, 8, .inl fm)), ((r 3), .inl (cI, 8, .inl fi)), ((r 4), .inl (cR, 80, .inr (.inr (.inr (.inr fr))))), ((r 5), .inl (cI, 80, .inl fl)), ((r 6), .inl (cI, 80, .inl fc)), ((r 7), .inl (cI, 8, .inl fg))] : va_W) ++ va_pl L f) H := hP
    have hD : va_D A (([(o, .inl (cL, 1, .inr (.inl (vp_updL fo (0 : Int32).toNatClampNeg ((mv_M_look_n a0 a1).toInt64))))), ((r 0), .inr (0, mf_M r (nI n) nw pb lc)), ((r 1), .inr (1, [.ref (r 2), .ref (r 3)])), ((r 2), .inl (cI, 8, .inl fm)), ((r 3), .inl (cI, 8, .inl fi)), ((r 4), .inl (cR, 80, .inr (.inr (.inr (.inr fr))))), ((r 5), .inl (cI, 80, .inl fl)), ((r 6), .inl (cI, 80, .inl fc)), ((r 7), .inl (cI, 8, .inl fg))] : va_W) ++ va_pl L f) := hD
    have hBH := hB.at hS hA0
    refine lv_goto (tgt := 17) hx hb d_L_look_10 (by decide) ?_
    refine lv_iconst (v := 0) hx hb d_L_look_17 (by decide) ?_
    exact W.iret (v := 0) hx hb hr (fun t ht hW => ⟨⟨_, (vp_updL fo (0 : Int32).toNatClampNeg ((mv_M_look_n a0 a1).toInt64)), rfl, ⟨hk0.symm, fun _ => rfl⟩, ⟨by rw [ht]; exact hP, va_K.moved hW.alike hK, hD⟩⟩, hS.F ht⟩) hS.2.2 d_L_look_18
  · obtain ⟨rfl, hkE⟩ := hE
    refine ⟨13, ⟨[], [], x0, mr_iob, ht0, s0c, mr_cov s0a s0b (by decide), by rw [s0d]; decide, (by rw [s0d]; exact (hts (Cond.classLink "MeasureRowsLaw" 13 mr_iob) mw_351)), (hts (Cond.castable mr_iob mr_iob) mw_352), (fun y hy => nomatch hy)⟩, fun q9 H1 hz hk1 => ?_⟩
    have hS : va_S A s.heap H1 [] := ⟨Nat.le_trans hS.1 hz, fun a h1 h2 => (hk1 a (Nat.lt_of_lt_of_le h1 hS.1)).trans (hS.2.1 a h1 h2), hS.2.2⟩
    have hP := hP.kept (fun k x hx => hk1 x.1 (hP k x hx).lt)
    generalize H1 = H at hP hS ⊢
    refine W.widen (k := 1) (n := 6) (Nat.le_of_ble_eq_true rfl) (Nat.le_of_ble_eq_true rfl) ?_
    refine lv_astore (lv' := [(4, .ref q9), (0, .ref (r 0)), (1, .int a0), (2, .int a1), (3, .ref o)]) hx hb d_L_look_13 hl (by decide) rfl (fun ls hl => ?_)
    refine lv_iconst (v := 1) hx hb d_L_look_15 (by decide) ?_
    exact W.iret (v := 1) hx hb hr (fun t ht hW => ⟨⟨_, fo, rfl, ⟨hkE.symm, fun h => absurd (hkE.symm.trans h) (by decide)⟩, ⟨by rw [ht]; exact hP, va_K.moved hW.alike hK, hD⟩⟩, hS.F ht⟩) hS.2.2 d_L_look_16
set_option maxHeartbeats 4000000 in
set_option maxRecDepth 100000 in
theorem mc_L_end_yX (l : Launch) (hlt : l.stackTraces = false) (s0 : State) (dC : Nat → ClassId) (dI : Nat → Nat → Nat) (cI cR cL cZ : ClassId) (r : Nat → Nat) (n : Nat) (nw pb lc : Int32) (fm fi : Nat → Int32) (fr : Nat → Option Nat) (fl fc fg : Nat → Int32) (L : List Nat) (f : Nat → va_E) (fco fla ffi fki fra fkn cls cpa fe fa fk : Nat → Int32) (i : Nat) (o : Nat) (fo : Nat → Int64) (sz : Nat) (a1 : Int32) (a2 : Int32) (hi1 : 1 ≤ i) (hin : i ≤ n) (hX : mr_RX cI n L f fr fco fla ffi fki fra fkn cls cpa fe fa fk) (hN : mr_NX n nw fco fki fra fkn fe fk) : Met l y_L_end [Cond.codeWith y_L_end b_L_end 6 (some .int) [(0, 12, 15, 13), (0, 12, 19, 22), (0, 12, 23, 24)]] ({ frames := 7, cells := 1, slots := 6, locals := 116 }) (mr_PC s0 (dC, dI) [(cI, .int), (cR, .object "MeasureRows$Row"), (cL, .long), (cZ, .boolean)] [.ref (r 0), .int (nI i), .int a1, .int a2, .ref o] (([(o, .inl (cL, 1, .inr (.inl fo))), ((r 0), .inr (0, mf_M r (nI n) nw pb lc)), ((r 1), .inr (1, [.ref (r 2), .ref (r 3)])), ((r 2), .inl (cI, 8, .inl fm)), ((r 3), .inl (cI, 8, .inl fi)), ((r 4), .inl (cR, 80, .inr (.inr (.inr (.inr fr))))), ((r 5), .inl (cI, 80, .inl fl)), ((r 6), .inl (cI, 80, .inl fc)), ((r 7), .inl (cI, 8, .inl fg))] : va_W) ++ va_pl L f) sz) (va_Qi (fun rr u => rr = mk_M_end_y fe i a1 a2 ∧ (mk_M_end_y fe i a1 a2 = 0 → u 0 = ((mv_M_end_y ffi fe i a1 : Int32).toInt64))) (fun (u : Nat → Int64) t => ∃ (nw9 : Int32) (fe9 fa9 fk9 : Nat → Int32) (f9 : Nat → va_E), mr_RX cI n L f9 fr fco fla ffi fki fra fkn cls cpa fe9 fa9 fk9 ∧ mr_W (dC, dI) [(cI, .int), (cR, .object "MeasureRows$Row"), (cL, .long), (cZ, .boolean)] (va_A (([(o, .inl (cL, 1, .inr (.inl fo))), ((r 0), .inr (0, mf_M r (nI n) nw pb lc)), ((r 1), .inr (1, [.ref (r 2), .ref (r 3)])), ((r 2), .inl (cI, 8, .inl fm)), ((r 3), .inl (cI, 8, .inl fi)), ((r 4), .inl (cR, 80, .inr (.inr (.inr (.inr fr))))), ((r 5), .inl (cI, 80, .inl fl)), ((r 6), .inl (cI, 80, .inl fc)), ((r 7), .inl (cI, 8, .inl fg))] : va_W) ++ va_pl L f) sz) (([(o, .inl (cL, 1, .inr (.inl u))), ((r 0), .inr (0, mf_M r (nI n) nw9 pb lc)), ((r 1), .inr (1, [.ref (r 2), .ref (r 3)])), ((r 2), .inl (cI, 8, .inl fm)), ((r 3), .inl (cI, 8, .inl fi)), ((r 4), .inl (cR, 80, .inr (.inr (.inr (.inr fr))))), ((r 5), .inl (cI, 80, .inl fl)), ((r 6), .inl (cI, 80, .inl fc)), ((r 7), .inl (cI, 8, .inl fg))] : va_W) ++ va_pl L f9) t ∧ nw9 = (if mk_M_end_y fe i a1 a2 = 0 then mN_M_end_nw ffi nw i a1 a2 else nw) ∧ fe9 = (if mk_M_end_y fe i a1 a2 = 0 then mN_M_end_fe ffi fe i a1 else fe) ∧ fa9 = (if mk_M_end_y fe i a1 a2 = 0 then mN_M_end_fa ffi fe fa i a1 else fa) ∧ fk9 = (if mk_M_end_y fe i a1 a2 = 0 then mN_M_end_fk ffi fe fk i a1 a2 else fk)) (va_A (([(o, .inl (cL, 1, .inr (.inl fo))), ((r 0), .inr (0, mf_M r (nI n) nw pb lc)), ((r 1), .inr (1, [.ref (r 2), .ref (r 3)])), ((r 2), .inl (cI, 8, .inl fm)), ((r 3), .inl (cI, 8, .inl fi)), ((r 4), .inl (cR, 80, .inr (.inr (.inr (.inr fr))))), ((r 5), .inl (cI, 80, .inl fl)), ((r 6), .inl (cI, 80, .inl fc)), ((r 7), .inl (cI, 8, .inl fg))] : va_W) ++ va_pl L f) sz)) 1 6 (va_A (([(o, .inl (cL, 1, .inr (.inl fo))), ((r 0), .inr (0, mf_M r (nI n) nw pb lc)), ((r 1), .inr (1, [.ref (r 2), .ref (r 3)])), ((r 2), .inl (cI, 8, .inl fm)), ((r 3), .inl (cI, 8, .inl fi)), ((r 4), .inl (cR, 80, .inr (.inr (.inr (.inr fr))))), ((r 5), .inl (cI, 80, .inl fl)), ((r 6), .inl (cI, 80, .inl fc)), ((r 7), .inl (cI, 8, .inl fg))] : va_W) ++ va_pl L f) sz) := by
  refine mr_ofH (cc := b_L_end) (maxL := 6) (ret := (some .int)) (by decide) ?_
  intro p e s m args below meth c s₁ B hml htab hv
  obtain ⟨rfl, hsz, hB, hK, hP, hD0⟩ := hv
  subst hsz
  have hA0 := mr_A hB hD0
  have hD := hD0.self (sz := s.heap.size)
  generalize hAe : va_A (([(o, .inl (cL, 1, .inr (.inl fo))), ((r 0), .inr (0, mf_M r (nI n) nw pb lc)), ((r 1), .inr (1, [.ref (r 2), .ref (r 3)])), ((r 2), .inl (cI, 8, .inl fm)), ((r 3), .inl (cI, 8, .inl fi)), ((r 4), .inl (cR, 80, .inr (.inr (.inr (.inr fr))))), ((r 5), .inl (cI, 80, .inl fl)), ((r 6), .inl (cI, 80, .inl fc)), ((r 7), .inl (cI, 8, .inl fg))] : va_W) ++ va_pl L f) s.heap.size = A at hD hA0 ⊢
  have hA : ∀ q : Nat, s.heap.size ≤ q → A q := fun q h => by rw [← hAe]; exact Or.inr h
  have hS : va_S A s.heap s.heap [] := va_S.rf
  have hP : va_P (dC, dI) mr_cl (([(o, .inl (cL, 1, .inr (.inl fo))), ((r 0), .inr (0, mf_M r (nI n) nw pb lc)), ((r 1), .inr (1, [.ref (r 2), .ref (r 3)])), ((r 2), .inl (cI, 8, .inl fm)), ((r 3), .inl (cI, 8, .inl fi)), ((r 4), .inl (cR, 80, .inr (.inr (.inr (.inr fr))))), ((r 5), .inl (cI, 80, .inl fl)), ((r 6), .inl (cI, 80, .inl fc)), ((r 7), .inl (cI, 8, .inl fg))] : va_W) ++ va_pl L f) s.heap := hP
  have hBH := hB.at hS hA0
  have hx := B.exec
  have hb := B.bytes
  have hr := B.returns
  have hlocks := B.notSynchronized
  have hts : ∀ w ∈ lw_tbl, w.before [.ref (r 0), .int (nI i), .int a1, .int a2, .ref o].toArray s = true := hB.hts _
  have hown : s.vm.findClass "MeasureRowsLaw" = some m.cls := findClass_of_methodNamed B.named
  have hl := lv_entry ([.ref (r 0), .int (nI i), .int a1, .int a2, .ref o]) (n := 6) (Nat.le_of_ble_eq_true rfl)
  rw [lg_entry_eq]
  generalize (lg_sl ([.ref (r 0), .int (nI i), .int a1, .int a2, .ref o]) ++ List.replicate (6 - (lg_sl ([.ref (r 0), .int (nI i), .int a1, .int a2, .ref o])).length) Slot.unset).toArray = ls at hl ⊢
  have hl : lv_has ls 6 [(0, .ref (r 0)), (1, .int (nI i)), (2, .int a1), (3, .int a2), (4, .ref o)] := hl
  obtain ⟨x0, x1, x2, ht0, ⟨s0a, s0b, s0c, s0d⟩, ⟨s1a, s1b, s1c, s1d⟩, s2a, s2b, s2c, s2d⟩ := mr_tab3 htab
  refine lv_aload hx hb d_L_end_0 (lv_at hl 4 rfl) ?_
  refine lv_iconst (v := 0) hx hb d_L_end_2 (by decide) ?_
  refine lv_aload_n hx hb d_L_end_3 rfl (lv_at hl 0 rfl) ?_
  refine lv_iload_n hx hb d_L_end_4 rfl (lv_at hl 1 rfl) ?_
  refine lv_iload_n hx hb d_L_end_5 rfl (lv_at hl 2 rfl) ?_
  refine lv_iload_n hx hb d_L_end_6 rfl (lv_at hl 3 rfl) ?_
  have hPc : va_P (dC, dI) mr_cl (([((r 0), .inr (0, mf_M r (nI n) nw pb lc)), ((r 1), .inr (1, [.ref (r 2), .ref (r 3)])), ((r 2), .inl (cI, 8, .inl fm)), ((r 3), .inl (cI, 8, .inl fi)), ((r 4), .inl (cR, 80, .inr (.inr (.inr (.inr fr))))), ((r 5), .inl (cI, 80, .inl fl)), ((r 6), .inl (cI, 80, .inl fc)), ((r 7), .inl (cI, 8, .inl fg))] : va_W) ++ va_pl L f) s.heap := fun k y h => hP (k + 1) y h
  have hDc : va_D A (([((r 0), .inr (0, mf_M r (nI n) nw pb lc)), ((r 1), .inr (1, [.ref (r 2), .ref (r 3)])), ((r 2), .inl (cI, 8, .inl fm)), ((r 3), .inl (cI, 8, .inl fi)), ((r 4), .inl (cR, 80, .inr (.inr (.inr (.inr fr))))), ((r 5), .inl (cI, 80, .inl fl)), ((r 6), .inl (cI, 80, .inl fc)), ((r 7), .inl (cI, 8, .inl fg))] : va_W) ++ va_pl L f) := ⟨fun i j p q h1 h2 h => Nat.succ.inj (hD.1 (i + 1) (j + 1) p q h1 h2 h), fun k q h => hD.2 (k + 1) q h⟩
  have hFc : ∀ q : Nat, va_A (([((r 0), .inr (0, mf_M r (nI n) nw pb lc)), ((r 1), .inr (1, [.ref (r 2), .ref (r 3)])), ((r 2), .inl (cI, 8, .inl fm)), ((r 3), .inl (cI, 8, .inl fi)), ((r 4), .inl (cR, 80, .inr (.inr (.inr (.inr fr))))), ((r 5), .inl (cI, 80, .inl fl)), ((r 6), .inl (cI, 80, .inl fc)), ((r 7), .inl (cI, 8, .inl fg))] : va_W) ++ va_pl L f) s.heap.size q → A q := fun q h => h.elim (fun ⟨k, e, h⟩ => hD.2 (k + 1) (q, e) h) (fun h => hA q h)
  refine mr_callVw (As := [.int (nI i), .int a1, .int a2]) (rest := [.int 0, .ref o]) (C := R_M) ⟨hx, hb, hml, hown, hts⟩ (mc_M_end_yX l hlt s0 dC dI cI cR cL cZ r n nw pb lc fm fi fr fl fc fg L f fco fla ffi fki fra fkn cls cpa fe fa fk i _ a1 a2 hi1 hin hX hN) ⟨(mr_cB 3 (hts (Cond.code y_M_end b_M_end 5 (some .int)) mw_387) (hts (Cond.initialized y_M_end.cls) mw_388) (hts (Cond.methodLink "MeasureRowsLaw" 26 y_M_end) mw_389) rfl rfl (by decide +kernel) ⟨Nat.le_of_ble_eq_true rfl, Nat.le_of_ble_eq_true rfl⟩), (hts (Cond.instanceMethod y_M_end) mw_390), (hts (Cond.selects "MeasureRows" y_M_end y_M_end) mw_391)⟩ (mr_preCV hBH hK hPc (hDc.weaken (fun _ _ _ h => hA0 _ h)) (ci := 0) (q0 := 0) rfl rfl) rfl hl.1 rfl (Nat.le_of_ble_eq_true rfl) d_L_end_7 ⟨Nat.le_of_ble_eq_true rfl, Nat.le_of_ble_eq_true rfl⟩ hS (fun q _ h => hFc q h) hFc (fun r9 u9 t H1 locs ht hvm hw hB1 hz1 hk1 hS => ?_) (fun E9 hE => ?_)
  · obtain ⟨hk0, rfl⟩ := hw
    obtain ⟨nw9, fe9, fa9, fk9, hX9, ⟨hP1, hK1, hD1⟩, en, ee, ea, ek⟩ := hB1
    rw [ht] at hP1
    obtain ⟨hP, hD⟩ := mr_tl hP hD hk1 hFc hP1 hD1
    clear hK1 hk1 hPc hDc hFc
    generalize H1 = H at hP hS ht ⊢
    have hP : va_P (dC, dI) mr_cl (([(o, .inl (cL, 1, .inr (.inl fo))), ((r 0), .inr (0, mf_M r (nI n) nw9 pb lc)), ((r 1), .inr (1, [.ref (r 2), .ref (r 3)])), ((r 2), .inl (cI, 8, .inl fm)), ((r 3), .inl (cI, 8, .inl fi)), ((r 4), .inl (cR, 80, .inr (.inr (.inr (.inr fr))))), ((r 5), .inl (cI, 80, .inl fl)), ((r 6), .inl (cI, 80, .inl fc)), ((r 7), .inl (cI, 8, .inl fg))] : va_W) ++ va_pl L u9) H := hP
    have hD : va_D A (([(o, .inl (cL, 1, .inr (.inl fo))), ((r 0), .inr (0, mf_M r (nI n) nw9 pb lc)), ((r 1), .inr (1, [.ref (r 2), .ref (r 3)])), ((r 2), .inl (cI, 8, .inl fm)), ((r 3), .inl (cI, 8, .inl fi)), ((r 4), .inl (cR, 80, .inr (.inr (.inr (.inr fr))))), ((r 5), .inl (cI, 80, .inl fl)), ((r 6), .inl (cI, 80, .inl fc)), ((r 7), .inl (cI, 8, .inl fg))] : va_W) ++ va_pl L u9) := hD
    have hBH := hB.at hS hA0
    refine W.widen (k := 1) (n := 6) (Nat.le_of_ble_eq_true rfl) (Nat.le_of_ble_eq_true rfl) ?_
    refine lv_i2l (v := (mv_M_end_y ffi fe i a1).toInt64) hx hb d_L_end_10 rfl ?_
    refine va_last (D := (dC, dI)) hx hb hK hP hD hS 0 2 rfl rfl (i := 0) (by unfold vp_in; decide) d_L_end_11 (fun H locs hP hD hS => ?_)
    have hP : va_P (dC, dI) mr_cl (([(o, .inl (cL, 1, .inr (.inl (vp_updL fo (0 : Int32).toNatClampNeg ((mv_M_end_y ffi fe i a1).toInt64))))), ((r 0), .inr (0, mf_M r (nI n) nw9 pb lc)), ((r 1), .inr (1, [.ref (r 2), .ref (r 3)])), ((r 2), .inl (cI, 8, .inl fm)), ((r 3), .inl (cI, 8, .inl fi)), ((r 4), .inl (cR, 80, .inr (.inr (.inr (.inr fr))))), ((r 5), .inl (cI, 80, .inl fl)), ((r 6), .inl (cI, 80, .inl fc)), ((r 7), .inl (cI, 8, .inl fg))] : va_W) ++ va_pl L u9) H := hP
    have hD : va_D A (([(o, .inl (cL, 1, .inr (.inl (vp_updL fo (0 : Int32).toNatClampNeg ((mv_M_end_y ffi fe i a1).toInt64))))), ((r 0), .inr (0, mf_M r (nI n) nw9 pb lc)), ((r 1), .inr (1, [.ref (r 2), .ref (r 3)])), ((r 2), .inl (cI, 8, .inl fm)), ((r 3), .inl (cI, 8, .inl fi)), ((r 4), .inl (cR, 80, .inr (.inr (.inr (.inr fr))))), ((r 5), .inl (cI, 80, .inl fl)), ((r 6), .inl (cI, 80, .inl fc)), ((r 7), .inl (cI, 8, .inl fg))] : va_W) ++ va_pl L u9) := hD
    have hBH := hB.at hS hA0
    refine lv_goto (tgt := 27) hx hb d_L_end_12 (by decide) ?_
    refine lv_iconst (v := 0) hx hb d_L_end_27 (by decide) ?_
    exact W.iret (v := 0) hx hb hr (fun t ht hW => ⟨⟨_, (vp_updL fo (0 : Int32).toNatClampNeg ((mv_M_end_y ffi fe i a1).toInt64)), rfl, ⟨hk0.symm, fun _ => rfl⟩, nw9, fe9, fa9, fk9, u9, hX9, ⟨by rw [ht]; exact hP, va_K.moved hW.alike hK, hD⟩, (by rw [if_pos hk0]; exact en), (by rw [if_pos hk0]; exact ee), (by rw [if_pos hk0]; exact ea), (by rw [if_pos hk0]; exact ek)⟩, hS.F ht⟩) hS.2.2 d_L_end_28
  · rcases hE with ⟨rfl, hkE⟩ | ⟨rfl, hkE⟩
    · refine ⟨19, ⟨[x0], [x2], x1, mr_iae, ht0, s1c, mr_cov s1a s1b (by decide), by rw [s1d]; decide, (by rw [s1d]; exact (hts (Cond.classLink "MeasureRowsLaw" 22 mr_iae) mw_363)), (hts (Cond.castable mr_iae mr_iae) mw_364), (fun y hy => by rw [List.mem_singleton.mp hy]; exact ⟨mr_cov s0a s0b (by decide), by rw [s0d]; decide, _, (by rw [s0d]; exact (hts (Cond.classLink "MeasureRowsLaw" 13 mr_iob) mw_351)), hB.nc.2.1⟩)⟩, fun q9 H1 hz hk1 => ?_⟩
      have hS : va_S A s.heap H1 [] := ⟨Nat.le_trans hS.1 hz, fun a h1 h2 => (hk1 a (Nat.lt_of_lt_of_le h1 hS.1)).trans (hS.2.1 a h1 h2), hS.2.2⟩
      have hP := hP.kept (fun k x hx => hk1 x.1 (hP k x hx).lt)
      generalize H1 = H at hP hS ⊢
      refine W.widen (k := 1) (n := 6) (Nat.le_of_ble_eq_true rfl) (Nat.le_of_ble_eq_true rfl) ?_
      refine lv_astore (lv' := [(5, .ref q9), (0, .ref (r 0)), (1, .int (nI i)), (2, .int a1), (3, .int a2), (4, .ref o)]) hx hb d_L_end_19 hl (by decide) rfl (fun ls hl => ?_)
      refine lv_iconst (v := 2) hx hb d_L_end_21 (by decide) ?_
      exact W.iret (v := 2) hx hb hr (fun t ht hW => ⟨⟨_, fo, rfl, ⟨hkE.symm, fun h => absurd (hkE.symm.trans h) (by decide)⟩, nw, fe, fa, fk, f, hX, ⟨by rw [ht]; exact hP, va_K.moved hW.alike hK, hD⟩, (by rw [if_neg (by rw [hkE]; decide)]), (by rw [if_neg (by rw [hkE]; decide)]), (by rw [if_neg (by rw [hkE]; decide)]), (by rw [if_neg (by rw [hkE]; decide)])⟩, hS.F ht⟩) hS.2.2 d_L_end_22
    · refine ⟨23, ⟨[x0, x1], [], x2, mr_ise, ht0, s2c, mr_cov s2a s2b (by decide), by rw [s2d]; decide, (by rw [s2d]; exact (hts (Cond.classLink "MeasureRowsLaw" 24 mr_ise) mw_385)), (hts (Cond.castable mr_ise mr_ise) mw_386), (fun y hy => by rcases List.mem_cons.mp hy with rfl | hy2; exact ⟨mr_cov s0a s0b (by decide), by rw [s0d]; decide, _, (by rw [s0d]; exact (hts (Cond.classLink "MeasureRowsLaw" 13 mr_iob) mw_351)), hB.nc.2.2⟩; rw [List.mem_singleton.mp hy2]; exact ⟨mr_cov s1a s1b (by decide), by rw [s1d]; decide, _, (by rw [s1d]; exact (hts (Cond.classLink "MeasureRowsLaw" 22 mr_iae) mw_363)), hB.nc.1⟩)⟩, fun q9 H1 hz hk1 => ?_⟩
      have hS : va_S A s.heap H1 [] := ⟨Nat.le_trans hS.1 hz, fun a h1 h2 => (hk1 a (Nat.lt_of_lt_of_le h1 hS.1)).trans (hS.2.1 a h1 h2), hS.2.2⟩
      have hP := hP.kept (fun k x hx => hk1 x.1 (hP k x hx).lt)
      generalize H1 = H at hP hS ⊢
      refine W.widen (k := 1) (n := 6) (Nat.le_of_ble_eq_true rfl) (Nat.le_of_ble_eq_true rfl) ?_
      refine lv_astore (lv' := [(5, .ref q9), (0, .ref (r 0)), (1, .int (nI i)), (2, .int a1), (3, .int a2), (4, .ref o)]) hx hb d_L_end_23 hl (by decide) rfl (fun ls hl => ?_)
      refine lv_iconst (v := 3) hx hb d_L_end_25 (by decide) ?_
      exact W.iret (v := 3) hx hb hr (fun t ht hW => ⟨⟨_, fo, rfl, ⟨hkE.symm, fun h => absurd (hkE.symm.trans h) (by decide)⟩, nw, fe, fa, fk, f, hX, ⟨by rw [ht]; exact hP, va_K.moved hW.alike hK, hD⟩, (by rw [if_neg (by rw [hkE]; decide)]), (by rw [if_neg (by rw [hkE]; decide)]), (by rw [if_neg (by rw [hkE]; decide)]), (by rw [if_neg (by rw [hkE]; decide)])⟩, hS.F ht⟩) hS.2.2 d_L_end_26
set_option maxHeartbeats 4000000 in
set_option maxRecDepth 100000 in
theorem mc_L_end_nX (l : Launch) (hlt : l.stackTraces = false) (s0 : State) (dC : Nat → ClassId) (dI : Nat → Nat → Nat) (cI cR cL cZ : ClassId) (r : Nat → Nat) (n : Nat) (nw pb lc : Int32) (fm fi : Nat → Int32) (fr : Nat → Option Nat) (fl fc fg : Nat → Int32) (L : List Nat) (f : Nat → va_E) (fco fla ffi fki fra fkn cls cpa fe fa fk : Nat → Int32) (o : Nat) (fo : Nat → Int64) (sz : Nat) (a0 : Int32) (a1 : Int32) (a2 : Int32) (hnr : mv_D_isRow n a0 = 0) (hX : mr_RX cI n L f fr fco fla ffi fki fra fkn cls cpa fe fa fk) (hN : mr_NX n nw fco fki fra fkn fe fk) : Met l y_L_end [Cond.codeWith y_L_end b_L_end 6 (some .int) [(0, 12, 15, 13), (0, 12, 19, 22), (0, 12, 23, 24)]] ({ frames := 7, cells := 1, slots := 6, locals := 116 }) (mr_PC s0 (dC, dI) [(cI, .int), (cR, .object "MeasureRows$Row"), (cL, .long), (cZ, .boolean)] [.ref (r 0), .int a0, .int a1, .int a2, .ref o] (([(o, .inl (cL, 1, .inr (.inl fo))), ((r 0), .inr (0, mf_M r (nI n) nw pb lc)), ((r 1), .inr (1, [.ref (r 2), .ref (r 3)])), ((r 2), .inl (cI, 8, .inl fm)), ((r 3), .inl (cI, 8, .inl fi)), ((r 4), .inl (cR, 80, .inr (.inr (.inr (.inr fr))))), ((r 5), .inl (cI, 80, .inl fl)), ((r 6), .inl (cI, 80, .inl fc)), ((r 7), .inl (cI, 8, .inl fg))] : va_W) ++ va_pl L f) sz) (va_Qi (fun rr u => rr = (1 : Int32) ∧ ((1 : Int32) = 0 → u 0 = (((0 : Int32) : Int32).toInt64))) (fun (u : Nat → Int64) t => mr_W (dC, dI) [(cI, .int), (cR, .object "MeasureRows$Row"), (cL, .long), (cZ, .boolean)] (va_A (([(o, .inl (cL, 1, .inr (.inl fo))), ((r 0), .inr (0, mf_M r (nI n) nw pb lc)), ((r 1), .inr (1, [.ref (r 2), .ref (r 3)])), ((r 2), .inl (cI, 8, .inl fm)), ((r 3), .inl (cI, 8, .inl fi)), ((r 4), .inl (cR, 80, .inr (.inr (.inr (.inr fr))))), ((r 5), .inl (cI, 80, .inl fl)), ((r 6), .inl (cI, 80, .inl fc)), ((r 7), .inl (cI, 8, .inl fg))] : va_W) ++ va_pl L f) sz) (([(o, .inl (cL, 1, .inr (.inl u))), ((r 0), .inr (0, mf_M r (nI n) nw pb lc)), ((r 1), .inr (1, [.ref (r 2), .ref (r 3)])), ((r 2), .inl (cI, 8, .inl fm)), ((r 3), .inl (cI, 8, .inl fi)), ((r 4), .inl (cR, 80, .inr (.inr (.inr (.inr fr))))), ((r 5), .inl (cI, 80, .inl fl)), ((r 6), .inl (cI, 80, .inl fc)), ((r 7), .inl (cI, 8, .inl fg))] : va_W) ++ va_pl L f) t) (va_A (([(o, .inl (cL, 1, .inr (.inl fo))), ((r 0), .inr (0, mf_M r (nI n) nw pb lc)), ((r 1), .inr (1, [.ref (r 2), .ref (r 3)])), ((r 2), .inl (cI, 8, .inl fm)), ((r 3), .inl (cI, 8, .inl fi)), ((r 4), .inl (cR, 80, .inr (.inr (.inr (.inr fr))))), ((r 5), .inl (cI, 80, .inl fl)), ((r 6), .inl (cI, 80, .inl fc)), ((r 7), .inl (cI, 8, .inl fg))] : va_W) ++ va_pl L f) sz)) 1 6 (va_A (([(o, .inl (cL, 1, .inr (.inl fo))), ((r 0), .inr (0, mf_M r (nI n) nw pb lc)), ((r 1), .inr (1, [.ref (r 2), .ref (r 3)])), ((r 2), .inl (cI, 8, .inl fm)), ((r 3), .inl (cI, 8, .inl fi)), ((r 4), .inl (cR, 80, .inr (.inr (.inr (.inr fr))))), ((r 5), .inl (cI, 80, .inl fl)), ((r 6), .inl (cI, 80, .inl fc)), ((r 7), .inl (cI, 8, .inl fg))] : va_W) ++ va_pl L f) sz) := by
  refine mr_ofH (cc := b_L_end) (maxL := 6) (ret := (some .int)) (by decide) ?_
  intro p e s m args below meth c s₁ B hml htab hv
  obtain ⟨rfl, hsz, hB, hK, hP, hD0⟩ := hv
  subst hsz
  have hA0 := mr_A hB hD0
  have hD := hD0.self (sz := s.heap.size)
  generalize hAe : va_A (([(o, .inl (cL, 1, .inr (.inl fo))), ((r 0), .inr (0, mf_M r (nI n) nw pb lc)), ((r 1), .inr (1, [.ref (r 2), .ref (r 3)])), ((r 2), .inl (cI, 8, .inl fm)), ((r 3), .inl (cI, 8, .inl fi)), ((r 4), .inl (cR, 80, .inr (.inr (.inr (.inr fr))))), ((r 5), .inl (cI, 80, .inl fl)), ((r 6), .inl (cI, 80, .inl fc)), ((r 7), .inl (cI, 8, .inl fg))] : va_W) ++ va_pl L f) s.heap.size = A at hD hA0 ⊢
  have hA : ∀ q : Nat, s.heap.size ≤ q → A q := fun q h => by rw [← hAe]; exact Or.inr h
  have hS : va_S A s.heap s.heap [] := va_S.rf
  have hP : va_P (dC, dI) mr_cl (([(o, .inl (cL, 1, .inr (.inl fo))), ((r 0), .inr (0, mf_M r (nI n) nw pb lc)), ((r 1), .inr (1, [.ref (r 2), .ref (r 3)])), ((r 2), .inl (cI, 8, .inl fm)), ((r 3), .inl (cI, 8, .inl fi)), ((r 4), .inl (cR, 80, .inr (.inr (.inr (.inr fr))))), ((r 5), .inl (cI, 80, .inl fl)), ((r 6), .inl (cI, 80, .inl fc)), ((r 7), .inl (cI, 8, .inl fg))] : va_W) ++ va_pl L f) s.heap := hP
  have hBH := hB.at hS hA0
  have hx := B.exec
  have hb := B.bytes
  have hr := B.returns
  have hlocks := B.notSynchronized
  have hts : ∀ w ∈ lw_tbl, w.before [.ref (r 0), .int a0, .int a1, .int a2, .ref o].toArray s = true := hB.hts _
  have hown : s.vm.findClass "MeasureRowsLaw" = some m.cls := findClass_of_methodNamed B.named
  have hl := lv_entry ([.ref (r 0), .int a0, .int a1, .int a2, .ref o]) (n := 6) (Nat.le_of_ble_eq_true rfl)
  rw [lg_entry_eq]
  generalize (lg_sl ([.ref (r 0), .int a0, .int a1, .int a2, .ref o]) ++ List.replicate (6 - (lg_sl ([.ref (r 0), .int a0, .int a1, .int a2, .ref o])).length) Slot.unset).toArray = ls at hl ⊢
  have hl : lv_has ls 6 [(0, .ref (r 0)), (1, .int a0), (2, .int a1), (3, .int a2), (4, .ref o)] := hl
  obtain ⟨x0, x1, x2, ht0, ⟨s0a, s0b, s0c, s0d⟩, ⟨s1a, s1b, s1c, s1d⟩, s2a, s2b, s2c, s2d⟩ := mr_tab3 htab
  refine lv_aload hx hb d_L_end_0 (lv_at hl 4 rfl) ?_
  refine lv_iconst (v := 0) hx hb d_L_end_2 (by decide) ?_
  refine lv_aload_n hx hb d_L_end_3 rfl (lv_at hl 0 rfl) ?_
  refine lv_iload_n hx hb d_L_end_4 rfl (lv_at hl 1 rfl) ?_
  refine lv_iload_n hx hb d_L_end_5 rfl (lv_at hl 2 rfl) ?_
  refine lv_iload_n hx hb d_L_end_6 rfl (lv_at hl 3 rfl) ?_
  have hPc : va_P (dC, dI) mr_cl (([((r 0), .inr (0, mf_M r (nI n) nw pb lc)), ((r 1), .inr (1, [.ref (r 2), .ref (r 3)])), ((r 2), .inl (cI, 8, .inl fm)), ((r 3), .inl (cI, 8, .inl fi)), ((r 4), .inl (cR, 80, .inr (.inr (.inr (.inr fr))))), ((r 5), .inl (cI, 80, .inl fl)), ((r 6), .inl (cI, 80, .inl fc)), ((r 7), .inl (cI, 8, .inl fg))] : va_W) ++ va_pl L f) s.heap := fun k y h => hP (k + 1) y h
  have hDc : va_D A (([((r 0), .inr (0, mf_M r (nI n) nw pb lc)), ((r 1), .inr (1, [.ref (r 2), .ref (r 3)])), ((r 2), .inl (cI, 8, .inl fm)), ((r 3), .inl (cI, 8, .inl fi)), ((r 4), .inl (cR, 80, .inr (.inr (.inr (.inr fr))))), ((r 5), .inl (cI, 80, .inl fl)), ((r 6), .inl (cI, 80, .inl fc)), ((r 7), .inl (cI, 8, .inl fg))] : va_W) ++ va_pl L f) := ⟨fun i j p q h1 h2 h => Nat.succ.inj (hD.1 (i + 1) (j + 1) p q h1 h2 h), fun k q h => hD.2 (k + 1) q h⟩
  have hFc : ∀ q : Nat, va_A (([((r 0), .inr (0, mf_M r (nI n) nw pb lc)), ((r 1), .inr (1, [.ref (r 2), .ref (r 3)])), ((r 2), .inl (cI, 8, .inl fm)), ((r 3), .inl (cI, 8, .inl fi)), ((r 4), .inl (cR, 80, .inr (.inr (.inr (.inr fr))))), ((r 5), .inl (cI, 80, .inl fl)), ((r 6), .inl (cI, 80, .inl fc)), ((r 7), .inl (cI, 8, .inl fg))] : va_W) ++ va_pl L f) s.heap.size q → A q := fun q h => h.elim (fun ⟨k, e, h⟩ => hD.2 (k + 1) (q, e) h) (fun h => hA q h)
  refine mr_callVw (As := [.int a0, .int a1, .int a2]) (rest := [.int 0, .ref o]) (C := R_M) ⟨hx, hb, hml, hown, hts⟩ (mc_M_end_nX l hlt s0 dC dI cI cR cL cZ r n nw pb lc fm fi fr fl fc fg L f fco fla ffi fki fra fkn cls cpa fe fa fk _ a0 a1 a2 hnr hX hN) ⟨(mr_cB 3 (hts (Cond.code y_M_end b_M_end 5 (some .int)) mw_387) (hts (Cond.initialized y_M_end.cls) mw_388) (hts (Cond.methodLink "MeasureRowsLaw" 26 y_M_end) mw_389) rfl rfl (by decide +kernel) ⟨Nat.le_of_ble_eq_true rfl, Nat.le_of_ble_eq_true rfl⟩), (hts (Cond.instanceMethod y_M_end) mw_390), (hts (Cond.selects "MeasureRows" y_M_end y_M_end) mw_391)⟩ (mr_preCV hBH hK hPc (hDc.weaken (fun _ _ _ h => hA0 _ h)) (ci := 0) (q0 := 0) rfl rfl) rfl hl.1 rfl (Nat.le_of_ble_eq_true rfl) d_L_end_7 ⟨Nat.le_of_ble_eq_true rfl, Nat.le_of_ble_eq_true rfl⟩ hS (fun q _ h => hFc q h) hFc (fun r9 u9 t H1 locs ht hvm hw hB1 hz1 hk1 hS => ?_) (fun E9 hE => ?_)
  · exact hw.elim
  · subst hE
    have hkE : (1 : Int32) = 1 := rfl
    refine ⟨15, ⟨[], [x1, x2], x0, mr_iob, ht0, s0c, mr_cov s0a s0b (by decide), by rw [s0d]; decide, (by rw [s0d]; exact (hts (Cond.classLink "MeasureRowsLaw" 13 mr_iob) mw_351)), (hts (Cond.castable mr_iob mr_iob) mw_352), (fun y hy => nomatch hy)⟩, fun q9 H1 hz hk1 => ?_⟩
    have hS : va_S A s.heap H1 [] := ⟨Nat.le_trans hS.1 hz, fun a h1 h2 => (hk1 a (Nat.lt_of_lt_of_le h1 hS.1)).trans (hS.2.1 a h1 h2), hS.2.2⟩
    have hP := hP.kept (fun k x hx => hk1 x.1 (hP k x hx).lt)
    generalize H1 = H at hP hS ⊢
    refine W.widen (k := 1) (n := 6) (Nat.le_of_ble_eq_true rfl) (Nat.le_of_ble_eq_true rfl) ?_
    refine lv_astore (lv' := [(5, .ref q9), (0, .ref (r 0)), (1, .int a0), (2, .int a1), (3, .int a2), (4, .ref o)]) hx hb d_L_end_15 hl (by decide) rfl (fun ls hl => ?_)
    refine lv_iconst (v := 1) hx hb d_L_end_17 (by decide) ?_
    exact W.iret (v := 1) hx hb hr (fun t ht hW => ⟨⟨_, fo, rfl, ⟨hkE.symm, fun h => absurd (hkE.symm.trans h) (by decide)⟩, ⟨by rw [ht]; exact hP, va_K.moved hW.alike hK, hD⟩⟩, hS.F ht⟩) hS.2.2 d_L_end_18
set_option maxHeartbeats 4000000 in
set_option maxRecDepth 100000 in
theorem mc_L_rowX (l : Launch) (hlt : l.stackTraces = false) (s0 : State) (dC : Nat → ClassId) (dI : Nat → Nat → Nat) (cI cR cL cZ : ClassId) (r : Nat → Nat) (n : Nat) (nw pb lc : Int32) (fm fi : Nat → Int32) (fr : Nat → Option Nat) (fl fc fg : Nat → Int32) (L : List Nat) (f : Nat → va_E) (fco fla ffi fki fra fkn cls cpa fe fa fk : Nat → Int32) (o : Nat) (fo : Nat → Int64) (sz : Nat) (a0 : Int32) (a1 : Int32) (a2 : Int32) (a3 : Int32) (a4 : Int32) (a5 : Int32) (a6 : Int32) (hX : mr_RX cI n L f fr fco fla ffi fki fra fkn cls cpa fe fa fk) (hN : mr_NX n nw fco fki fra fkn fe fk) : Met l y_L_row [Cond.codeWith y_L_row b_L_row 10 (some .int) [(0, 20, 23, 22), (0, 20, 27, 24)]] ({ frames := 7, cells := 3, slots := 27, locals := 120 }) (mr_PC s0 (dC, dI) [(cI, .int), (cR, .object "MeasureRows$Row"), (cL, .long), (cZ, .boolean)] [.ref (r 0), .int a0, .int a1, .int a2, .int a3, .int a4, .int a5, .int a6, .ref o] (([(o, .inl (cL, 1, .inr (.inl fo))), ((r 0), .inr (0, mf_M r (nI n) nw pb lc)), ((r 1), .inr (1, [.ref (r 2), .ref (r 3)])), ((r 2), .inl (cI, 8, .inl fm)), ((r 3), .inl (cI, 8, .inl fi)), ((r 4), .inl (cR, 80, .inr (.inr (.inr (.inr fr))))), ((r 5), .inl (cI, 80, .inl fl)), ((r 6), .inl (cI, 80, .inl fc)), ((r 7), .inl (cI, 8, .inl fg))] : va_W) ++ va_pl L f) sz) (va_Qi (fun rr u => rr = mk_M_row n a0 a1 a2 a3 a4 a5 a6 ∧ (mk_M_row n a0 a1 a2 a3 a4 a5 a6 = 0 → u 0 = (((if mr_fst (fun j => mv_D_clashes fco fla ffi fki fra fe fa fk nw (j + 1) a0 a1 a2 a3 a4 a5) n = -1 then nI (n + 1) else (-1) - mr_fst (fun j => mv_D_clashes fco fla ffi fki fra fe fa fk nw (j + 1) a0 a1 a2 a3 a4 a5) n) : Int32).toInt64))) (fun (u : Nat → Int64) t => (¬ (mk_M_row n a0 a1 a2 a3 a4 a5 a6 = 0 ∧ mr_fst (fun j => mv_D_clashes fco fla ffi fki fra fe fa fk nw (j + 1) a0 a1 a2 a3 a4 a5) n = -1) ∧ mr_W (dC, dI) [(cI, .int), (cR, .object "MeasureRows$Row"), (cL, .long), (cZ, .boolean)] (va_A (([(o, .inl (cL, 1, .inr (.inl fo))), ((r 0), .inr (0, mf_M r (nI n) nw pb lc)), ((r 1), .inr (1, [.ref (r 2), .ref (r 3)])), ((r 2), .inl (cI, 8, .inl fm)), ((r 3), .inl (cI, 8, .inl fi)), ((r 4), .inl (cR, 80, .inr (.inr (.inr (.inr fr))))), ((r 5), .inl (cI, 80, .inl fl)), ((r 6), .inl (cI, 80, .inl fc)), ((r 7), .inl (cI, 8, .inl fg))] : va_W) ++ va_pl L f) sz) (([(o, .inl (cL, 1, .inr (.inl u))), ((r 0), .inr (0, mf_M r (nI n) nw pb lc)), ((r 1), .inr (1, [.ref (r 2), .ref (r 3)])), ((r 2), .inl (cI, 8, .inl fm)), ((r 3), .inl (cI, 8, .inl fi)), ((r 4), .inl (cR, 80, .inr (.inr (.inr (.inr fr))))), ((r 5), .inl (cI, 80, .inl fl)), ((r 6), .inl (cI, 80, .inl fc)), ((r 7), .inl (cI, 8, .inl fg))] : va_W) ++ va_pl L f) t) ∨ (mk_M_row n a0 a1 a2 a3 a4 a5 a6 = 0 ∧ mr_fst (fun j => mv_D_clashes fco fla ffi fki fra fe fa fk nw (j + 1) a0 a1 a2 a3 a4 a5) n = -1 ∧ ∃ (fr9 : Nat → Option Nat) (L9 : List Nat) (f9 : Nat → va_E), mr_RX cI (n + 1) L9 f9 fr9 (upd fco (n + 1) a0) (upd fla (n + 1) a1) (upd ffi (n + 1) a2) (upd fki (n + 1) a4) (upd fra (n + 1) a5) (upd fkn (n + 1) a6) (upd cls (n + 1) 0) (upd cpa (n + 1) 0) (upd fe (n + 1) 1) (upd fa (8 * (n + 1)) a3) (upd fk (8 * (n + 1)) a6) ∧ mr_W (dC, dI) [(cI, .int), (cR, .object "MeasureRows$Row"), (cL, .long), (cZ, .boolean)] (va_A (([(o, .inl (cL, 1, .inr (.inl fo))), ((r 0), .inr (0, mf_M r (nI n) nw pb lc)), ((r 1), .inr (1, [.ref (r 2), .ref (r 3)])), ((r 2), .inl (cI, 8, .inl fm)), ((r 3), .inl (cI, 8, .inl fi)), ((r 4), .inl (cR, 80, .inr (.inr (.inr (.inr fr))))), ((r 5), .inl (cI, 80, .inl fl)), ((r 6), .inl (cI, 80, .inl fc)), ((r 7), .inl (cI, 8, .inl fg))] : va_W) ++ va_pl L f) sz) (([(o, .inl (cL, 1, .inr (.inl u))), ((r 0), .inr (0, mf_M r (nI (n + 1)) (if nw < a6 then a6 else nw) pb lc)), ((r 1), .inr (1, [.ref (r 2), .ref (r 3)])), ((r 2), .inl (cI, 8, .inl fm)), ((r 3), .inl (cI, 8, .inl fi)), ((r 4), .inl (cR, 80, .inr (.inr (.inr (.inr fr9))))), ((r 5), .inl (cI, 80, .inl fl)), ((r 6), .inl (cI, 80, .inl fc)), ((r 7), .inl (cI, 8, .inl fg))] : va_W) ++ va_pl L9 f9) t)) (va_A (([(o, .inl (cL, 1, .inr (.inl fo))), ((r 0), .inr (0, mf_M r (nI n) nw pb lc)), ((r 1), .inr (1, [.ref (r 2), .ref (r 3)])), ((r 2), .inl (cI, 8, .inl fm)), ((r 3), .inl (cI, 8, .inl fi)), ((r 4), .inl (cR, 80, .inr (.inr (.inr (.inr fr))))), ((r 5), .inl (cI, 80, .inl fl)), ((r 6), .inl (cI, 80, .inl fc)), ((r 7), .inl (cI, 8, .inl fg))] : va_W) ++ va_pl L f) sz)) 3 27 (va_A (([(o, .inl (cL, 1, .inr (.inl fo))), ((r 0), .inr (0, mf_M r (nI n) nw pb lc)), ((r 1), .inr (1, [.ref (r 2), .ref (r 3)])), ((r 2), .inl (cI, 8, .inl fm)), ((r 3), .inl (cI, 8, .inl fi)), ((r 4), .inl (cR, 80, .inr (.inr (.inr (.inr fr))))), ((r 5), .inl (cI, 80, .inl fl)), ((r 6), .inl (cI, 80, .inl fc)), ((r 7), .inl (cI, 8, .inl fg))] : va_W) ++ va_pl L f) sz) := by
  refine mr_ofH (cc := b_L_row) (maxL := 10) (ret := (some .int)) (by decide) ?_
  intro p e s m args below meth c s₁ B hml htab hv
  obtain ⟨rfl, hsz, hB, hK, hP, hD0⟩ := hv
  subst hsz
  have hA0 := mr_A hB hD0
  have hD := hD0.self (sz := s.heap.size)
  generalize hAe : va_A (([(o, .inl (cL, 1, .inr (.inl fo))), ((r 0), .inr (0, mf_M r (nI n) nw pb lc)), ((r 1), .inr (1, [.ref (r 2), .ref (r 3)])), ((r 2), .inl (cI, 8, .inl fm)), ((r 3), .inl (cI, 8, .inl fi)), ((r 4), .inl (cR, 80, .inr (.inr (.inr (.inr fr))))), ((r 5), .inl (cI, 80, .inl fl)), ((r 6), .inl (cI, 80, .inl fc)), ((r 7), .inl (cI, 8, .inl fg))] : va_W) ++ va_pl L f) s.heap.size = A at hD hA0 ⊢
  have hA : ∀ q : Nat, s.heap.size ≤ q → A q := fun q h => by rw [← hAe]; exact Or.inr h
  have hS : va_S A s.heap s.heap [] := va_S.rf
  have hP : va_P (dC, dI) mr_cl (([(o, .inl (cL, 1, .inr (.inl fo))), ((r 0), .inr (0, mf_M r (nI n) nw pb lc)), ((r 1), .inr (1, [.ref (r 2), .ref (r 3)])), ((r 2), .inl (cI, 8, .inl fm)), ((r 3), .inl (cI, 8, .inl fi)), ((r 4), .inl (cR, 80, .inr (.inr (.inr (.inr fr))))), ((r 5), .inl (cI, 80, .inl fl)), ((r 6), .inl (cI, 80, .inl fc)), ((r 7), .inl (cI, 8, .inl fg))] : va_W) ++ va_pl L f) s.heap := hP
  have hBH := hB.at hS hA0
  have hx := B.exec
  have hb := B.bytes
  have hr := B.returns
  have hlocks := B.notSynchronized
  have hts : ∀ w ∈ lw_tbl, w.before [.ref (r 0), .int a0, .int a1, .int a2, .int a3, .int a4, .int a5, .int a6, .ref o].toArray s = true := hB.hts _
  have hown : s.vm.findClass "MeasureRowsLaw" = some m.cls := findClass_of_methodNamed B.named
  have hl := lv_entry ([.ref (r 0), .int a0, .int a1, .int a2, .int a3, .int a4, .int a5, .int a6, .ref o]) (n := 10) (Nat.le_of_ble_eq_true rfl)
  rw [lg_entry_eq]
  generalize (lg_sl ([.ref (r 0), .int a0, .int a1, .int a2, .int a3, .int a4, .int a5, .int a6, .ref o]) ++ List.replicate (10 - (lg_sl ([.ref (r 0), .int a0, .int a1, .int a2, .int a3, .int a4, .int a5, .int a6, .ref o])).length) Slot.unset).toArray = ls at hl ⊢
  have hl : lv_has ls 10 [(0, .ref (r 0)), (1, .int a0), (2, .int a1), (3, .int a2), (4, .int a3), (5, .int a4), (6, .int a5), (7, .int a6), (8, .ref o)] := hl
  obtain ⟨x0, x1, ht0, ⟨s0a, s0b, s0c, s0d⟩, s1a, s1b, s1c, s1d⟩ := mr_tab2 htab
  refine lv_aload hx hb d_L_row_0 (lv_at hl 8 rfl) ?_
  refine lv_iconst (v := 0) hx hb d_L_row_2 (by decide) ?_
  refine lv_aload_n hx hb d_L_row_3 rfl (lv_at hl 0 rfl) ?_
  refine lv_iload_n hx hb d_L_row_4 rfl (lv_at hl 1 rfl) ?_
  refine lv_iload_n hx hb d_L_row_5 rfl (lv_at hl 2 rfl) ?_
  refine lv_iload_n hx hb d_L_row_6 rfl (lv_at hl 3 rfl) ?_
  refine lv_iload hx hb d_L_row_7 (lv_at hl 4 rfl) ?_
  refine lv_iload hx hb d_L_row_9 (lv_at hl 5 rfl) ?_
  refine lv_iload hx hb d_L_row_11 (lv_at hl 6 rfl) ?_
  refine lv_iload hx hb d_L_row_13 (lv_at hl 7 rfl) ?_
  have hPc : va_P (dC, dI) mr_cl (([((r 0), .inr (0, mf_M r (nI n) nw pb lc)), ((r 1), .inr (1, [.ref (r 2), .ref (r 3)])), ((r 2), .inl (cI, 8, .inl fm)), ((r 3), .inl (cI, 8, .inl fi)), ((r 4), .inl (cR, 80, .inr (.inr (.inr (.inr fr))))), ((r 5), .inl (cI, 80, .inl fl)), ((r 6), .inl (cI, 80, .inl fc)), ((r 7), .inl (cI, 8, .inl fg))] : va_W) ++ va_pl L f) s.heap := fun k y h => hP (k + 1) y h
  have hDc : va_D A (([((r 0), .inr (0, mf_M r (nI n) nw pb lc)), ((r 1), .inr (1, [.ref (r 2), .ref (r 3)])), ((r 2), .inl (cI, 8, .inl fm)), ((r 3), .inl (cI, 8, .inl fi)), ((r 4), .inl (cR, 80, .inr (.inr (.inr (.inr fr))))), ((r 5), .inl (cI, 80, .inl fl)), ((r 6), .inl (cI, 80, .inl fc)), ((r 7), .inl (cI, 8, .inl fg))] : va_W) ++ va_pl L f) := ⟨fun i j p q h1 h2 h => Nat.succ.inj (hD.1 (i + 1) (j + 1) p q h1 h2 h), fun k q h => hD.2 (k + 1) q h⟩
  have hFc : ∀ q : Nat, va_A (([((r 0), .inr (0, mf_M r (nI n) nw pb lc)), ((r 1), .inr (1, [.ref (r 2), .ref (r 3)])), ((r 2), .inl (cI, 8, .inl fm)), ((r 3), .inl (cI, 8, .inl fi)), ((r 4), .inl (cR, 80, .inr (.inr (.inr (.inr fr))))), ((r 5), .inl (cI, 80, .inl fl)), ((r 6), .inl (cI, 80, .inl fc)), ((r 7), .inl (cI, 8, .inl fg))] : va_W) ++ va_pl L f) s.heap.size q → A q := fun q h => h.elim (fun ⟨k, e, h⟩ => hD.2 (k + 1) (q, e) h) (fun h => hA q h)
  refine mr_callVw (As := [.int a0, .int a1, .int a2, .int a3, .int a4, .int a5, .int a6]) (rest := [.int 0, .ref o]) (C := R_M) ⟨hx, hb, hml, hown, hts⟩ (mc_M_rowX l hlt s0 dC dI cI cR cL cZ r n nw pb lc fm fi fr fl fc fg L f fco fla ffi fki fra fkn cls cpa fe fa fk _ a0 a1 a2 a3 a4 a5 a6 hX hN) ⟨(mr_cB 7 (hts (Cond.code y_M_row b_M_row 9 (some .int)) mw_380) (hts (Cond.initialized y_M_row.cls) mw_381) (hts (Cond.methodLink "MeasureRowsLaw" 18 y_M_row) mw_382) rfl rfl (by decide +kernel) ⟨Nat.le_of_ble_eq_true rfl, Nat.le_of_ble_eq_true rfl⟩), (hts (Cond.instanceMethod y_M_row) mw_383), (hts (Cond.selects "MeasureRows" y_M_row y_M_row) mw_384)⟩ (mr_preCV hBH hK hPc (hDc.weaken (fun _ _ _ h => hA0 _ h)) (ci := 0) (q0 := 0) rfl rfl) rfl hl.1 rfl (Nat.le_of_ble_eq_true rfl) d_L_row_15 ⟨Nat.le_of_ble_eq_true rfl, Nat.le_of_ble_eq_true rfl⟩ hS (fun q _ h => hFc q h) hFc (fun r9 u9 t H1 locs ht hvm hw hB1 hz1 hk1 hS => ?_) (fun E9 hE => ?_)
  · obtain ⟨hk0, hw⟩ := hw
    rcases hB1 with ⟨hu, hf, hW1⟩ | ⟨hu, hf, fr9, L9, f9, hX9, hW1⟩
    · obtain ⟨hP1, hK1, hD1⟩ := hW1
      obtain rfl : r9 = (-1) - mr_fst (fun j => mv_D_clashes fco fla ffi fki fra fe fa fk nw (j + 1) a0 a1 a2 a3 a4 a5) n := hw.elim (fun h => h.2) (fun h => absurd (hu.symm.trans h.1) (by decide))
      rw [ht] at hP1
      obtain ⟨hP, hD⟩ := mr_tl hP hD hk1 hFc hP1 hD1
      clear hK1 hk1 hPc hDc hFc
      generalize H1 = H at hP hS ht ⊢
      have hP : va_P (dC, dI) mr_cl (([(o, .inl (cL, 1, .inr (.inl fo))), ((r 0), .inr (0, mf_M r (nI n) nw pb lc)), ((r 1), .inr (1, [.ref (r 2), .ref (r 3)])), ((r 2), .inl (cI, 8, .inl fm)), ((r 3), .inl (cI, 8, .inl fi)), ((r 4), .inl (cR, 80, .inr (.inr (.inr (.inr fr))))), ((r 5), .inl (cI, 80, .inl fl)), ((r 6), .inl (cI, 80, .inl fc)), ((r 7), .inl (cI, 8, .inl fg))] : va_W) ++ va_pl L f) H := hP
      have hD : va_D A (([(o, .inl (cL, 1, .inr (.inl fo))), ((r 0), .inr (0, mf_M r (nI n) nw pb lc)), ((r 1), .inr (1, [.ref (r 2), .ref (r 3)])), ((r 2), .inl (cI, 8, .inl fm)), ((r 3), .inl (cI, 8, .inl fi)), ((r 4), .inl (cR, 80, .inr (.inr (.inr (.inr fr))))), ((r 5), .inl (cI, 80, .inl fl)), ((r 6), .inl (cI, 80, .inl fc)), ((r 7), .inl (cI, 8, .inl fg))] : va_W) ++ va_pl L f) := hD
      have hBH := hB.at hS hA0
      refine W.widen (k := 3) (n := 27) (Nat.le_of_ble_eq_true rfl) (Nat.le_of_ble_eq_true rfl) ?_
      refine lv_i2l (v := ((-1) - mr_fst (fun j => mv_D_clashes fco fla ffi fki fra fe fa fk nw (j + 1) a0 a1 a2 a3 a4 a5) n).toInt64) hx hb d_L_row_18 rfl ?_
      refine va_last (D := (dC, dI)) hx hb hK hP hD hS 0 2 rfl rfl (i := 0) (by unfold vp_in; decide) d_L_row_19 (fun H locs hP hD hS => ?_)
      have hP : va_P (dC, dI) mr_cl (([(o, .inl (cL, 1, .inr (.inl (vp_updL fo (0 : Int32).toNatClampNeg (((-1) - mr_fst (fun j => mv_D_clashes fco fla ffi fki fra fe fa fk nw (j + 1) a0 a1 a2 a3 a4 a5) n).toInt64))))), ((r 0), .inr (0, mf_M r (nI n) nw pb lc)), ((r 1), .inr (1, [.ref (r 2), .ref (r 3)])), ((r 2), .inl (cI, 8, .inl fm)), ((r 3), .inl (cI, 8, .inl fi)), ((r 4), .inl (cR, 80, .inr (.inr (.inr (.inr fr))))), ((r 5), .inl (cI, 80, .inl fl)), ((r 6), .inl (cI, 80, .inl fc)), ((r 7), .inl (cI, 8, .inl fg))] : va_W) ++ va_pl L f) H := hP
      have hD : va_D A (([(o, .inl (cL, 1, .inr (.inl (vp_updL fo (0 : Int32).toNatClampNeg (((-1) - mr_fst (fun j => mv_D_clashes fco fla ffi fki fra fe fa fk nw (j + 1) a0 a1 a2 a3 a4 a5) n).toInt64))))), ((r 0), .inr (0, mf_M r (nI n) nw pb lc)), ((r 1), .inr (1, [.ref (r 2), .ref (r 3)])), ((r 2), .inl (cI, 8, .inl fm)), ((r 3), .inl (cI, 8, .inl fi)), ((r 4), .inl (cR, 80, .inr (.inr (.inr (.inr fr))))), ((r 5), .inl (cI, 80, .inl fl)), ((r 6), .inl (cI, 80, .inl fc)), ((r 7), .inl (cI, 8, .inl fg))] : va_W) ++ va_pl L f) := hD
      have hBH := hB.at hS hA0
      refine lv_goto (tgt := 31) hx hb d_L_row_20 (by decide) ?_
      refine lv_iconst (v := 0) hx hb d_L_row_31 (by decide) ?_
      exact W.iret (v := 0) hx hb hr (fun t ht hW => ⟨⟨_, (vp_updL fo (0 : Int32).toNatClampNeg (((-1) - mr_fst (fun j => mv_D_clashes fco fla ffi fki fra fe fa fk nw (j + 1) a0 a1 a2 a3 a4 a5) n).toInt64)), rfl, ⟨hk0.symm, fun _ => by rw [if_neg hf]; rfl⟩, Or.inl ⟨fun h => hf h.2, ⟨by rw [ht]; exact hP, va_K.moved hW.alike hK, hD⟩⟩⟩, hS.F ht⟩) hS.2.2 d_L_row_32
    · obtain ⟨hP1, hK1, hD1⟩ := hW1
      obtain rfl : r9 = nI (n + 1) := hw.elim (fun h => absurd (hu.symm.trans h.1) (by decide)) (fun h => h.2)
      rw [ht] at hP1
      obtain ⟨hP, hD⟩ := mr_tl hP hD hk1 hFc hP1 hD1
      clear hK1 hk1 hPc hDc hFc
      generalize H1 = H at hP hS ht ⊢
      have hP : va_P (dC, dI) mr_cl (([(o, .inl (cL, 1, .inr (.inl fo))), ((r 0), .inr (0, mf_M r (nI (n + 1)) (if nw < a6 then a6 else nw) pb lc)), ((r 1), .inr (1, [.ref (r 2), .ref (r 3)])), ((r 2), .inl (cI, 8, .inl fm)), ((r 3), .inl (cI, 8, .inl fi)), ((r 4), .inl (cR, 80, .inr (.inr (.inr (.inr fr9))))), ((r 5), .inl (cI, 80, .inl fl)), ((r 6), .inl (cI, 80, .inl fc)), ((r 7), .inl (cI, 8, .inl fg))] : va_W) ++ va_pl L9 f9) H := hP
      have hD : va_D A (([(o, .inl (cL, 1, .inr (.inl fo))), ((r 0), .inr (0, mf_M r (nI (n + 1)) (if nw < a6 then a6 else nw) pb lc)), ((r 1), .inr (1, [.ref (r 2), .ref (r 3)])), ((r 2), .inl (cI, 8, .inl fm)), ((r 3), .inl (cI, 8, .inl fi)), ((r 4), .inl (cR, 80, .inr (.inr (.inr (.inr fr9))))), ((r 5), .inl (cI, 80, .inl fl)), ((r 6), .inl (cI, 80, .inl fc)), ((r 7), .inl (cI, 8, .inl fg))] : va_W) ++ va_pl L9 f9) := hD
      have hBH := hB.at hS hA0
      refine W.widen (k := 3) (n := 27) (Nat.le_of_ble_eq_true rfl) (Nat.le_of_ble_eq_true rfl) ?_
      refine lv_i2l (v := (nI (n + 1)).toInt64) hx hb d_L_row_18 rfl ?_
      refine va_last (D := (dC, dI)) hx hb hK hP hD hS 0 2 rfl rfl (i := 0) (by unfold vp_in; decide) d_L_row_19 (fun H locs hP hD hS => ?_)
      have hP : va_P (dC, dI) mr_cl (([(o, .inl (cL, 1, .inr (.inl (vp_updL fo (0 : Int32).toNatClampNeg ((nI (n + 1)).toInt64))))), ((r 0), .inr (0, mf_M r (nI (n + 1)) (if nw < a6 then a6 else nw) pb lc)), ((r 1), .inr (1, [.ref (r 2), .ref (r 3)])), ((r 2), .inl (cI, 8, .inl fm)), ((r 3), .inl (cI, 8, .inl fi)), ((r 4), .inl (cR, 80, .inr (.inr (.inr (.inr fr9))))), ((r 5), .inl (cI, 80, .inl fl)), ((r 6), .inl (cI, 80, .inl fc)), ((r 7), .inl (cI, 8, .inl fg))] : va_W) ++ va_pl L9 f9) H := hP
      have hD : va_D A (([(o, .inl (cL, 1, .inr (.inl (vp_updL fo (0 : Int32).toNatClampNeg ((nI (n + 1)).toInt64))))), ((r 0), .inr (0, mf_M r (nI (n + 1)) (if nw < a6 then a6 else nw) pb lc)), ((r 1), .inr (1, [.ref (r 2), .ref (r 3)])), ((r 2), .inl (cI, 8, .inl fm)), ((r 3), .inl (cI, 8, .inl fi)), ((r 4), .inl (cR, 80, .inr (.inr (.inr (.inr fr9))))), ((r 5), .inl (cI, 80, .inl fl)), ((r 6), .inl (cI, 80, .inl fc)), ((r 7), .inl (cI, 8, .inl fg))] : va_W) ++ va_pl L9 f9) := hD
      have hBH := hB.at hS hA0
      refine lv_goto (tgt := 31) hx hb d_L_row_20 (by decide) ?_
      refine lv_iconst (v := 0) hx hb d_L_row_31 (by decide) ?_
      exact W.iret (v := 0) hx hb hr (fun t ht hW => ⟨⟨_, (vp_updL fo (0 : Int32).toNatClampNeg ((nI (n + 1)).toInt64)), rfl, ⟨hk0.symm, fun _ => by rw [if_pos hf]; rfl⟩, Or.inr ⟨hk0, hf, fr9, L9, f9, hX9, ⟨by rw [ht]; exact hP, va_K.moved hW.alike hK, hD⟩⟩⟩, hS.F ht⟩) hS.2.2 d_L_row_32
  · rcases hE with ⟨rfl, hkE⟩ | ⟨rfl, hkE⟩
    · refine ⟨23, ⟨[], [x1], x0, mr_iae, ht0, s0c, mr_cov s0a s0b (by decide), by rw [s0d]; decide, (by rw [s0d]; exact (hts (Cond.classLink "MeasureRowsLaw" 22 mr_iae) mw_363)), (hts (Cond.castable mr_iae mr_iae) mw_364), (fun y hy => nomatch hy)⟩, fun q9 H1 hz hk1 => ?_⟩
      have hS : va_S A s.heap H1 [] := ⟨Nat.le_trans hS.1 hz, fun a h1 h2 => (hk1 a (Nat.lt_of_lt_of_le h1 hS.1)).trans (hS.2.1 a h1 h2), hS.2.2⟩
      have hP := hP.kept (fun k x hx => hk1 x.1 (hP k x hx).lt)
      generalize H1 = H at hP hS ⊢
      refine W.widen (k := 3) (n := 27) (Nat.le_of_ble_eq_true rfl) (Nat.le_of_ble_eq_true rfl) ?_
      refine lv_astore (lv' := [(9, .ref q9), (0, .ref (r 0)), (1, .int a0), (2, .int a1), (3, .int a2), (4, .int a3), (5, .int a4), (6, .int a5), (7, .int a6), (8, .ref o)]) hx hb d_L_row_23 hl (by decide) rfl (fun ls hl => ?_)
      refine lv_iconst (v := 1) hx hb d_L_row_25 (by decide) ?_
      exact W.iret (v := 1) hx hb hr (fun t ht hW => ⟨⟨_, fo, rfl, ⟨hkE.symm, fun h => absurd (hkE.symm.trans h) (by decide)⟩, Or.inl ⟨fun h => absurd (hkE.symm.trans h.1) (by decide), ⟨by rw [ht]; exact hP, va_K.moved hW.alike hK, hD⟩⟩⟩, hS.F ht⟩) hS.2.2 d_L_row_26
    · refine ⟨27, ⟨[x0], [], x1, mr_ise, ht0, s1c, mr_cov s1a s1b (by decide), by rw [s1d]; decide, (by rw [s1d]; exact (hts (Cond.classLink "MeasureRowsLaw" 24 mr_ise) mw_385)), (hts (Cond.castable mr_ise mr_ise) mw_386), (fun y hy => by rw [List.mem_singleton.mp hy]; exact ⟨mr_cov s0a s0b (by decide), by rw [s0d]; decide, _, (by rw [s0d]; exact (hts (Cond.classLink "MeasureRowsLaw" 22 mr_iae) mw_363)), hB.nc.1⟩)⟩, fun q9 H1 hz hk1 => ?_⟩
      have hS : va_S A s.heap H1 [] := ⟨Nat.le_trans hS.1 hz, fun a h1 h2 => (hk1 a (Nat.lt_of_lt_of_le h1 hS.1)).trans (hS.2.1 a h1 h2), hS.2.2⟩
      have hP := hP.kept (fun k x hx => hk1 x.1 (hP k x hx).lt)
      generalize H1 = H at hP hS ⊢
      refine W.widen (k := 3) (n := 27) (Nat.le_of_ble_eq_true rfl) (Nat.le_of_ble_eq_true rfl) ?_
      refine lv_astore (lv' := [(9, .ref q9), (0, .ref (r 0)), (1, .int a0), (2, .int a1), (3, .int a2), (4, .int a3), (5, .int a4), (6, .int a5), (7, .int a6), (8, .ref o)]) hx hb d_L_row_27 hl (by decide) rfl (fun ls hl => ?_)
      refine lv_iconst (v := 2) hx hb d_L_row_29 (by decide) ?_
      exact W.iret (v := 2) hx hb hr (fun t ht hW => ⟨⟨_, fo, rfl, ⟨hkE.symm, fun h => absurd (hkE.symm.trans h) (by decide)⟩, Or.inl ⟨fun h => absurd (hkE.symm.trans h.1) (by decide), ⟨by rw [ht]; exact hP, va_K.moved hW.alike hK, hD⟩⟩⟩, hS.F ht⟩) hS.2.2 d_L_row_30
