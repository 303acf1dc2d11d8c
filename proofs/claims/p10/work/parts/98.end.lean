theorem mr_arr {A : Array Value} {s : State} {ty : FieldType} (h : (Cond.arrayClass ty).before A s = true) : ∃ cA : ClassId, ArrOfT s cA ty ∧ s.vm.findClass ("[" ++ ty.toString) = some cA := by
  obtain ⟨c, k, comp, h1, h2, h3⟩ := Cond.arrayClass_spec h
  exact ⟨c, fun n z => ⟨(fun k h => by cases h), k, h2, comp, h3⟩, h1⟩
theorem mr_arrR {A : Array Value} {s : State} {C : String} (h : (Cond.arrayOver (.object C)).before A s = true) : ∃ cA : ClassId, ArrOfT s cA (.object C) ∧ va_RA s cA (.object C) := by
  obtain ⟨comp, c, k, h1, h2, h3, h4, h5⟩ := Cond.arrayOver_spec h
  exact ⟨c, fun n z => ⟨(fun k h => by cases h), k, h3, comp, h4⟩, k, comp, h3, h4, h1, h5⟩
theorem mw_529 : Cond.classLink "MeasureRowsLaw" 8 R_M ∈ lw_tbl := by decide +kernel
theorem mw_530 : Cond.instantiable R_M 9 ∈ lw_tbl := by decide +kernel
theorem mw_531 : Cond.initialized R_M ∈ lw_tbl := by decide +kernel
theorem mw_532 : Cond.code y_M_init b_M_init 1 none ∈ lw_tbl := by decide +kernel
theorem mw_533 : Cond.initialized y_M_init.cls ∈ lw_tbl := by decide +kernel
theorem mw_534 : Cond.methodLink "MeasureRowsLaw" 44 y_M_init ∈ lw_tbl := by decide +kernel
theorem mw_535 : Cond.instanceMethod y_M_init ∈ lw_tbl := by decide +kernel
theorem mw_536 : Cond.classLink "MeasureRowsLaw" 45 R_D ∈ lw_tbl := by decide +kernel
theorem mw_537 : Cond.instantiable R_D 19 ∈ lw_tbl := by decide +kernel
theorem mw_538 : Cond.initialized R_D ∈ lw_tbl := by decide +kernel
theorem mw_539 : Cond.code y_D_init b_D_init 1 none ∈ lw_tbl := by decide +kernel
theorem mw_540 : Cond.initialized y_D_init.cls ∈ lw_tbl := by decide +kernel
theorem mw_541 : Cond.methodLink "MeasureRowsLaw" 47 y_D_init ∈ lw_tbl := by decide +kernel
theorem mw_542 : Cond.instanceMethod y_D_init ∈ lw_tbl := by decide +kernel
theorem mw_543 : Cond.arrayClass .long ∈ lw_tbl := by decide +kernel
set_option maxHeartbeats 4000000 in
set_option maxRecDepth 100000 in
/-- THE LAW, from its entry -/
theorem whole_start {p : Program} {e : Env} {s : State} {m : MethodId} {below : List Frame} {meth : Method} {c : Code} (l : Launch) (hlt : l.stackTraces = false) {b Ln : Nat} {xs : Nat → Int32} (hL : Ln ≤ 4096) (C0 : lw_At p s m meth c b Ln xs) : W p l e room_1 s m #[Value.ref b] below meth c s.heap [] 0 0 (lw_Z below #[Value.ref b] s) (entryFrame m ([Value.ref b] : List Value).toArray 7) := by
  obtain ⟨hx, hb, hr, hml, hown, hts, hX, hbl, hlocks, hgv⟩ := id C0
  have hs := flat_of_before _ hgv
  have hB : mr_B s s := ⟨⟨#[Value.ref b], hts, hs _ (by decide +kernel), hs _ (by decide +kernel), va_Nc.of (args := #[Value.ref b]) (hs _ (by decide +kernel)), va_Nc.of (args := #[Value.ref b]) (hs _ (by decide +kernel)), va_Nc.of (args := #[Value.ref b]) (hs _ (by decide +kernel))⟩, State.WarmedH.refl s, Nat.le_refl _, fun _ _ => rfl⟩
  obtain ⟨A, hAe⟩ : ∃ A : Nat → Prop, A = fun q => s.heap.size ≤ q := ⟨_, rfl⟩
  have hA : ∀ q : Nat, s.heap.size ≤ q → A q := fun q h => by rw [hAe]; exact h
  have hA0 : ∀ q : Nat, A q → s.heap.size ≤ q := fun q h => by rw [hAe] at h; exact h
  have hbA : ¬ A b := fun h => absurd (hA0 b h) (Nat.not_le.mpr hbl)
  obtain ⟨c0, iS0, hKn0⟩ := u_known (C := R_M) (T := T_M) (N := 9) (n := 9) hts ti_M (hts (Cond.instantiable R_M 9) mw_530)
  obtain ⟨c1, iS1, hKn1⟩ := u_known (C := R_G) (T := T_G) (N := 2) (n := 2) hts ti_G (hts (Cond.instantiable R_G 2) mw_47)
  obtain ⟨c2, iS2, hKn2⟩ := u_known (C := R_R) (T := T_R) (N := 11) (n := 11) hts ti_R (hts (Cond.instantiable R_R 11) mw_253)
  obtain ⟨c3, iS3, hKn3⟩ := u_known (C := R_D) (T := T_D) (N := 19) (n := 19) hts ti_D (hts (Cond.instantiable R_D 19) mw_537)
  obtain ⟨dC, dI, hKc⟩ : ∃ (dC : Nat → ClassId) (dI : Nat → Nat → Nat), ∀ (k : Nat) (q : vw_C), mr_cl[k]? = some q → u_Kn s q.1 q.2.1 q.2.2 (dC k) (dI k) := by
    refine ⟨fun k => match k with | 0 => c0 | 1 => c1 | 2 => c2 | _ => c3, fun k => match k with | 0 => iS0 | 1 => iS1 | 2 => iS2 | _ => iS3, ?_⟩
    intro k q hq
    match k, hq with
    | 0, hq => cases hq; exact hKn0
    | 1, hq => cases hq; exact hKn1
    | 2, hq => cases hq; exact hKn2
    | 3, hq => cases hq; exact hKn3
    | k + 4, hq => simp [mr_cl] at hq
  obtain ⟨cI, aI1, aI2⟩ := mr_arr (hts (Cond.arrayClass .int) mw_43)
  obtain ⟨cL, aL1, aL2⟩ := mr_arr (hts (Cond.arrayClass .long) mw_543)
  obtain ⟨cZ, aZ1, aZ2⟩ := mr_arr (hts (Cond.arrayClass .boolean) mw_345)
  obtain ⟨cR, aR1, aR2⟩ := mr_arrR (hts (Cond.arrayOver (.object "MeasureRows$Row")) mw_55)
  have hS : va_S A s.heap s.heap [] := va_S.rf
  have hK : va_K (dC, dI) mr_cl [(cI, .int), (cR, .object "MeasureRows$Row"), (cL, .long), (cZ, .boolean)] s := ⟨hKc, fun k q hq => by
    match k, hq with
    | 0, hq => cases hq; exact ⟨aI1, aI2⟩
    | 1, hq => cases hq; exact ⟨aR1, aR2⟩
    | 2, hq => cases hq; exact ⟨aL1, aL2⟩
    | 3, hq => cases hq; exact ⟨aZ1, aZ2⟩
    | k + 4, hq => simp at hq⟩
  have hP : va_P (dC, dI) mr_cl [] s.heap := fun k q h => by simp at h
  have hD : va_D A [] := ⟨fun i j p q h => by simp at h, fun k q h => by simp at h⟩
  have hBH := hB.at hS hA0
  have hl := lv_entry ([.ref b]) (n := 7) (Nat.le_of_ble_eq_true rfl)
  rw [lg_entry_eq]
  generalize (lg_sl ([.ref b]) ++ List.replicate (7 - (lg_sl ([.ref b])).length) Slot.unset).toArray = ls at hl ⊢
  have hl : lv_has ls 7 [(0, .ref b)] := hl
  refine va_new (ci := 0) (fs := [.null, .null, .int 0, .int 0, .int 0, .null, .int 0, .null, .null]) (C := R_M) (T := T_M) (N := 9) hx hb hts ti_M t_M to_M hown (hts (Cond.classLink "MeasureRowsLaw" 8 R_M) mw_529) (hts (Cond.instantiable R_M 9) mw_530) (hts (Cond.initialized R_M) mw_531) hK hP hD hS hA rfl (fun j hj => by rcases (show j = 0 ∨ j = 1 ∨ j = 2 ∨ j = 3 ∨ j = 4 ∨ j = 5 ∨ j = 6 ∨ j = 7 ∨ j = 8 by omega) with rfl | rfl | rfl | rfl | rfl | rfl | rfl | rfl | rfl <;> rfl) (Nat.le_of_ble_eq_true rfl) (Nat.le_of_ble_eq_true rfl) d_L_law_0 (fun q_1 H hP hD hS => ?_)
  have hP : va_P (dC, dI) mr_cl [(q_1, .inr (0, [.null, .null, .int 0, .int 0, .int 0, .null, .int 0, .null, .null]))] H := hP
  have hD : va_D A [(q_1, .inr (0, [.null, .null, .int 0, .int 0, .int 0, .null, .int 0, .null, .null]))] := hD
  have hBH := hB.at hS hA0
  refine W.widen (k := 1) (n := 9) (by omega) (by omega) ?_
  refine lv_dup hx hb d_L_law_3 rfl ?_
  have hPc := hP.sub (ws' := [(q_1, .inr (0, [.null, .null, .int 0, .int 0, .int 0, .null, .int 0, .null, .null]))]) [0] rfl
  have hDc := hD.sub (ws' := [(q_1, .inr (0, [.null, .null, .int 0, .int 0, .int 0, .null, .int 0, .null, .null]))]) [0] (by decide) rfl
  have hFc := va_free (wc := [(q_1, .inr (0, [.null, .null, .int 0, .int 0, .int 0, .null, .int 0, .null, .null]))]) hD hS hA [0] rfl
  refine va_callv (va_runI (As := []) (rest := [.ref q_1]) ⟨hx, hb, hml, hown, hts⟩ (mc_M_init l s dC dI cI cR cL cZ q_1 _) ⟨(mr_cB 0 (hts (Cond.code y_M_init b_M_init 1 none) mw_532) (hts (Cond.initialized y_M_init.cls) mw_533) (hts (Cond.methodLink "MeasureRowsLaw" 44 y_M_init) mw_534) rfl rfl (by decide +kernel) ⟨Nat.le_of_ble_eq_true rfl, Nat.le_of_ble_eq_true rfl⟩), rfl, (hts (Cond.instanceMethod y_M_init) mw_535)⟩ (mr_preCS hBH hK hPc (hDc.weaken (fun _ _ _ h => hA0 _ h))) rfl rfl hl.1 rfl (lv_room (Nat.le_of_ble_eq_true rfl)) d_L_law_4 ⟨Nat.le_of_ble_eq_true rfl, Nat.le_of_ble_eq_true rfl⟩) hS (fun q _ h => hFc q h) hFc (fun u_3 t H1 locs ht hvm hw hB1 hz1 hk1 hS => ?_)
  obtain ⟨rx, erx⟩ : ∃ z, z = u_3 := ⟨_, rfl⟩
  rw [← erx] at hw hB1
  have hw : rx 0 = q_1 := hw
  obtain ⟨hP1, hK1, hD1⟩ := hB1
  rw [ht] at hP1
  obtain ⟨hP, hD⟩ := va_join (wr := []) (w1 := [((rx 0), .inr (0, mf_M rx (nI 0) 0 0 0)), ((rx 1), .inr (1, [.ref (rx 2), .ref (rx 3)])), ((rx 2), .inl (cI, 8, .inl (fun _ => 0))), ((rx 3), .inl (cI, 8, .inl (fun _ => 0))), ((rx 4), .inl (cR, 80, .inr (.inr (.inr (.inr (fun _ => none)))))), ((rx 5), .inl (cI, 80, .inl (fun _ => 0))), ((rx 6), .inl (cI, 80, .inl (fun _ => 0))), ((rx 7), .inl (cI, 8, .inl (fun _ => 0)))]) hP hD [0] [] rfl rfl (by decide) (by decide) hk1 hFc hP1 hD1
  clear hK1 hk1 hPc hDc hFc
  generalize H1 = H at hP hS ht ⊢
  have hP : va_P (dC, dI) mr_cl [((rx 0), .inr (0, mf_M rx (nI 0) 0 0 0)), ((rx 1), .inr (1, [.ref (rx 2), .ref (rx 3)])), ((rx 2), .inl (cI, 8, .inl (fun _ => 0))), ((rx 3), .inl (cI, 8, .inl (fun _ => 0))), ((rx 4), .inl (cR, 80, .inr (.inr (.inr (.inr (fun _ => none)))))), ((rx 5), .inl (cI, 80, .inl (fun _ => 0))), ((rx 6), .inl (cI, 80, .inl (fun _ => 0))), ((rx 7), .inl (cI, 8, .inl (fun _ => 0)))] H := hP
  have hD : va_D A [((rx 0), .inr (0, mf_M rx (nI 0) 0 0 0)), ((rx 1), .inr (1, [.ref (rx 2), .ref (rx 3)])), ((rx 2), .inl (cI, 8, .inl (fun _ => 0))), ((rx 3), .inl (cI, 8, .inl (fun _ => 0))), ((rx 4), .inl (cR, 80, .inr (.inr (.inr (.inr (fun _ => none)))))), ((rx 5), .inl (cI, 80, .inl (fun _ => 0))), ((rx 6), .inl (cI, 80, .inl (fun _ => 0))), ((rx 7), .inl (cI, 8, .inl (fun _ => 0)))] := hD
  have hBH := hB.at hS hA0
  refine W.widen (k := 8) (n := 275) (by omega) (by omega) ?_
  rw [← hw]
  refine lv_astore_n (lv' := [(1, .ref (rx 0)), (0, .ref b)]) hx hb d_L_law_7 rfl hl (by decide) rfl (fun ls hl => ?_)
  refine va_new (ci := 3) (fs := [.int 0, .null, .int 0, .null, .null, .null, .null, .null, .null, .null, .null, .null, .null, .null, .int 0, .int 0, .null, .int 0, .null]) (C := R_D) (T := T_D) (N := 19) hx hb hts ti_D t_D to_D hown (hts (Cond.classLink "MeasureRowsLaw" 45 R_D) mw_536) (hts (Cond.instantiable R_D 19) mw_537) (hts (Cond.initialized R_D) mw_538) hK hP hD hS hA rfl (fun j hj => by rcases (show j = 0 ∨ j = 1 ∨ j = 2 ∨ j = 3 ∨ j = 4 ∨ j = 5 ∨ j = 6 ∨ j = 7 ∨ j = 8 ∨ j = 9 ∨ j = 10 ∨ j = 11 ∨ j = 12 ∨ j = 13 ∨ j = 14 ∨ j = 15 ∨ j = 16 ∨ j = 17 ∨ j = 18 by omega) with rfl | rfl | rfl | rfl | rfl | rfl | rfl | rfl | rfl | rfl | rfl | rfl | rfl | rfl | rfl | rfl | rfl | rfl | rfl <;> rfl) (Nat.le_of_ble_eq_true rfl) (Nat.le_of_ble_eq_true rfl) d_L_law_8 (fun q_4 H hP hD hS => ?_)
  have hP : va_P (dC, dI) mr_cl [((rx 0), .inr (0, mf_M rx (nI 0) 0 0 0)), ((rx 1), .inr (1, [.ref (rx 2), .ref (rx 3)])), ((rx 2), .inl (cI, 8, .inl (fun _ => 0))), ((rx 3), .inl (cI, 8, .inl (fun _ => 0))), ((rx 4), .inl (cR, 80, .inr (.inr (.inr (.inr (fun _ => none)))))), ((rx 5), .inl (cI, 80, .inl (fun _ => 0))), ((rx 6), .inl (cI, 80, .inl (fun _ => 0))), ((rx 7), .inl (cI, 8, .inl (fun _ => 0))), (q_4, .inr (3, [.int 0, .null, .int 0, .null, .null, .null, .null, .null, .null, .null, .null, .null, .null, .null, .int 0, .int 0, .null, .int 0, .null]))] H := hP
  have hD : va_D A [((rx 0), .inr (0, mf_M rx (nI 0) 0 0 0)), ((rx 1), .inr (1, [.ref (rx 2), .ref (rx 3)])), ((rx 2), .inl (cI, 8, .inl (fun _ => 0))), ((rx 3), .inl (cI, 8, .inl (fun _ => 0))), ((rx 4), .inl (cR, 80, .inr (.inr (.inr (.inr (fun _ => none)))))), ((rx 5), .inl (cI, 80, .inl (fun _ => 0))), ((rx 6), .inl (cI, 80, .inl (fun _ => 0))), ((rx 7), .inl (cI, 8, .inl (fun _ => 0))), (q_4, .inr (3, [.int 0, .null, .int 0, .null, .null, .null, .null, .null, .null, .null, .null, .null, .null, .null, .int 0, .int 0, .null, .int 0, .null]))] := hD
  have hBH := hB.at hS hA0
  refine W.widen (k := 9) (n := 294) (by omega) (by omega) ?_
  refine lv_dup hx hb d_L_law_11 rfl ?_
  have hPc := hP.sub (ws' := [(q_4, .inr (3, [.int 0, .null, .int 0, .null, .null, .null, .null, .null, .null, .null, .null, .null, .null, .null, .int 0, .int 0, .null, .int 0, .null]))]) [8] rfl
  have hDc := hD.sub (ws' := [(q_4, .inr (3, [.int 0, .null, .int 0, .null, .null, .null, .null, .null, .null, .null, .null, .null, .null, .null, .int 0, .int 0, .null, .int 0, .null]))]) [8] (by decide) rfl
  have hFc := va_free (wc := [(q_4, .inr (3, [.int 0, .null, .int 0, .null, .null, .null, .null, .null, .null, .null, .null, .null, .null, .null, .int 0, .int 0, .null, .int 0, .null]))]) hD hS hA [8] rfl
  refine va_callv (va_runI (As := []) (rest := [.ref q_4]) ⟨hx, hb, hml, hown, hts⟩ (mc_D_init l s dC dI cI cR cL cZ q_4 _) ⟨(mr_cB 0 (hts (Cond.code y_D_init b_D_init 1 none) mw_539) (hts (Cond.initialized y_D_init.cls) mw_540) (hts (Cond.methodLink "MeasureRowsLaw" 47 y_D_init) mw_541) rfl rfl (by decide +kernel) ⟨Nat.le_of_ble_eq_true rfl, Nat.le_of_ble_eq_true rfl⟩), rfl, (hts (Cond.instanceMethod y_D_init) mw_542)⟩ (mr_preCS hBH hK hPc (hDc.weaken (fun _ _ _ h => hA0 _ h))) rfl rfl hl.1 rfl (lv_room (Nat.le_of_ble_eq_true rfl)) d_L_law_12 ⟨Nat.le_of_ble_eq_true rfl, Nat.le_of_ble_eq_true rfl⟩) hS (fun q _ h => hFc q h) hFc (fun u_6 t H1 locs ht hvm hw hB1 hz1 hk1 hS => ?_)
  obtain ⟨rm, erm⟩ : ∃ z, z = u_6 := ⟨_, rfl⟩
  rw [← erm] at hw hB1
  have hw : rm 0 = q_4 := hw
  obtain ⟨hP1, hK1, hD1⟩ := hB1
  rw [ht] at hP1
  obtain ⟨hP, hD⟩ := va_join (wr := [((rx 0), .inr (0, mf_M rx (nI 0) 0 0 0)), ((rx 1), .inr (1, [.ref (rx 2), .ref (rx 3)])), ((rx 2), .inl (cI, 8, .inl (fun _ => 0))), ((rx 3), .inl (cI, 8, .inl (fun _ => 0))), ((rx 4), .inl (cR, 80, .inr (.inr (.inr (.inr (fun _ => none)))))), ((rx 5), .inl (cI, 80, .inl (fun _ => 0))), ((rx 6), .inl (cI, 80, .inl (fun _ => 0))), ((rx 7), .inl (cI, 8, .inl (fun _ => 0)))]) (w1 := [((rm 0), .inr (3, mf_D rm 0 0 0 0 0)), ((rm 1), .inl (cI, 8, .inl (fun _ => 0))), ((rm 3), .inl (cI, 81, .inl (fun _ => 0))), ((rm 4), .inl (cI, 81, .inl (fun _ => 0))), ((rm 5), .inl (cI, 81, .inl (fun _ => 0))), ((rm 6), .inl (cI, 81, .inl (fun _ => 0))), ((rm 7), .inl (cI, 81, .inl (fun _ => 0))), ((rm 8), .inl (cI, 81, .inl (fun _ => 0))), ((rm 9), .inl (cI, 81, .inl (fun _ => 0))), ((rm 10), .inl (cI, 81, .inl (fun _ => 0))), ((rm 11), .inl (cI, 81, .inl (fun _ => 0))), ((rm 12), .inl (cI, 648, .inl (fun _ => 0))), ((rm 13), .inl (cI, 648, .inl (fun _ => 0))), ((rm 16), .inl (cI, 80, .inl (fun _ => 0))), ((rm 18), .inl (cZ, 81, .inl (fun _ => 0)))]) hP hD [8] [0, 1, 2, 3, 4, 5, 6, 7] rfl rfl (by decide) (by decide) hk1 hFc hP1 hD1
  clear hK1 hk1 hPc hDc hFc
  generalize H1 = H at hP hS ht ⊢
  have hP : va_P (dC, dI) mr_cl [((rx 0), .inr (0, mf_M rx (nI 0) 0 0 0)), ((rx 1), .inr (1, [.ref (rx 2), .ref (rx 3)])), ((rx 2), .inl (cI, 8, .inl (fun _ => 0))), ((rx 3), .inl (cI, 8, .inl (fun _ => 0))), ((rx 4), .inl (cR, 80, .inr (.inr (.inr (.inr (fun _ => none)))))), ((rx 5), .inl (cI, 80, .inl (fun _ => 0))), ((rx 6), .inl (cI, 80, .inl (fun _ => 0))), ((rx 7), .inl (cI, 8, .inl (fun _ => 0))), ((rm 0), .inr (3, mf_D rm 0 0 0 0 0)), ((rm 1), .inl (cI, 8, .inl (fun _ => 0))), ((rm 3), .inl (cI, 81, .inl (fun _ => 0))), ((rm 4), .inl (cI, 81, .inl (fun _ => 0))), ((rm 5), .inl (cI, 81, .inl (fun _ => 0))), ((rm 6), .inl (cI, 81, .inl (fun _ => 0))), ((rm 7), .inl (cI, 81, .inl (fun _ => 0))), ((rm 8), .inl (cI, 81, .inl (fun _ => 0))), ((rm 9), .inl (cI, 81, .inl (fun _ => 0))), ((rm 10), .inl (cI, 81, .inl (fun _ => 0))), ((rm 11), .inl (cI, 81, .inl (fun _ => 0))), ((rm 12), .inl (cI, 648, .inl (fun _ => 0))), ((rm 13), .inl (cI, 648, .inl (fun _ => 0))), ((rm 16), .inl (cI, 80, .inl (fun _ => 0))), ((rm 18), .inl (cZ, 81, .inl (fun _ => 0)))] H := hP
  have hD : va_D A [((rx 0), .inr (0, mf_M rx (nI 0) 0 0 0)), ((rx 1), .inr (1, [.ref (rx 2), .ref (rx 3)])), ((rx 2), .inl (cI, 8, .inl (fun _ => 0))), ((rx 3), .inl (cI, 8, .inl (fun _ => 0))), ((rx 4), .inl (cR, 80, .inr (.inr (.inr (.inr (fun _ => none)))))), ((rx 5), .inl (cI, 80, .inl (fun _ => 0))), ((rx 6), .inl (cI, 80, .inl (fun _ => 0))), ((rx 7), .inl (cI, 8, .inl (fun _ => 0))), ((rm 0), .inr (3, mf_D rm 0 0 0 0 0)), ((rm 1), .inl (cI, 8, .inl (fun _ => 0))), ((rm 3), .inl (cI, 81, .inl (fun _ => 0))), ((rm 4), .inl (cI, 81, .inl (fun _ => 0))), ((rm 5), .inl (cI, 81, .inl (fun _ => 0))), ((rm 6), .inl (cI, 81, .inl (fun _ => 0))), ((rm 7), .inl (cI, 81, .inl (fun _ => 0))), ((rm 8), .inl (cI, 81, .inl (fun _ => 0))), ((rm 9), .inl (cI, 81, .inl (fun _ => 0))), ((rm 10), .inl (cI, 81, .inl (fun _ => 0))), ((rm 11), .inl (cI, 81, .inl (fun _ => 0))), ((rm 12), .inl (cI, 648, .inl (fun _ => 0))), ((rm 13), .inl (cI, 648, .inl (fun _ => 0))), ((rm 16), .inl (cI, 80, .inl (fun _ => 0))), ((rm 18), .inl (cZ, 81, .inl (fun _ => 0)))] := hD
  have hBH := hB.at hS hA0
  refine W.widen (k := 23) (n := 2488) (by omega) (by omega) ?_
  rw [← hw]
  refine lv_astore_n (lv' := [(2, .ref (rm 0)), (1, .ref (rx 0)), (0, .ref b)]) hx hb d_L_law_15 rfl hl (by decide) rfl (fun ls hl => ?_)
  refine lv_iconst (v := 1) hx hb d_L_law_16 (by decide) ?_
  refine va_newa (atype := .long) hx hb (hts (Cond.arrayClass .long) mw_543) (ty := .long) rfl hK hP hD hS hA (n := 1) (N' := 1) (a0 := (1, .inr (.inl (fun _ => 0)))) (fun _ => rfl) (by decide) (by decide) (by decide) (Nat.le_of_ble_eq_true rfl) (Nat.le_of_ble_eq_true rfl) d_L_law_17 (fun q_7 cA_8 H hK1 hP hD hS => ?_)
  rw [mr_sameL hK1] at hP hD
  clear hK1
  have hP : va_P (dC, dI) mr_cl [((rx 0), .inr (0, mf_M rx (nI 0) 0 0 0)), ((rx 1), .inr (1, [.ref (rx 2), .ref (rx 3)])), ((rx 2), .inl (cI, 8, .inl (fun _ => 0))), ((rx 3), .inl (cI, 8, .inl (fun _ => 0))), ((rx 4), .inl (cR, 80, .inr (.inr (.inr (.inr (fun _ => none)))))), ((rx 5), .inl (cI, 80, .inl (fun _ => 0))), ((rx 6), .inl (cI, 80, .inl (fun _ => 0))), ((rx 7), .inl (cI, 8, .inl (fun _ => 0))), ((rm 0), .inr (3, mf_D rm 0 0 0 0 0)), ((rm 1), .inl (cI, 8, .inl (fun _ => 0))), ((rm 3), .inl (cI, 81, .inl (fun _ => 0))), ((rm 4), .inl (cI, 81, .inl (fun _ => 0))), ((rm 5), .inl (cI, 81, .inl (fun _ => 0))), ((rm 6), .inl (cI, 81, .inl (fun _ => 0))), ((rm 7), .inl (cI, 81, .inl (fun _ => 0))), ((rm 8), .inl (cI, 81, .inl (fun _ => 0))), ((rm 9), .inl (cI, 81, .inl (fun _ => 0))), ((rm 10), .inl (cI, 81, .inl (fun _ => 0))), ((rm 11), .inl (cI, 81, .inl (fun _ => 0))), ((rm 12), .inl (cI, 648, .inl (fun _ => 0))), ((rm 13), .inl (cI, 648, .inl (fun _ => 0))), ((rm 16), .inl (cI, 80, .inl (fun _ => 0))), ((rm 18), .inl (cZ, 81, .inl (fun _ => 0))), (q_7, .inl (cL, 1, .inr (.inl (fun _ => 0))))] H := hP
  have hD : va_D A [((rx 0), .inr (0, mf_M rx (nI 0) 0 0 0)), ((rx 1), .inr (1, [.ref (rx 2), .ref (rx 3)])), ((rx 2), .inl (cI, 8, .inl (fun _ => 0))), ((rx 3), .inl (cI, 8, .inl (fun _ => 0))), ((rx 4), .inl (cR, 80, .inr (.inr (.inr (.inr (fun _ => none)))))), ((rx 5), .inl (cI, 80, .inl (fun _ => 0))), ((rx 6), .inl (cI, 80, .inl (fun _ => 0))), ((rx 7), .inl (cI, 8, .inl (fun _ => 0))), ((rm 0), .inr (3, mf_D rm 0 0 0 0 0)), ((rm 1), .inl (cI, 8, .inl (fun _ => 0))), ((rm 3), .inl (cI, 81, .inl (fun _ => 0))), ((rm 4), .inl (cI, 81, .inl (fun _ => 0))), ((rm 5), .inl (cI, 81, .inl (fun _ => 0))), ((rm 6), .inl (cI, 81, .inl (fun _ => 0))), ((rm 7), .inl (cI, 81, .inl (fun _ => 0))), ((rm 8), .inl (cI, 81, .inl (fun _ => 0))), ((rm 9), .inl (cI, 81, .inl (fun _ => 0))), ((rm 10), .inl (cI, 81, .inl (fun _ => 0))), ((rm 11), .inl (cI, 81, .inl (fun _ => 0))), ((rm 12), .inl (cI, 648, .inl (fun _ => 0))), ((rm 13), .inl (cI, 648, .inl (fun _ => 0))), ((rm 16), .inl (cI, 80, .inl (fun _ => 0))), ((rm 18), .inl (cZ, 81, .inl (fun _ => 0))), (q_7, .inl (cL, 1, .inr (.inl (fun _ => 0))))] := hD
  have hBH := hB.at hS hA0
  refine W.widen (k := 24) (n := 2489) (by omega) (by omega) ?_
  refine lv_astore_n (lv' := [(3, .ref q_7), (2, .ref (rm 0)), (1, .ref (rx 0)), (0, .ref b)]) hx hb d_L_law_19 rfl hl (by decide) rfl (fun ls hl => ?_)
  refine lv_iconst (v := 0) hx hb d_L_law_20 (by decide) ?_
  refine lv_istore (lv' := [(4, .int 0), (3, .ref q_7), (2, .ref (rm 0)), (1, .ref (rx 0)), (0, .ref b)]) hx hb d_L_law_21 hl (by decide) rfl (fun ls hl => ?_)
  obtain ⟨o, ho⟩ : ∃ z, z = q_7 := ⟨_, rfl⟩
  rw [← ho] at hP hD hl
  have hI0 : lw_I dC dI cI cR cL cZ rx rm o A H := ⟨0, 0, (fun _ => 0), (fun _ => 0), (fun _ => 0), (fun _ => 0), (fun _ => 0), (fun _ => 0), (fun _ => 0), (fun _ => 0), (fun _ => 0), (fun _ => 0), 0, 0, (fun _ => 0), (fun _ => 0), (fun _ => 0), (fun _ => 0), 0, 0, (fun _ => 0), (fun _ => none), (fun _ => 0), (fun _ => 0), (fun _ => 0), (fun _ => 0), (fun _ => 0), [], (fun _ => .inl (cI, 0, .inl (fun _ => 0))), (fun _ => 0), ⟨Nat.zero_le _, fun i h1 h2 => absurd h2 (by omega)⟩, Nat.zero_le _, ⟨Nat.zero_le _, fun _ => 0, fun x y h1 h2 => absurd h2 (by omega), fun i h1 h2 => absurd h2 (by omega)⟩, Nat.zero_le _, mr_tie0, mr_LS0, mr_LS0, hP.sub [8, 9, 10, 11, 12, 13, 14, 15, 16, 17, 18, 19, 20, 21, 22, 23, 0, 1, 2, 3, 4, 5, 6, 7] rfl, hD.sub [8, 9, 10, 11, 12, 13, 14, 15, 16, 17, 18, 19, 20, 21, 22, 23, 0, 1, 2, 3, 4, 5, 6, 7] (by decide) rfl⟩
  refine mr_loopC (N := Ln / 8) (kc := fun j => 24 + 3 * j) (ks := fun j => 2489 + 27 * j) (I := fun j H locs ls => lw_I dC dI cI cR cL cZ rx rm o A H ∧ va_S A s.heap H locs ∧ lv_has ls 7 [(4, .int (nI (8 * j))), (3, .ref o), (2, .ref (rm 0)), (1, .ref (rx 0)), (0, .ref b)]) (fun j H locs ls hj hI ih => ?_) (fun H locs ls hI => ?_) 0 _ _ _ (Nat.zero_le _) ⟨hI0, hS, (lv_sub hl [0, 1, 2, 3, 4] rfl)⟩
  · obtain ⟨hI, hS, hl⟩ := hI
    refine W.widen (k := 24 + 3 * j) (n := 2489 + 27 * j) (Nat.le_refl _) (Nat.le_refl _) ?_
    obtain ⟨i, hie⟩ : ∃ z, z = 8 * j := ⟨_, rfl⟩
    rw [← hie] at hl
    have hi : i + 8 ≤ Ln := by omega
    refine lv_iload hx hb d_L_law_23 (lv_at hl 0 rfl) ?_
    refine lv_aload_n hx hb d_L_law_25 rfl (lv_at hl 4 rfl) ?_
    refine va_slen hx hb hX hbl hbA hS d_L_law_26 ?_
    refine lv_bipush (v := 8) hx hb d_L_law_27 (by decide) ?_
    refine lv_isub hx hb d_L_law_29 ?_
    refine lv_icmp_gt (tgt := 774) hx hb d_L_law_30 (by decide) (fun c_9 => absurd c_9 (v_go hL hi)) (fun _ => ?_)
    refine lv_aload_n hx hb d_L_law_33 rfl (lv_at hl 4 rfl) ?_
    refine lv_iload hx hb d_L_law_34 (lv_at hl 0 rfl) ?_
    refine va_sld hx hb hX hbl hbA hS (i := nI i) (nI_in (by omega) (by omega)) d_L_law_36 ?_
    refine mr_top (show xs (nI i).toNatClampNeg = xs i by rw [nI_clamp (by omega)]) ?_
    refine lv_bipush (v := 15) hx hb d_L_law_37 (by decide) ?_
    refine lv_iand hx hb d_L_law_39 ?_
    by_cases c_10 : (xs i) &&& 15 = 0
    · refine lv_tableIn (tgt := 112) hx hb d_L_law_40 (by rw [c_10]; decide) (by rw [c_10]; decide) (by rw [c_10]; rfl) (by decide) ?_
      exact law_0 hlt C0 hL hi (by omega) (by omega) hB hA hA0 hK hI hS (lv_sub hl [0, 1, 2, 3, 4] rfl) (fun H locs ls h1 h2 h3 => W.widen (k := 24 + 3 * (j + 1)) (n := 2489 + 27 * (j + 1)) (by omega) (by omega) (ih H locs ls ⟨h1, h2, by rw [show 8 * (j + 1) = i + 8 by omega]; exact h3⟩))
    by_cases c_11 : (xs i) &&& 15 = 1
    · refine lv_tableIn (tgt := 149) hx hb d_L_law_40 (by rw [c_11]; decide) (by rw [c_11]; decide) (by rw [c_11]; rfl) (by decide) ?_
      exact law_1 hlt C0 hL hi (by omega) (by omega) hB hA hA0 hK hI hS (lv_sub hl [0, 1, 2, 3, 4] rfl) (fun H locs ls h1 h2 h3 => W.widen (k := 24 + 3 * (j + 1)) (n := 2489 + 27 * (j + 1)) (by omega) (by omega) (ih H locs ls ⟨h1, h2, by rw [show 8 * (j + 1) = i + 8 by omega]; exact h3⟩))
    by_cases c_12 : (xs i) &&& 15 = 2
    · refine lv_tableIn (tgt := 189) hx hb d_L_law_40 (by rw [c_12]; decide) (by rw [c_12]; decide) (by rw [c_12]; rfl) (by decide) ?_
      exact law_2 hlt C0 hL hi (by omega) (by omega) hB hA hA0 hK hI hS (lv_sub hl [0, 1, 2, 3, 4] rfl) (fun H locs ls h1 h2 h3 => W.widen (k := 24 + 3 * (j + 1)) (n := 2489 + 27 * (j + 1)) (by omega) (by omega) (ih H locs ls ⟨h1, h2, by rw [show 8 * (j + 1) = i + 8 by omega]; exact h3⟩))
    by_cases c_13 : (xs i) &&& 15 = 3
    · refine lv_tableIn (tgt := 229) hx hb d_L_law_40 (by rw [c_13]; decide) (by rw [c_13]; decide) (by rw [c_13]; rfl) (by decide) ?_
      exact law_3 hlt C0 hL hi (by omega) (by omega) hB hA hA0 hK hI hS (lv_sub hl [0, 1, 2, 3, 4] rfl) (fun H locs ls h1 h2 h3 => W.widen (k := 24 + 3 * (j + 1)) (n := 2489 + 27 * (j + 1)) (by omega) (by omega) (ih H locs ls ⟨h1, h2, by rw [show 8 * (j + 1) = i + 8 by omega]; exact h3⟩))
    by_cases c_14 : (xs i) &&& 15 = 4
    · refine lv_tableIn (tgt := 333) hx hb d_L_law_40 (by rw [c_14]; decide) (by rw [c_14]; decide) (by rw [c_14]; rfl) (by decide) ?_
      exact law_4 hlt C0 hL hi (by omega) (by omega) hB hA hA0 hK hI hS (lv_sub hl [0, 1, 2, 3, 4] rfl) (fun H locs ls h1 h2 h3 => W.widen (k := 24 + 3 * (j + 1)) (n := 2489 + 27 * (j + 1)) (by omega) (by omega) (ih H locs ls ⟨h1, h2, by rw [show 8 * (j + 1) = i + 8 by omega]; exact h3⟩))
    by_cases c_15 : (xs i) &&& 15 = 5
    · refine lv_tableIn (tgt := 370) hx hb d_L_law_40 (by rw [c_15]; decide) (by rw [c_15]; decide) (by rw [c_15]; rfl) (by decide) ?_
      exact law_5 hlt C0 hL hi (by omega) (by omega) hB hA hA0 hK hI hS (lv_sub hl [0, 1, 2, 3, 4] rfl) (fun H locs ls h1 h2 h3 => W.widen (k := 24 + 3 * (j + 1)) (n := 2489 + 27 * (j + 1)) (by omega) (by omega) (ih H locs ls ⟨h1, h2, by rw [show 8 * (j + 1) = i + 8 by omega]; exact h3⟩))
    by_cases c_16 : (xs i) &&& 15 = 6
    · refine lv_tableIn (tgt := 407) hx hb d_L_law_40 (by rw [c_16]; decide) (by rw [c_16]; decide) (by rw [c_16]; rfl) (by decide) ?_
      exact law_6 hlt C0 hL hi (by omega) (by omega) hB hA hA0 hK hI hS (lv_sub hl [0, 1, 2, 3, 4] rfl) (fun H locs ls h1 h2 h3 => W.widen (k := 24 + 3 * (j + 1)) (n := 2489 + 27 * (j + 1)) (by omega) (by omega) (ih H locs ls ⟨h1, h2, by rw [show 8 * (j + 1) = i + 8 by omega]; exact h3⟩))
    by_cases c_17 : (xs i) &&& 15 = 7
    · refine lv_tableIn (tgt := 459) hx hb d_L_law_40 (by rw [c_17]; decide) (by rw [c_17]; decide) (by rw [c_17]; rfl) (by decide) ?_
      exact law_7 hlt C0 hL hi (by omega) (by omega) hB hA hA0 hK hI hS (lv_sub hl [0, 1, 2, 3, 4] rfl) (fun H locs ls h1 h2 h3 => W.widen (k := 24 + 3 * (j + 1)) (n := 2489 + 27 * (j + 1)) (by omega) (by omega) (ih H locs ls ⟨h1, h2, by rw [show 8 * (j + 1) = i + 8 by omega]; exact h3⟩))
    by_cases c_18 : (xs i) &&& 15 = 8
    · refine lv_tableIn (tgt := 482) hx hb d_L_law_40 (by rw [c_18]; decide) (by rw [c_18]; decide) (by rw [c_18]; rfl) (by decide) ?_
      exact law_8 hlt C0 hL hi (by omega) (by omega) hB hA hA0 hK hI hS (lv_sub hl [0, 1, 2, 3, 4] rfl) (fun H locs ls h1 h2 h3 => W.widen (k := 24 + 3 * (j + 1)) (n := 2489 + 27 * (j + 1)) (by omega) (by omega) (ih H locs ls ⟨h1, h2, by rw [show 8 * (j + 1) = i + 8 by omega]; exact h3⟩))
    by_cases c_19 : (xs i) &&& 15 = 9
    · refine lv_tableIn (tgt := 574) hx hb d_L_law_40 (by rw [c_19]; decide) (by rw [c_19]; decide) (by rw [c_19]; rfl) (by decide) ?_
      exact law_9 hlt C0 hL hi (by omega) (by omega) hB hA hA0 hK hI hS (lv_sub hl [0, 1, 2, 3, 4] rfl) (fun H locs ls h1 h2 h3 => W.widen (k := 24 + 3 * (j + 1)) (n := 2489 + 27 * (j + 1)) (by omega) (by omega) (ih H locs ls ⟨h1, h2, by rw [show 8 * (j + 1) = i + 8 by omega]; exact h3⟩))
    by_cases c_20 : (xs i) &&& 15 = 10
    · refine lv_tableIn (tgt := 599) hx hb d_L_law_40 (by rw [c_20]; decide) (by rw [c_20]; decide) (by rw [c_20]; rfl) (by decide) ?_
      exact law_10 hlt C0 hL hi (by omega) (by omega) hB hA hA0 hK hI hS (lv_sub hl [0, 1, 2, 3, 4] rfl) (fun H locs ls h1 h2 h3 => W.widen (k := 24 + 3 * (j + 1)) (n := 2489 + 27 * (j + 1)) (by omega) (by omega) (ih H locs ls ⟨h1, h2, by rw [show 8 * (j + 1) = i + 8 by omega]; exact h3⟩))
    by_cases c_21 : (xs i) &&& 15 = 11
    · refine lv_tableIn (tgt := 651) hx hb d_L_law_40 (by rw [c_21]; decide) (by rw [c_21]; decide) (by rw [c_21]; rfl) (by decide) ?_
      exact law_11 hlt C0 hL hi (by omega) (by omega) hB hA hA0 hK hI hS (lv_sub hl [0, 1, 2, 3, 4] rfl) (fun H locs ls h1 h2 h3 => W.widen (k := 24 + 3 * (j + 1)) (n := 2489 + 27 * (j + 1)) (by omega) (by omega) (ih H locs ls ⟨h1, h2, by rw [show 8 * (j + 1) = i + 8 by omega]; exact h3⟩))
    by_cases c_22 : (xs i) &&& 15 = 12
    · refine lv_tableIn (tgt := 703) hx hb d_L_law_40 (by rw [c_22]; decide) (by rw [c_22]; decide) (by rw [c_22]; rfl) (by decide) ?_
      exact law_12 hlt C0 hL hi (by omega) (by omega) hB hA hA0 hK hI hS (lv_sub hl [0, 1, 2, 3, 4] rfl) (fun H locs ls h1 h2 h3 => W.widen (k := 24 + 3 * (j + 1)) (n := 2489 + 27 * (j + 1)) (by omega) (by omega) (ih H locs ls ⟨h1, h2, by rw [show 8 * (j + 1) = i + 8 by omega]; exact h3⟩))
    by_cases c_23 : (xs i) &&& 15 = 13
    · refine lv_tableIn (tgt := 743) hx hb d_L_law_40 (by rw [c_23]; decide) (by rw [c_23]; decide) (by rw [c_23]; rfl) (by decide) ?_
      exact law_13 hlt C0 hL hi (by omega) (by omega) hB hA hA0 hK hI hS (lv_sub hl [0, 1, 2, 3, 4] rfl) (fun H locs ls h1 h2 h3 => W.widen (k := 24 + 3 * (j + 1)) (n := 2489 + 27 * (j + 1)) (by omega) (by omega) (ih H locs ls ⟨h1, h2, by rw [show 8 * (j + 1) = i + 8 by omega]; exact h3⟩))
    refine lv_tableOut (tgt := 768) hx hb d_L_law_40 (by have z0 := mr_ne (z := 0) (by decide) c_10; have z1 := mr_ne (z := 1) (by decide) c_11; have z2 := mr_ne (z := 2) (by decide) c_12; have z3 := mr_ne (z := 3) (by decide) c_13; have z4 := mr_ne (z := 4) (by decide) c_14; have z5 := mr_ne (z := 5) (by decide) c_15; have z6 := mr_ne (z := 6) (by decide) c_16; have z7 := mr_ne (z := 7) (by decide) c_17; have z8 := mr_ne (z := 8) (by decide) c_18; have z9 := mr_ne (z := 9) (by decide) c_19; have z10 := mr_ne (z := 10) (by decide) c_20; have z11 := mr_ne (z := 11) (by decide) c_21; have z12 := mr_ne (z := 12) (by decide) c_22; have z13 := mr_ne (z := 13) (by decide) c_23; omega) (by decide) ?_
    exact law_d hlt C0 hL hi (by omega) (by omega) hB hA hA0 hK hI hS (lv_sub hl [0, 1, 2, 3, 4] rfl) (fun H locs ls h1 h2 h3 => W.widen (k := 24 + 3 * (j + 1)) (n := 2489 + 27 * (j + 1)) (by omega) (by omega) (ih H locs ls ⟨h1, h2, by rw [show 8 * (j + 1) = i + 8 by omega]; exact h3⟩))
  · obtain ⟨hI, hS, hl⟩ := hI
    refine W.widen (k := 24 + 3 * (Ln / 8)) (n := 2489 + 27 * (Ln / 8)) (Nat.le_refl _) (Nat.le_refl _) ?_
    obtain ⟨i, hie⟩ : ∃ z, z = 8 * (Ln / 8) := ⟨_, rfl⟩
    rw [← hie] at hl
    have hi : Ln < i + 8 := by omega
    refine lv_iload hx hb d_L_law_23 (lv_at hl 0 rfl) ?_
    refine lv_aload_n hx hb d_L_law_25 rfl (lv_at hl 4 rfl) ?_
    refine va_slen hx hb hX hbl hbA hS d_L_law_26 ?_
    refine lv_bipush (v := 8) hx hb d_L_law_27 (by decide) ?_
    refine lv_isub hx hb d_L_law_29 ?_
    refine lv_icmp_gt (tgt := 774) hx hb d_L_law_30 (by decide) (fun _ => ?_) (fun c_24 => absurd (v_stop hL hi (by omega)) c_24)
    refine lv_iconst (v := 1) hx hb d_L_law_774 (by decide) ?_
    refine va_forget (fun q hq => hA0 _ (hS.2.2 q hq)) ?_
    refine W.widen (k := 601024) (n := 7293034) (by omega) (by omega) ?_
    exact lw_ret hx hb hr hlocks d_L_law_775
-- ===== YOUR PART ENDS =====
set_option maxHeartbeats 4000000 in
theorem lw_walk (l : Launch) (hlt : l.stackTraces = false) (b : Addr) (xs : List Int32) : MetFree l x (headSpec (Jvm.Cond.code x code maxLocals ret :: tables_1) room_1) (lw_P b xs) (fun _ _ _ _ _ => True) lw_Q := by
  refine MetFree.of_bodyS (code := code) (maxLocals := maxLocals) (ret := ret) (by decide) ?_ ?_
  · intro args s m h hn
    obtain ⟨meth, c, h1, h2, h3, h4, h5, h6, -, -⟩ := Cond.code_spec hn (atoms_spec (ws := Jvm.Cond.code x code maxLocals ret :: tables_1) h _ List.mem_cons_self)
    exact ⟨meth, c, h1, h2, h3, h4, h5, h6⟩
  · intro p e s m args below meth c s₁ B hml0 hP _
    obtain ⟨rfl, hx, hbd, hgv⟩ := hP
    obtain ⟨scr, harrAt, hlist, hof, hsmall⟩ := hx
    obtain ⟨hcb, hkn, -, -⟩ := State.arrayAt?_spec harrAt
    have hown : s.vm.findClass R_law = some m.cls := findClass_of_methodNamed B.named
    have hts0 : ∀ c ∈ (Jvm.Cond.code x code maxLocals ret :: tables_1), c.before #[Value.ref b] s = true := atoms_spec (ws := Jvm.Cond.code x code maxLocals ret :: tables_1) B.pre
    have hts : ∀ w ∈ lw_tbl, w.before #[Value.ref b] s = true := k2_hts_sels lw_privs (fun w hw => hts0 w (List.mem_cons_of_mem _ hw)) lw_privs_ok
    have hml : c.maxLocals = 7 := B.maxLocals_eq (hts0 _ List.mem_cons_self)
    have X₀ : Stand p l e room_1 s m #[Value.ref b] below meth c s₁ [] 0 0 := Stand.of_body B
    have hh0 : s₁.heap = s.heap := by rw [B.state]; rfl
    have hsz : scr.slots.size = xs.length := by rw [← Array.length_toList, hlist, List.length_map]
    have hval : ∀ j : Nat, j < xs.length → scr.slots[j]? = some (.int (xs.getD j 0)) := fun j hj => by
      rw [← Array.getElem?_toList, hlist]
      simp [hj]
    have hbl : b < s.heap.size := (Array.getElem?_eq_some_iff.mp hcb).1
    have hX : va_X b xs.length (fun j => xs.getD j 0) s s.heap := ⟨scr, hcb, hof, hkn, hsz, hval⟩
    have K : W p l e room_1 s m #[Value.ref b] below meth c s₁.heap [] 0 0 (lw_Z below #[Value.ref b] s) (entryFrame m ([Value.ref b] : List Value).toArray 7) := by
      rw [hh0]
      exact whole_start l hlt hbd ⟨B.exec, B.bytes, B.returns, hml, hown, hts, hX, hbl, B.notSynchronized, hgv⟩
    obtain ⟨t, a1, o, b1, b2, b3⟩ := K s₁ rfl X₀
    exact ⟨t, o, a1, b1, b2, b3⟩
theorem lw_pre_spec {args : Array Value} {s : State} (h : (Jvm.Cond.and given_1 narrow_1).before args s = true) (hr : rest_1_c.before args s = true) : ∃ (b : Addr) (xs : List Int32), lw_P b xs args s := by
  have hs := flat_of_before _ h
  have hq := flat_of_before _ hr
  have hc : (Cond.count 1).before args s = true := hs _ (by decide +kernel)
  have harr : (Cond.arrayOf (.arg 0) .int).before args s = true := hs _ (by decide +kernel)
  have hle : (Cond.le (.length (.arg 0)) (.int 4096)).before args s = true := hs _ (by decide +kernel)
  have hlen : (Cond.isInt (.length (.arg 0))).before args s = true := hq _ (by decide +kernel)
  have hall : (Cond.all (.arg 0) (.isInt (.elem (.arg 0) (.index 0)))).before args s = true := hq _ (by decide +kernel)
  obtain ⟨b, xs, hb, hx⟩ := State.ints_of_pre rfl harr hlen hall
  have hsm : xs.length < 2 ^ 31 := hx.choose_spec.2.2.2
  have hev : (Term.length (.arg 0)).eval args s none [] s = some (.int xs.length.toInt32) := hx.length_eval hb
  have hv := Cond.le_ints hev (show (Term.int 4096).eval args s none [] s = some (.int 4096) from rfl)
  have hd : xs.length.toInt32 ≤ 4096 := by
    simpa [Cond.before, Cond.holds, hv] using hle
  have hN : xs.length ≤ 4096 := (Int32.ofNat_le_ofNat hsm (by decide)).mp (show Int32.ofNat xs.length ≤ Int32.ofNat 4096 from hd)
  exact ⟨b, xs, Cond.one_arg hc (show args[0]? = some (.ref b) from hb), hx, hN, h⟩
theorem lw_comes (l : Launch) (hlt : l.stackTraces = false) : Comes l x (Jvm.Cond.code x code maxLocals ret :: tables_1) room_1 (fun tb e args s => Calls_1 tb e args s ∧ rest_1 tb e args s ∧ Pre_1 tb e args s)
    (fun _ _ args s o t => lw_Q args s o t) := by
  intro p e ha hc hk s m args below hf hfit hheap happ hpre
  obtain ⟨b, xs, hP⟩ := lw_pre_spec hpre.2.2 hpre.2.1
  obtain ⟨k, o, h1, h2, h3, hQ⟩ := lw_walk l hlt b xs p e ha hc hk s m args below hf ((Spec.applies_iff_loose hf).mp happ).1 hP trivial
  exact ⟨k, o, h1, h2, h3, hQ⟩
theorem lw_frame {s t : State} {o : Outcome} {args : Array Value} (h : Framed s o t [] 601024 7293034) :
    Framed s o t (fieldLocs frame_1_writes args s ++ arrayLocs frame_1_arrays args s ++ staticLocs frame_1_statics s) 601024 7293034 := h
theorem lw_limb (L : Cond) (hL : ∀ (args : Array Value) (s t : State), L.after args s (.returned (some (.int 1))) t = true) :
    ArmFor flags0 classFile x code maxLocals ret World_1 tables_1 room_1 Calls_1 rest_1 Pre_1
      (fun tb e a s o t => postC L tb e a s o t ∧ Framed s o t (fieldLocs frame_1_writes a s ++ arrayLocs frame_1_arrays a s ++ staticLocs frame_1_statics s) 601024 7293034) := by
  intro l hfl _ _ p e ha hc hk s m args below hf hfit hheap happ hpre
  have hlt : l.stackTraces = false := by unfold Launch.stackTraces; rw [hfl]; decide +kernel
  obtain ⟨k, o, h1, h2, h3, rfl, hF⟩ := lw_comes l hlt p e ha hc hk s m args below hf hfit hheap happ hpre
  exact ⟨k, _, h1, h2, h3, hL args s _, lw_frame hF⟩
theorem i_vc : Claimed_1_1 ∧ Claimed_1_2 := ⟨lw_limb limb_1_1 (fun args s t => by simp [limb_1_1, Cond.after, Cond.holds, Cond.value]), lw_limb limb_1_2 (fun args s t => Cond.after_iff.mpr (by
  first | (rw [show limb_1_2 = Cond.eq .result (.int 1) from rfl, Cond.eq_ints (x := 1) (y := 1) rfl rfl]; simp; done) | (simp [limb_1_2, Cond.value, Term.eval]; done)))⟩

