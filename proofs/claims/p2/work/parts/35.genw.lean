theorem mr_new1 {D : va_G} {cl : List vw_C} {f : Nat → va_E} {H1 : Heap} {a : Nat} {e0 e1 : va_E} (hP1 : va_P D cl [(a, e1)] H1) : ∀ b : Nat, (∃ (k : Nat) (e : va_E), ([(a, e0)] : va_W)[k]? = some (b, e)) → va_at D cl (b, va_up f a e1 b) H1 := by
  rintro b ⟨k, e, hk⟩
  match k, hk with
  | 0, hk =>
    cases hk
    have h := hP1 0 _ rfl
    simpa [va_up] using h
  | k + 1, hk => simp at hk
theorem mr_old1 {L : List Nat} {f : Nat → va_E} {a : Nat} {e0 e1 : va_E} : ∀ b : Nat, b ∈ L → (¬ ∃ (k : Nat) (e : va_E), ([(a, e0)] : va_W)[k]? = some (b, e)) → va_up f a e1 b = f b := by
  intro b _ h
  by_cases hb : b = a
  · exact absurd ⟨0, e0, by rw [hb]; rfl⟩ h
  · simp [va_up, hb]
theorem mr_in3 {L : List Nat} {a b d : Nat} {e1 e2 e3 : va_E} (ha : a ∈ L) (hb : b ∈ L) (hd : d ∈ L) : ∀ (k : Nat) (q : Nat × va_E), ([(a, e1), (b, e2), (d, e3)] : va_W)[k]? = some q → q.1 ∈ L := fun k q hq => by
  match k, hq with
  | 0, hq => cases hq; exact ha
  | 1, hq => cases hq; exact hb
  | 2, hq => cases hq; exact hd
  | k + 3, hq => simp at hq
theorem mr_D3 {A : Nat → Prop} {a b d : Nat} {e1 e2 e3 : va_E} (ha : A a) (hb : A b) (hd : A d) (hne : a ≠ b ∧ a ≠ d ∧ b ≠ d) : va_D A [(a, e1), (b, e2), (d, e3)] := by
  obtain ⟨n1, n2, n3⟩ := hne
  refine ⟨fun i j p q hi hj h => ?_, fun k q hk => ?_⟩
  · match i, j, hi, hj with
    | 0, 0, _, _ => rfl
    | 1, 1, _, _ => rfl
    | 2, 2, _, _ => rfl
    | 0, 1, hi, hj => cases hi; cases hj; exact absurd h n1
    | 0, 2, hi, hj => cases hi; cases hj; exact absurd h n2
    | 1, 2, hi, hj => cases hi; cases hj; exact absurd h n3
    | 1, 0, hi, hj => cases hi; cases hj; exact absurd h.symm n1
    | 2, 0, hi, hj => cases hi; cases hj; exact absurd h.symm n2
    | 2, 1, hi, hj => cases hi; cases hj; exact absurd h.symm n3
    | i + 3, _, hi, _ => simp at hi
    | _, j + 3, _, hj => simp at hj
  · match k, hk with
    | 0, hk => cases hk; exact ha
    | 1, hk => cases hk; exact hb
    | 2, hk => cases hk; exact hd
    | k + 3, hk => simp at hk
theorem mr_ne3 {cI : ClassId} {f : Nat → va_E} {a b d : Nat} {fs : List Value} {x y : vp_A} (ea : f a = .inr (2, fs)) (eb : f b = .inl (cI, x)) (ed : f d = .inl (cI, y)) (h : b ≠ d) : a ≠ b ∧ a ≠ d ∧ b ≠ d := ⟨(fun e => by rw [e, eb] at ea; cases ea), (fun e => by rw [e, ed] at ea; cases ea), h⟩
theorem mr_new3 {D : va_G} {cl : List vw_C} {f : Nat → va_E} {H1 : Heap} {a b d : Nat} {e1 e2 e3 n1 n2 n3 : va_E} (hP1 : va_P D cl [(a, n1), (b, n2), (d, n3)] H1) (hne : a ≠ b ∧ a ≠ d ∧ b ≠ d) : ∀ x : Nat, (∃ (k : Nat) (e : va_E), ([(a, e1), (b, e2), (d, e3)] : va_W)[k]? = some (x, e)) → va_at D cl (x, va_up (va_up (va_up f a n1) b n2) d n3 x) H1 := by
  obtain ⟨h1, h2, h3⟩ := hne
  rintro x ⟨k, e, hk⟩
  match k, hk with
  | 0, hk => cases hk; have h := hP1 0 _ rfl; simpa [va_up, h1, h2] using h
  | 1, hk => cases hk; have h := hP1 1 _ rfl; simpa [va_up, h3] using h
  | 2, hk => cases hk; have h := hP1 2 _ rfl; simpa [va_up] using h
  | k + 3, hk => simp at hk
theorem mr_old3 {L : List Nat} {f : Nat → va_E} {a b d : Nat} {e1 e2 e3 n1 n2 n3 : va_E} : ∀ x : Nat, x ∈ L → (¬ ∃ (k : Nat) (e : va_E), ([(a, e1), (b, e2), (d, e3)] : va_W)[k]? = some (x, e)) → va_up (va_up (va_up f a n1) b n2) d n3 x = f x := by
  intro x _ h
  have ha : x ≠ a := fun q => h ⟨0, e1, by rw [q]; rfl⟩
  have hb : x ≠ b := fun q => h ⟨1, e2, by rw [q]; rfl⟩
  have hd : x ≠ d := fun q => h ⟨2, e3, by rw [q]; rfl⟩
  simp [va_up, ha, hb, hd]
theorem mw_174 : Cond.code y_R_leaveOut b_R_leaveOut 2 (some .boolean) ∈ lw_tbl := by decide +kernel
theorem mw_175 : Cond.initialized y_R_leaveOut.cls ∈ lw_tbl := by decide +kernel
theorem mw_176 : Cond.methodLink "MeasureRows" 115 y_R_leaveOut ∈ lw_tbl := by decide +kernel
theorem mw_177 : Cond.instanceMethod y_R_leaveOut ∈ lw_tbl := by decide +kernel
theorem mw_178 : Cond.selects "MeasureRows$Row" y_R_leaveOut y_R_leaveOut ∈ lw_tbl := by decide +kernel
theorem mw_179 : Cond.code y_R_want b_R_want 2 (some .boolean) ∈ lw_tbl := by decide +kernel
theorem mw_180 : Cond.initialized y_R_want.cls ∈ lw_tbl := by decide +kernel
theorem mw_181 : Cond.methodLink "MeasureRows" 118 y_R_want ∈ lw_tbl := by decide +kernel
theorem mw_182 : Cond.instanceMethod y_R_want ∈ lw_tbl := by decide +kernel
theorem mw_183 : Cond.selects "MeasureRows$Row" y_R_want y_R_want ∈ lw_tbl := by decide +kernel
set_option maxHeartbeats 4000000 in
set_option maxRecDepth 100000 in
theorem mc_M_exclude (l : Launch) (s0 : State) (dC : Nat → ClassId) (dI : Nat → Nat → Nat) (cI cR cL cZ : ClassId) (r : Nat → Nat) (n : Nat) (nw pb lc : Int32) (fm fi : Nat → Int32) (fr : Nat → Option Nat) (fl fc fg : Nat → Int32) (L : List Nat) (f : Nat → va_E) (sz : Nat) (a0 : Int32) (a1 : Int32) (hR : mr_RI cI n L f fr) : Met l y_M_exclude [Cond.code y_M_exclude b_M_exclude 4 (some .boolean)] ({ frames := 3, cells := 0, slots := 0, locals := 63 }) (mr_PC s0 (dC, dI) [(cI, .int), (cR, .object "MeasureRows$Row"), (cL, .long), (cZ, .boolean)] [.ref (r 0), .int a0, .int a1] ([((r 0), .inr (0, mf_M r (nI n) nw pb lc)), ((r 1), .inr (1, [.ref (r 2), .ref (r 3)])), ((r 2), .inl (cI, 8, .inl fm)), ((r 3), .inl (cI, 8, .inl fi)), ((r 4), .inl (cR, 80, .inr (.inr (.inr (.inr fr))))), ((r 5), .inl (cI, 80, .inl fl)), ((r 6), .inl (cI, 80, .inl fc)), ((r 7), .inl (cI, 8, .inl fg))] ++ va_pl L f) sz) (va_Qi (fun _ _ => True) (fun (u : Nat → va_E) t => mr_RI cI n L u fr ∧ mr_W (dC, dI) [(cI, .int), (cR, .object "MeasureRows$Row"), (cL, .long), (cZ, .boolean)] (va_A ([((r 0), .inr (0, mf_M r (nI n) nw pb lc)), ((r 1), .inr (1, [.ref (r 2), .ref (r 3)])), ((r 2), .inl (cI, 8, .inl fm)), ((r 3), .inl (cI, 8, .inl fi)), ((r 4), .inl (cR, 80, .inr (.inr (.inr (.inr fr))))), ((r 5), .inl (cI, 80, .inl fl)), ((r 6), .inl (cI, 80, .inl fc)), ((r 7), .inl (cI, 8, .inl fg))] ++ va_pl L f) sz) ([((r 0), .inr (0, mf_M r (nI n) nw pb lc)), ((r 1), .inr (1, [.ref (r 2), .ref (r 3)])), ((r 2), .inl (cI, 8, .inl fm)), ((r 3), .inl (cI, 8, .inl fi)), ((r 4), .inl (cR, 80, .inr (.inr (.inr (.inr fr))))), ((r 5), .inl (cI, 80, .inl fl)), ((r 6), .inl (cI, 80, .inl fc)), ((r 7), .inl (cI, 8, .inl fg))] ++ va_pl L u) t) (va_A ([((r 0), .inr (0, mf_M r (nI n) nw pb lc)), ((r 1), .inr (1, [.ref (r 2), .ref (r 3)])), ((r 2), .inl (cI, 8, .inl fm)), ((r 3), .inl (cI, 8, .inl fi)), ((r 4), .inl (cR, 80, .inr (.inr (.inr (.inr fr))))), ((r 5), .inl (cI, 80, .inl fl)), ((r 6), .inl (cI, 80, .inl fc)), ((r 7), .inl (cI, 8, .inl fg))] ++ va_pl L f) sz)) 0 0 (va_A ([((r 0), .inr (0, mf_M r (nI n) nw pb lc)), ((r 1), .inr (1, [.ref (r 2), .ref (r 3)])), ((r 2), .inl (cI, 8, .inl fm)), ((r 3), .inl (cI, 8, .inl fi)), ((r 4), .inl (cR, 80, .inr (.inr (.inr (.inr fr))))), ((r 5), .inl (cI, 80, .inl fl)), ((r 6), .inl (cI, 80, .inl fc)), ((r 7), .inl (cI, 8, .inl fg))] ++ va_pl L f) sz) := by
  refine Met.ofW (cc := b_M_exclude) (maxL := 4) (ret := (some .boolean)) (by decide) rfl ?_
  intro p e s m args below meth c s₁ B hml hv
  obtain ⟨rfl, hsz, hB, hK, hP, hD0⟩ := hv
  subst hsz
  have hA0 := mr_A hB hD0
  have hD := hD0.self (sz := s.heap.size)
  generalize hAe : va_A ([((r 0), .inr (0, mf_M r (nI n) nw pb lc)), ((r 1), .inr (1, [.ref (r 2), .ref (r 3)])), ((r 2), .inl (cI, 8, .inl fm)), ((r 3), .inl (cI, 8, .inl fi)), ((r 4), .inl (cR, 80, .inr (.inr (.inr (.inr fr))))), ((r 5), .inl (cI, 80, .inl fl)), ((r 6), .inl (cI, 80, .inl fc)), ((r 7), .inl (cI, 8, .inl fg))] ++ va_pl L f) s.heap.size = A at hD hA0 ⊢
  have hA : ∀ q : Nat, s.heap.size ≤ q → A q := fun q h => by rw [← hAe]; exact Or.inr h
  have hS : va_S A s.heap s.heap [] := va_S.rf
  have hP : va_P (dC, dI) mr_cl ([((r 0), .inr (0, mf_M r (nI n) nw pb lc)), ((r 1), .inr (1, [.ref (r 2), .ref (r 3)])), ((r 2), .inl (cI, 8, .inl fm)), ((r 3), .inl (cI, 8, .inl fi)), ((r 4), .inl (cR, 80, .inr (.inr (.inr (.inr fr))))), ((r 5), .inl (cI, 80, .inl fl)), ((r 6), .inl (cI, 80, .inl fc)), ((r 7), .inl (cI, 8, .inl fg))] ++ va_pl L f) s.heap := hP
  have hBH := hB.at hS hA0
  have hx := B.exec
  have hb := B.bytes
  have hr := B.returns
  have hlocks := B.notSynchronized
  have hts : ∀ w ∈ lw_tbl, w.before [.ref (r 0), .int a0, .int a1].toArray s = true := hB.hts _
  have hown : s.vm.findClass "MeasureRows" = some m.cls := findClass_of_methodNamed B.named
  have hl := lv_entry ([.ref (r 0), .int a0, .int a1]) (n := 4) (Nat.le_of_ble_eq_true rfl)
  rw [lg_entry_eq]
  generalize (lg_sl ([.ref (r 0), .int a0, .int a1]) ++ List.replicate (4 - (lg_sl ([.ref (r 0), .int a0, .int a1])).length) Slot.unset).toArray = ls at hl ⊢
  have hl : lv_has ls 4 [(0, .ref (r 0)), (1, .int a0), (2, .int a1)] := hl
  refine lv_aload_n hx hb d_M_exclude_0 rfl (lv_at hl 0 rfl) ?_
  refine lv_iload_n hx hb d_M_exclude_1 rfl (lv_at hl 1 rfl) ?_
  refine va_csq (va_Run.run (va_runV (As := [.int a0]) (rest := []) (C := R_M) ⟨hx, hb, hml, hown, hts⟩ (mc_M_find l s0 dC dI cI cR cL cZ r n nw pb lc fr a0 hR.1) ⟨(mr_cB 1 (hts (Cond.code y_M_find b_M_find 2 (some (.object "MeasureRows$Row"))) mw_117) (hts (Cond.initialized y_M_find.cls) mw_118) (hts (Cond.methodLink "MeasureRows" 111 y_M_find) mw_119) rfl rfl (by decide +kernel) ⟨Nat.le_of_ble_eq_true rfl, Nat.le_of_ble_eq_true rfl⟩), (hts (Cond.instanceMethod y_M_find) mw_120), (hts (Cond.selects "MeasureRows" y_M_find y_M_find) mw_121)⟩ (mr_preV hBH hK (hP.sub (ws' := [((r 0), .inr (0, mf_M r (nI n) nw pb lc)), ((r 4), .inl (cR, 80, .inr (.inr (.inr (.inr fr)))))]) [0, 4] rfl) (ci := 0) (q0 := 0) rfl rfl) rfl rfl hl.1 rfl (lv_room (Nat.le_of_ble_eq_true rfl)) d_M_exclude_2 ⟨Nat.le_of_ble_eq_true rfl, Nat.le_of_ble_eq_true rfl⟩)) (fun r_1 h_2 => ?_)
  subst h_2
  rcases mr_fc hR a0 with hf_4 | ⟨i_4, hi_4, hxe_4, a_4, ql_4, qk_4, v0_4, v1_4, v2_4, v4_4, v5_4, v6_4, v7_4, k_4, t_4, ld_4, kd_4, hf_4, hfi_4, m1_4, m2_4, m3_4, e1_4, e2_4, e3_4, hk_4, ht_4, ho_4, hne_4⟩
  · refine mr_topv (show va_rf (mv_M_find n fr a0) = .null by rw [hf_4]; rfl) ?_
    refine lv_astore_nN (lv' := [(3, .null), (0, .ref (r 0)), (1, .int a0), (2, .int a1)]) hx hb d_M_exclude_5 rfl hl (by decide) rfl (fun ls hl => ?_)
    refine lv_aload_nN hx hb d_M_exclude_6 rfl (lv_at hl 0 rfl) ?_
    refine lv_ifnullN (tgt := 29) hx hb d_M_exclude_7 (by decide) ?_
    refine lv_iconst (v := 0) hx hb d_M_exclude_29 (by decide) ?_
    have hP9 := hP
    have hD9 := hD
    exact W.zret (v := 0) hx hb hr (mr_narz mr_b0) (fun t ht hW => ⟨⟨_, f, rfl, trivial, hR, by rw [ht]; exact hP9, va_K.moved hW.alike hK, hD9⟩, hS.F ht⟩) hS.2.2 d_M_exclude_30
  · refine mr_topv (show va_rf (mv_M_find n fr a0) = .ref a_4 by rw [hf_4]; rfl) ?_
    have hPr_4 := mr_row3 (X := [((r 0), .inr (0, mf_M r (nI n) nw pb lc)), ((r 1), .inr (1, [.ref (r 2), .ref (r 3)])), ((r 2), .inl (cI, 8, .inl fm)), ((r 3), .inl (cI, 8, .inl fi)), ((r 4), .inl (cR, 80, .inr (.inr (.inr (.inr fr))))), ((r 5), .inl (cI, 80, .inl fl)), ((r 6), .inl (cI, 80, .inl fc)), ((r 7), .inl (cI, 8, .inl fg))]) hP m1_4 m2_4 m3_4 e1_4 e2_4 e3_4
    refine lv_astore_n (lv' := [(3, .ref a_4), (0, .ref (r 0)), (1, .int a0), (2, .int a1)]) hx hb d_M_exclude_5 rfl hl (by decide) rfl (fun ls hl => ?_)
    refine lv_aload_n hx hb d_M_exclude_6 rfl (lv_at hl 0 rfl) ?_
    refine lv_ifnull hx hb d_M_exclude_7 ?_
    refine lv_iload_n hx hb d_M_exclude_10 rfl (lv_at hl 3 rfl) ?_
    refine vp_callSi (va_Run.run (va_runS (As := [.int a1]) (rest := []) ⟨hx, hb, hml, hown, hts⟩ (mc_M_isLand l s0 a1) ⟨(mr_cB 1 (hts (Cond.code y_M_isLand b_M_isLand 1 (some .boolean)) mw_1) (hts (Cond.initialized y_M_isLand.cls) mw_2) (hts (Cond.methodLink "MeasureRows" 49 y_M_isLand) mw_3) rfl rfl (by decide +kernel) ⟨Nat.le_of_ble_eq_true rfl, Nat.le_of_ble_eq_true rfl⟩), (hts (Cond.static y_M_isLand) mw_4)⟩ (mr_pre0 hBH) rfl rfl hl.1 rfl (lv_room (Nat.le_of_ble_eq_true rfl)) d_M_exclude_11 ⟨Nat.le_of_ble_eq_true rfl, Nat.le_of_ble_eq_true rfl⟩)) (fun r_3 h_4 => ?_)
    subst h_4
    refine lv_if_eq (tgt := 29) hx hb d_M_exclude_14 (by decide) (fun c_5 => ?_) (fun c_5 => ?_)
    · refine lv_iconst (v := 0) hx hb d_M_exclude_29 (by decide) ?_
      have hP9 := hP
      have hD9 := hD
      exact W.zret (v := 0) hx hb hr (mr_narz mr_b0) (fun t ht hW => ⟨⟨_, f, rfl, trivial, hR, by rw [ht]; exact hP9, va_K.moved hW.alike hK, hD9⟩, hS.F ht⟩) hS.2.2 d_M_exclude_30
    · refine lv_aload_n hx hb d_M_exclude_17 rfl (lv_at hl 0 rfl) ?_
      refine lv_iload_n hx hb d_M_exclude_18 rfl (lv_at hl 3 rfl) ?_
      have hPc := hPr_4.sub (ws' := [(a_4, .inr (2, [.int v0_4, .int v1_4, .int v2_4, .int (nI k_4), .int v4_4, .int v5_4, .int v6_4, .int v7_4, .int (nI t_4), .ref ql_4, .ref qk_4]))]) [0] rfl
      have hin9 := mr_in1 (L := L) (e := .inr (2, [.int v0_4, .int v1_4, .int v2_4, .int (nI k_4), .int v4_4, .int v5_4, .int v6_4, .int v7_4, .int (nI t_4), .ref ql_4, .ref qk_4])) m1_4
      have hDc : va_D A [(a_4, .inr (2, [.int v0_4, .int v1_4, .int v2_4, .int (nI k_4), .int v4_4, .int v5_4, .int v6_4, .int v7_4, .int (nI t_4), .ref ql_4, .ref qk_4]))] := mr_D1 (mr_plA (X := [((r 0), .inr (0, mf_M r (nI n) nw pb lc)), ((r 1), .inr (1, [.ref (r 2), .ref (r 3)])), ((r 2), .inl (cI, 8, .inl fm)), ((r 3), .inl (cI, 8, .inl fi)), ((r 4), .inl (cR, 80, .inr (.inr (.inr (.inr fr))))), ((r 5), .inl (cI, 80, .inl fl)), ((r 6), .inl (cI, 80, .inl fc)), ((r 7), .inl (cI, 8, .inl fg))]) hD m1_4)
      have hFc := mr_plfree (X := [((r 0), .inr (0, mf_M r (nI n) nw pb lc)), ((r 1), .inr (1, [.ref (r 2), .ref (r 3)])), ((r 2), .inl (cI, 8, .inl fm)), ((r 3), .inl (cI, 8, .inl fi)), ((r 4), .inl (cR, 80, .inr (.inr (.inr (.inr fr))))), ((r 5), .inl (cI, 80, .inl fl)), ((r 6), .inl (cI, 80, .inl fc)), ((r 7), .inl (cI, 8, .inl fg))]) (wc := [(a_4, .inr (2, [.int v0_4, .int v1_4, .int v2_4, .int (nI k_4), .int v4_4, .int v5_4, .int v6_4, .int v7_4, .int (nI t_4), .ref ql_4, .ref qk_4]))]) hD hS hA hin9
      refine va_calli (va_runV (As := [.int a1]) (rest := []) (C := R_R) ⟨hx, hb, hml, hown, hts⟩ (mc_R_leaveOut l s0 dC dI cI cR cL cZ a_4 ql_4 qk_4 v0_4 v1_4 v2_4 (nI k_4) v4_4 v5_4 v6_4 v7_4 (nI t_4) _ a1) ⟨(mr_cB 1 (hts (Cond.code y_R_leaveOut b_R_leaveOut 2 (some .boolean)) mw_174) (hts (Cond.initialized y_R_leaveOut.cls) mw_175) (hts (Cond.methodLink "MeasureRows" 115 y_R_leaveOut) mw_176) rfl rfl (by decide +kernel) ⟨Nat.le_of_ble_eq_true rfl, Nat.le_of_ble_eq_true rfl⟩), (hts (Cond.instanceMethod y_R_leaveOut) mw_177), (hts (Cond.selects "MeasureRows$Row" y_R_leaveOut y_R_leaveOut) mw_178)⟩ (mr_preCV hBH hK hPc (hDc.weaken (fun _ _ _ h => hA0 _ h)) (ci := 2) (q0 := 0) rfl rfl) rfl rfl hl.1 rfl (lv_room (Nat.le_of_ble_eq_true rfl)) d_M_exclude_19 ⟨Nat.le_of_ble_eq_true rfl, Nat.le_of_ble_eq_true rfl⟩) hS (fun q _ h => hFc q h) hFc (fun r_6 u_7 t9 H1 locs ht9 hvm hw hB1 hz1 hk1 hS => ?_)
      obtain ⟨hP1, hK1, hD1⟩ := hB1
      rw [ht9] at hP1
      have hb9 : mr_b01 r_6 := by rw [hw.1]; exact mv_R_leaveOut_b _ _
      obtain ⟨hP, hD⟩ := mr_plset (X := [((r 0), .inr (0, mf_M r (nI n) nw pb lc)), ((r 1), .inr (1, [.ref (r 2), .ref (r 3)])), ((r 2), .inl (cI, 8, .inl fm)), ((r 3), .inl (cI, 8, .inl fi)), ((r 4), .inl (cR, 80, .inr (.inr (.inr (.inr fr))))), ((r 5), .inl (cI, 80, .inl fl)), ((r 6), .inl (cI, 80, .inl fc)), ((r 7), .inl (cI, 8, .inl fg))]) (f' := va_up f a_4 (.inr (2, [.int v0_4, .int v1_4, .int v2_4, .int (nI k_4), .int v4_4, .int v5_4, .int u_7, .int v7_4, .int (nI t_4), .ref ql_4, .ref qk_4]))) hP hD hin9 hk1 (mr_new1 hP1) mr_old1
      have hR := mr_upR (w0 := v0_4) (w1 := v1_4) (w2 := v2_4) (w4 := v4_4) (w5 := v5_4) (w6 := u_7) (w7 := v7_4) hR e1_4 m2_4 m3_4 e2_4 e3_4 hk_4 ht_4 ho_4 hne_4
      clear hK1 hk1 hPc hDc hFc hin9
      generalize va_up f a_4 (.inr (2, [.int v0_4, .int v1_4, .int v2_4, .int (nI k_4), .int v4_4, .int v5_4, .int u_7, .int v7_4, .int (nI t_4), .ref ql_4, .ref qk_4])) = f at hP hD hR
      generalize H1 = H at hP hS ⊢
      have hP : va_P (dC, dI) mr_cl ([((r 0), .inr (0, mf_M r (nI n) nw pb lc)), ((r 1), .inr (1, [.ref (r 2), .ref (r 3)])), ((r 2), .inl (cI, 8, .inl fm)), ((r 3), .inl (cI, 8, .inl fi)), ((r 4), .inl (cR, 80, .inr (.inr (.inr (.inr fr))))), ((r 5), .inl (cI, 80, .inl fl)), ((r 6), .inl (cI, 80, .inl fc)), ((r 7), .inl (cI, 8, .inl fg))] ++ va_pl L f) H := hP
      have hD : va_D A ([((r 0), .inr (0, mf_M r (nI n) nw pb lc)), ((r 1), .inr (1, [.ref (r 2), .ref (r 3)])), ((r 2), .inl (cI, 8, .inl fm)), ((r 3), .inl (cI, 8, .inl fi)), ((r 4), .inl (cR, 80, .inr (.inr (.inr (.inr fr))))), ((r 5), .inl (cI, 80, .inl fl)), ((r 6), .inl (cI, 80, .inl fc)), ((r 7), .inl (cI, 8, .inl fg))] ++ va_pl L f) := hD
      have hBH := hB.at hS hA0
      refine lv_if_eq (tgt := 29) hx hb d_M_exclude_22 (by decide) (fun c_8 => ?_) (fun c_8 => ?_)
      · refine lv_iconst (v := 0) hx hb d_M_exclude_29 (by decide) ?_
        have hP9 := hP
        have hD9 := hD
        exact W.zret (v := 0) hx hb hr (mr_narz mr_b0) (fun t ht hW => ⟨⟨_, f, rfl, trivial, hR, by rw [ht]; exact hP9, va_K.moved hW.alike hK, hD9⟩, hS.F ht⟩) hS.2.2 d_M_exclude_30
      · refine lv_iconst (v := 1) hx hb d_M_exclude_25 (by decide) ?_
        refine lv_goto (tgt := 30) hx hb d_M_exclude_26 (by decide) ?_
        have hP9 := hP
        have hD9 := hD
        exact W.zret (v := 1) hx hb hr (mr_narz mr_b1) (fun t ht hW => ⟨⟨_, f, rfl, trivial, hR, by rw [ht]; exact hP9, va_K.moved hW.alike hK, hD9⟩, hS.F ht⟩) hS.2.2 d_M_exclude_30
set_option maxHeartbeats 4000000 in
set_option maxRecDepth 100000 in
theorem mc_M_condition (l : Launch) (s0 : State) (dC : Nat → ClassId) (dI : Nat → Nat → Nat) (cI cR cL cZ : ClassId) (r : Nat → Nat) (n : Nat) (nw pb lc : Int32) (fm fi : Nat → Int32) (fr : Nat → Option Nat) (fl fc fg : Nat → Int32) (L : List Nat) (f : Nat → va_E) (sz : Nat) (a0 : Int32) (a1 : Int32) (hR : mr_RI cI n L f fr) : Met l y_M_condition [Cond.code y_M_condition b_M_condition 4 (some .boolean)] ({ frames := 3, cells := 0, slots := 0, locals := 63 }) (mr_PC s0 (dC, dI) [(cI, .int), (cR, .object "MeasureRows$Row"), (cL, .long), (cZ, .boolean)] [.ref (r 0), .int a0, .int a1] ([((r 0), .inr (0, mf_M r (nI n) nw pb lc)), ((r 1), .inr (1, [.ref (r 2), .ref (r 3)])), ((r 2), .inl (cI, 8, .inl fm)), ((r 3), .inl (cI, 8, .inl fi)), ((r 4), .inl (cR, 80, .inr (.inr (.inr (.inr fr))))), ((r 5), .inl (cI, 80, .inl fl)), ((r 6), .inl (cI, 80, .inl fc)), ((r 7), .inl (cI, 8, .inl fg))] ++ va_pl L f) sz) (va_Qi (fun _ _ => True) (fun (u : Nat → va_E) t => mr_RI cI n L u fr ∧ mr_W (dC, dI) [(cI, .int), (cR, .object "MeasureRows$Row"), (cL, .long), (cZ, .boolean)] (va_A ([((r 0), .inr (0, mf_M r (nI n) nw pb lc)), ((r 1), .inr (1, [.ref (r 2), .ref (r 3)])), ((r 2), .inl (cI, 8, .inl fm)), ((r 3), .inl (cI, 8, .inl fi)), ((r 4), .inl (cR, 80, .inr (.inr (.inr (.inr fr))))), ((r 5), .inl (cI, 80, .inl fl)), ((r 6), .inl (cI, 80, .inl fc)), ((r 7), .inl (cI, 8, .inl fg))] ++ va_pl L f) sz) ([((r 0), .inr (0, mf_M r (nI n) nw pb lc)), ((r 1), .inr (1, [.ref (r 2), .ref (r 3)])), ((r 2), .inl (cI, 8, .inl fm)), ((r 3), .inl (cI, 8, .inl fi)), ((r 4), .inl (cR, 80, .inr (.inr (.inr (.inr fr))))), ((r 5), .inl (cI, 80, .inl fl)), ((r 6), .inl (cI, 80, .inl fc)), ((r 7), .inl (cI, 8, .inl fg))] ++ va_pl L u) t) (va_A ([((r 0), .inr (0, mf_M r (nI n) nw pb lc)), ((r 1), .inr (1, [.ref (r 2), .ref (r 3)])), ((r 2), .inl (cI, 8, .inl fm)), ((r 3), .inl (cI, 8, .inl fi)), ((r 4), .inl (cR, 80, .inr (.inr (.inr (.inr fr))))), ((r 5), .inl (cI, 80, .inl fl)), ((r 6), .inl (cI, 80, .inl fc)), ((r 7), .inl (cI, 8, .inl fg))] ++ va_pl L f) sz)) 0 0 (va_A ([((r 0), .inr (0, mf_M r (nI n) nw pb lc)), ((r 1), .inr (1, [.ref (r 2), .ref (r 3)])), ((r 2), .inl (cI, 8, .inl fm)), ((r 3), .inl (cI, 8, .inl fi)), ((r 4), .inl (cR, 80, .inr (.inr (.inr (.inr fr))))), ((r 5), .inl (cI, 80, .inl fl)), ((r 6), .inl (cI, 80, .inl fc)), ((r 7), .inl (cI, 8, .inl fg))] ++ va_pl L f) sz) := by
  refine Met.ofW (cc := b_M_condition) (maxL := 4) (ret := (some .boolean)) (by decide) rfl ?_
  intro p e s m args below meth c s₁ B hml hv
  obtain ⟨rfl, hsz, hB, hK, hP, hD0⟩ := hv
  subst hsz
  have hA0 := mr_A hB hD0
  have hD := hD0.self (sz := s.heap.size)
  generalize hAe : va_A ([((r 0), .inr (0, mf_M r (nI n) nw pb lc)), ((r 1), .inr (1, [.ref (r 2), .ref (r 3)])), ((r 2), .inl (cI, 8, .inl fm)), ((r 3), .inl (cI, 8, .inl fi)), ((r 4), .inl (cR, 80, .inr (.inr (.inr (.inr fr))))), ((r 5), .inl (cI, 80, .inl fl)), ((r 6), .inl (cI, 80, .inl fc)), ((r 7), .inl (cI, 8, .inl fg))] ++ va_pl L f) s.heap.size = A at hD hA0 ⊢
  have hA : ∀ q : Nat, s.heap.size ≤ q → A q := fun q h => by rw [← hAe]; exact Or.inr h
  have hS : va_S A s.heap s.heap [] := va_S.rf
  have hP : va_P (dC, dI) mr_cl ([((r 0), .inr (0, mf_M r (nI n) nw pb lc)), ((r 1), .inr (1, [.ref (r 2), .ref (r 3)])), ((r 2), .inl (cI, 8, .inl fm)), ((r 3), .inl (cI, 8, .inl fi)), ((r 4), .inl (cR, 80, .inr (.inr (.inr (.inr fr))))), ((r 5), .inl (cI, 80, .inl fl)), ((r 6), .inl (cI, 80, .inl fc)), ((r 7), .inl (cI, 8, .inl fg))] ++ va_pl L f) s.heap := hP
  have hBH := hB.at hS hA0
  have hx := B.exec
  have hb := B.bytes
  have hr := B.returns
  have hlocks := B.notSynchronized
  have hts : ∀ w ∈ lw_tbl, w.before [.ref (r 0), .int a0, .int a1].toArray s = true := hB.hts _
  have hown : s.vm.findClass "MeasureRows" = some m.cls := findClass_of_methodNamed B.named
  have hl := lv_entry ([.ref (r 0), .int a0, .int a1]) (n := 4) (Nat.le_of_ble_eq_true rfl)
  rw [lg_entry_eq]
  generalize (lg_sl ([.ref (r 0), .int a0, .int a1]) ++ List.replicate (4 - (lg_sl ([.ref (r 0), .int a0, .int a1])).length) Slot.unset).toArray = ls at hl ⊢
  have hl : lv_has ls 4 [(0, .ref (r 0)), (1, .int a0), (2, .int a1)] := hl
  refine lv_aload_n hx hb d_M_condition_0 rfl (lv_at hl 0 rfl) ?_
  refine lv_iload_n hx hb d_M_condition_1 rfl (lv_at hl 1 rfl) ?_
  refine va_csq (va_Run.run (va_runV (As := [.int a0]) (rest := []) (C := R_M) ⟨hx, hb, hml, hown, hts⟩ (mc_M_find l s0 dC dI cI cR cL cZ r n nw pb lc fr a0 hR.1) ⟨(mr_cB 1 (hts (Cond.code y_M_find b_M_find 2 (some (.object "MeasureRows$Row"))) mw_117) (hts (Cond.initialized y_M_find.cls) mw_118) (hts (Cond.methodLink "MeasureRows" 111 y_M_find) mw_119) rfl rfl (by decide +kernel) ⟨Nat.le_of_ble_eq_true rfl, Nat.le_of_ble_eq_true rfl⟩), (hts (Cond.instanceMethod y_M_find) mw_120), (hts (Cond.selects "MeasureRows" y_M_find y_M_find) mw_121)⟩ (mr_preV hBH hK (hP.sub (ws' := [((r 0), .inr (0, mf_M r (nI n) nw pb lc)), ((r 4), .inl (cR, 80, .inr (.inr (.inr (.inr fr)))))]) [0, 4] rfl) (ci := 0) (q0 := 0) rfl rfl) rfl rfl hl.1 rfl (lv_room (Nat.le_of_ble_eq_true rfl)) d_M_condition_2 ⟨Nat.le_of_ble_eq_true rfl, Nat.le_of_ble_eq_true rfl⟩)) (fun r_1 h_2 => ?_)
  subst h_2
  rcases mr_fc hR a0 with hf_5 | ⟨i_5, hi_5, hxe_5, a_5, ql_5, qk_5, v0_5, v1_5, v2_5, v4_5, v5_5, v6_5, v7_5, k_5, t_5, ld_5, kd_5, hf_5, hfi_5, m1_5, m2_5, m3_5, e1_5, e2_5, e3_5, hk_5, ht_5, ho_5, hne_5⟩
  · refine mr_topv (show va_rf (mv_M_find n fr a0) = .null by rw [hf_5]; rfl) ?_
    refine lv_astore_nN (lv' := [(3, .null), (0, .ref (r 0)), (1, .int a0), (2, .int a1)]) hx hb d_M_condition_5 rfl hl (by decide) rfl (fun ls hl => ?_)
    refine lv_aload_nN hx hb d_M_condition_6 rfl (lv_at hl 0 rfl) ?_
    refine lv_ifnullN (tgt := 32) hx hb d_M_condition_7 (by decide) ?_
    refine lv_iconst (v := 0) hx hb d_M_condition_32 (by decide) ?_
    have hP9 := hP
    have hD9 := hD
    exact W.zret (v := 0) hx hb hr (mr_narz mr_b0) (fun t ht hW => ⟨⟨_, f, rfl, trivial, hR, by rw [ht]; exact hP9, va_K.moved hW.alike hK, hD9⟩, hS.F ht⟩) hS.2.2 d_M_condition_33
  · refine mr_topv (show va_rf (mv_M_find n fr a0) = .ref a_5 by rw [hf_5]; rfl) ?_
    have hPr_5 := mr_row3 (X := [((r 0), .inr (0, mf_M r (nI n) nw pb lc)), ((r 1), .inr (1, [.ref (r 2), .ref (r 3)])), ((r 2), .inl (cI, 8, .inl fm)), ((r 3), .inl (cI, 8, .inl fi)), ((r 4), .inl (cR, 80, .inr (.inr (.inr (.inr fr))))), ((r 5), .inl (cI, 80, .inl fl)), ((r 6), .inl (cI, 80, .inl fc)), ((r 7), .inl (cI, 8, .inl fg))]) hP m1_5 m2_5 m3_5 e1_5 e2_5 e3_5
    refine lv_astore_n (lv' := [(3, .ref a_5), (0, .ref (r 0)), (1, .int a0), (2, .int a1)]) hx hb d_M_condition_5 rfl hl (by decide) rfl (fun ls hl => ?_)
    refine lv_aload_n hx hb d_M_condition_6 rfl (lv_at hl 0 rfl) ?_
    refine lv_ifnull hx hb d_M_condition_7 ?_
    refine lv_iload_n hx hb d_M_condition_10 rfl (lv_at hl 3 rfl) ?_
    refine lv_if_lt (tgt := 32) hx hb d_M_condition_11 (by decide) (fun c_3 => ?_) (fun c_3 => ?_)
    · refine lv_iconst (v := 0) hx hb d_M_condition_32 (by decide) ?_
      have hP9 := hP
      have hD9 := hD
      exact W.zret (v := 0) hx hb hr (mr_narz mr_b0) (fun t ht hW => ⟨⟨_, f, rfl, trivial, hR, by rw [ht]; exact hP9, va_K.moved hW.alike hK, hD9⟩, hS.F ht⟩) hS.2.2 d_M_condition_33
    · refine lv_iload_n hx hb d_M_condition_14 rfl (lv_at hl 3 rfl) ?_
      refine lv_bipush (v := 16) hx hb d_M_condition_15 (by decide) ?_
      refine lv_icmp_ge (tgt := 32) hx hb d_M_condition_17 (by decide) (fun c_4 => ?_) (fun c_4 => ?_)
      · refine lv_iconst (v := 0) hx hb d_M_condition_32 (by decide) ?_
        have hP9 := hP
        have hD9 := hD
        exact W.zret (v := 0) hx hb hr (mr_narz mr_b0) (fun t ht hW => ⟨⟨_, f, rfl, trivial, hR, by rw [ht]; exact hP9, va_K.moved hW.alike hK, hD9⟩, hS.F ht⟩) hS.2.2 d_M_condition_33
      · refine lv_aload_n hx hb d_M_condition_20 rfl (lv_at hl 0 rfl) ?_
        refine lv_iload_n hx hb d_M_condition_21 rfl (lv_at hl 3 rfl) ?_
        have hPc := hPr_5.sub (ws' := [(a_5, .inr (2, [.int v0_5, .int v1_5, .int v2_5, .int (nI k_5), .int v4_5, .int v5_5, .int v6_5, .int v7_5, .int (nI t_5), .ref ql_5, .ref qk_5]))]) [0] rfl
        have hin9 := mr_in1 (L := L) (e := .inr (2, [.int v0_5, .int v1_5, .int v2_5, .int (nI k_5), .int v4_5, .int v5_5, .int v6_5, .int v7_5, .int (nI t_5), .ref ql_5, .ref qk_5])) m1_5
        have hDc : va_D A [(a_5, .inr (2, [.int v0_5, .int v1_5, .int v2_5, .int (nI k_5), .int v4_5, .int v5_5, .int v6_5, .int v7_5, .int (nI t_5), .ref ql_5, .ref qk_5]))] := mr_D1 (mr_plA (X := [((r 0), .inr (0, mf_M r (nI n) nw pb lc)), ((r 1), .inr (1, [.ref (r 2), .ref (r 3)])), ((r 2), .inl (cI, 8, .inl fm)), ((r 3), .inl (cI, 8, .inl fi)), ((r 4), .inl (cR, 80, .inr (.inr (.inr (.inr fr))))), ((r 5), .inl (cI, 80, .inl fl)), ((r 6), .inl (cI, 80, .inl fc)), ((r 7), .inl (cI, 8, .inl fg))]) hD m1_5)
        have hFc := mr_plfree (X := [((r 0), .inr (0, mf_M r (nI n) nw pb lc)), ((r 1), .inr (1, [.ref (r 2), .ref (r 3)])), ((r 2), .inl (cI, 8, .inl fm)), ((r 3), .inl (cI, 8, .inl fi)), ((r 4), .inl (cR, 80, .inr (.inr (.inr (.inr fr))))), ((r 5), .inl (cI, 80, .inl fl)), ((r 6), .inl (cI, 80, .inl fc)), ((r 7), .inl (cI, 8, .inl fg))]) (wc := [(a_5, .inr (2, [.int v0_5, .int v1_5, .int v2_5, .int (nI k_5), .int v4_5, .int v5_5, .int v6_5, .int v7_5, .int (nI t_5), .ref ql_5, .ref qk_5]))]) hD hS hA hin9
        refine va_calli (va_runV (As := [.int a1]) (rest := []) (C := R_R) ⟨hx, hb, hml, hown, hts⟩ (mc_R_want l s0 dC dI cI cR cL cZ a_5 ql_5 qk_5 v0_5 v1_5 v2_5 (nI k_5) v4_5 v5_5 v6_5 v7_5 (nI t_5) _ a1) ⟨(mr_cB 1 (hts (Cond.code y_R_want b_R_want 2 (some .boolean)) mw_179) (hts (Cond.initialized y_R_want.cls) mw_180) (hts (Cond.methodLink "MeasureRows" 118 y_R_want) mw_181) rfl rfl (by decide +kernel) ⟨Nat.le_of_ble_eq_true rfl, Nat.le_of_ble_eq_true rfl⟩), (hts (Cond.instanceMethod y_R_want) mw_182), (hts (Cond.selects "MeasureRows$Row" y_R_want y_R_want) mw_183)⟩ (mr_preCV hBH hK hPc (hDc.weaken (fun _ _ _ h => hA0 _ h)) (ci := 2) (q0 := 0) rfl rfl) rfl rfl hl.1 rfl (lv_room (Nat.le_of_ble_eq_true rfl)) d_M_condition_22 ⟨Nat.le_of_ble_eq_true rfl, Nat.le_of_ble_eq_true rfl⟩) hS (fun q _ h => hFc q h) hFc (fun r_5 u_6 t9 H1 locs ht9 hvm hw hB1 hz1 hk1 hS => ?_)
        obtain ⟨hP1, hK1, hD1⟩ := hB1
        rw [ht9] at hP1
        have hb9 : mr_b01 r_5 := by rw [hw.1]; exact mv_R_want_b _ _
        obtain ⟨hP, hD⟩ := mr_plset (X := [((r 0), .inr (0, mf_M r (nI n) nw pb lc)), ((r 1), .inr (1, [.ref (r 2), .ref (r 3)])), ((r 2), .inl (cI, 8, .inl fm)), ((r 3), .inl (cI, 8, .inl fi)), ((r 4), .inl (cR, 80, .inr (.inr (.inr (.inr fr))))), ((r 5), .inl (cI, 80, .inl fl)), ((r 6), .inl (cI, 80, .inl fc)), ((r 7), .inl (cI, 8, .inl fg))]) (f' := va_up f a_5 (.inr (2, [.int v0_5, .int v1_5, .int v2_5, .int (nI k_5), .int v4_5, .int v5_5, .int v6_5, .int u_6, .int (nI t_5), .ref ql_5, .ref qk_5]))) hP hD hin9 hk1 (mr_new1 hP1) mr_old1
        have hR := mr_upR (w0 := v0_5) (w1 := v1_5) (w2 := v2_5) (w4 := v4_5) (w5 := v5_5) (w6 := v6_5) (w7 := u_6) hR e1_5 m2_5 m3_5 e2_5 e3_5 hk_5 ht_5 ho_5 hne_5
        clear hK1 hk1 hPc hDc hFc hin9
        generalize va_up f a_5 (.inr (2, [.int v0_5, .int v1_5, .int v2_5, .int (nI k_5), .int v4_5, .int v5_5, .int v6_5, .int u_6, .int (nI t_5), .ref ql_5, .ref qk_5])) = f at hP hD hR
        generalize H1 = H at hP hS ⊢
        have hP : va_P (dC, dI) mr_cl ([((r 0), .inr (0, mf_M r (nI n) nw pb lc)), ((r 1), .inr (1, [.ref (r 2), .ref (r 3)])), ((r 2), .inl (cI, 8, .inl fm)), ((r 3), .inl (cI, 8, .inl fi)), ((r 4), .inl (cR, 80, .inr (.inr (.inr (.inr fr))))), ((r 5), .inl (cI, 80, .inl fl)), ((r 6), .inl (cI, 80, .inl fc)), ((r 7), .inl (cI, 8, .inl fg))] ++ va_pl L f) H := hP
        have hD : va_D A ([((r 0), .inr (0, mf_M r (nI n) nw pb lc)), ((r 1), .inr (1, [.ref (r 2), .ref (r 3)])), ((r 2), .inl (cI, 8, .inl fm)), ((r 3), .inl (cI, 8, .inl fi)), ((r 4), .inl (cR, 80, .inr (.inr (.inr (.inr fr))))), ((r 5), .inl (cI, 80, .inl fl)), ((r 6), .inl (cI, 80, .inl fc)), ((r 7), .inl (cI, 8, .inl fg))] ++ va_pl L f) := hD
        have hBH := hB.at hS hA0
        refine lv_if_eq (tgt := 32) hx hb d_M_condition_25 (by decide) (fun c_7 => ?_) (fun c_7 => ?_)
        · refine lv_iconst (v := 0) hx hb d_M_condition_32 (by decide) ?_
          have hP9 := hP
          have hD9 := hD
          exact W.zret (v := 0) hx hb hr (mr_narz mr_b0) (fun t ht hW => ⟨⟨_, f, rfl, trivial, hR, by rw [ht]; exact hP9, va_K.moved hW.alike hK, hD9⟩, hS.F ht⟩) hS.2.2 d_M_condition_33
        · refine lv_iconst (v := 1) hx hb d_M_condition_28 (by decide) ?_
          refine lv_goto (tgt := 33) hx hb d_M_condition_29 (by decide) ?_
          have hP9 := hP
          have hD9 := hD
          exact W.zret (v := 1) hx hb hr (mr_narz mr_b1) (fun t ht hW => ⟨⟨_, f, rfl, trivial, hR, by rw [ht]; exact hP9, va_K.moved hW.alike hK, hD9⟩, hS.F ht⟩) hS.2.2 d_M_condition_33
