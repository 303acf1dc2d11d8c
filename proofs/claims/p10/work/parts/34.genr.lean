theorem mr_ab {x : Int32} {n : Nat} (hn : n ≤ 80) (h1 : ¬ x < 0) (h2 : ¬ nI n ≤ x) : vp_in x 80 := by
  obtain ⟨j, hj, rfl⟩ := nI_of h1
  rw [nI_leI (by omega) hj] at h2
  exact nI_in (by omega) (by decide)
theorem mr_upR {cI : ClassId} {n : Nat} {L : List Nat} {f : Nat → va_E} {fr : Nat → Option Nat} {a ql qk k t : Nat} {w0 w1 w2 w4 w5 w6 w7 : Int32} {ld kd : Nat → Int32} {fs : List Value} (hR : mr_RI cI n L f fr) (ea : f a = .inr (2, fs)) (hl : ql ∈ L) (hk : qk ∈ L) (el : f ql = .inl (cI, 8, .inl ld)) (ek : f qk = .inl (cI, 8, .inl kd)) (k8 : k < 8) (t8 : t ≤ 8) (t1 : 1 ≤ t) (hne : ql ≠ qk) :
    mr_RI cI n L (va_up f a (.inr (2, [.int w0, .int w1, .int w2, .int (nI k), .int w4, .int w5, .int w6, .int w7, .int (nI t), .ref ql, .ref qk]))) fr := by
  have ne : ∀ {b : Nat} {x : ClassId × vp_A}, f b = .inl x → b ≠ a := fun h e => by rw [e, ea] at h; cases h
  refine ⟨hR.1, fun i hi => ?_⟩
  obtain ⟨a', ql', qk', v0, v1, v2, v4, v5, v6, v7, k', t', ld', kd', e, h1, h2, h3, e1, e2, e3, rest⟩ := hR.2 i hi
  by_cases h : a' = a
  · subst h
    exact ⟨a', ql, qk, w0, w1, w2, w4, w5, w6, w7, k, t, ld, kd, e, h1, hl, hk, by simp [va_up], by simp [va_up, ne el, el], by simp [va_up, ne ek, ek], k8, t8, t1, hne⟩
  · exact ⟨a', ql', qk', v0, v1, v2, v4, v5, v6, v7, k', t', ld', kd', e, h1, h2, h3, by simp [va_up, h, e1], by simp [va_up, ne e2, e2], by simp [va_up, ne e3, e3], rest⟩
theorem mr_upA {cI : ClassId} {n : Nat} {L : List Nat} {f : Nat → va_E} {fr : Nat → Option Nat} {b : Nat} {g0 g1 : Nat → Int32} (hR : mr_RI cI n L f fr) (eb : f b = .inl (cI, 8, .inl g0)) : mr_RI cI n L (va_up f b (.inl (cI, 8, .inl g1))) fr := by
  refine ⟨hR.1, fun i hi => ?_⟩
  obtain ⟨a', ql', qk', v0, v1, v2, v4, v5, v6, v7, k', t', ld', kd', e, h1, h2, h3, e1, e2, e3, rest⟩ := hR.2 i hi
  have na : a' ≠ b := fun h => by rw [h, eb] at e1; cases e1
  refine ⟨a', ql', qk', v0, v1, v2, v4, v5, v6, v7, k', t', if ql' = b then g1 else ld', if qk' = b then g1 else kd', e, h1, h2, h3, by simp [va_up, na, e1], ?_, ?_, rest⟩
  · by_cases h : ql' = b
    · simp [va_up, h]
    · simp [va_up, h, e2]
  · by_cases h : qk' = b
    · simp [va_up, h]
    · simp [va_up, h, e3]
section MRK
variable {A : Nat → Prop} {D : va_G} {cl : List vw_C} {X : va_W} {L : List Nat} {f f' : Nat → va_E} {H H0 H1 : Heap} {locs : List Loc} {wc : va_W}
/-- some of the rows' cells have been written: the world with their new contents -/
theorem mr_plset (hP : va_P D cl (X ++ va_pl L f) H) (hD : va_D A (X ++ va_pl L f)) (hin : ∀ (k : Nat) (q : Nat × va_E), wc[k]? = some q → q.1 ∈ L) (hk : ∀ q : Nat, q < H.size → ¬ va_A wc H.size q → H1[q]? = H[q]?)
    (hnew : ∀ a : Nat, (∃ (k : Nat) (e : va_E), wc[k]? = some (a, e)) → va_at D cl (a, f' a) H1) (hold : ∀ a : Nat, a ∈ L → (¬ ∃ (k : Nat) (e : va_E), wc[k]? = some (a, e)) → f' a = f a) :
    va_P D cl (X ++ va_pl L f') H1 ∧ va_D A (X ++ va_pl L f') := by
  have hlen : (va_pl L f').length = (va_pl L f).length := by simp [va_pl]
  have key : ∀ (k : Nat) (q : Nat × va_E), (X ++ va_pl L f')[k]? = some q → ∃ q0 : Nat × va_E, (X ++ va_pl L f)[k]? = some q0 ∧ q0.1 = q.1 ∧ ((k < X.length ∧ q0 = q) ∨ (X.length ≤ k ∧ q.1 ∈ L ∧ q0 = (q.1, f q.1) ∧ q = (q.1, f' q.1))) := by
    intro k q hq
    by_cases hx : k < X.length
    · rw [List.getElem?_append_left hx] at hq
      exact ⟨q, by rw [List.getElem?_append_left hx]; exact hq, rfl, Or.inl ⟨hx, rfl⟩⟩
    · have hx : X.length ≤ k := Nat.not_lt.mp hx
      rw [List.getElem?_append_right hx] at hq
      unfold va_pl at hq
      rw [List.getElem?_map] at hq
      cases ha : L[k - X.length]? with
      | none => rw [ha] at hq; cases hq
      | some a =>
        rw [ha] at hq
        cases hq
        exact ⟨(a, f a), by rw [List.getElem?_append_right hx]; unfold va_pl; rw [List.getElem?_map, ha]; rfl, rfl, Or.inr ⟨hx, List.mem_of_getElem? ha, rfl, rfl⟩⟩
  refine ⟨fun k q hq => ?_, fun i j p q hi hj hpq => ?_, fun k q hq => ?_⟩
  · obtain ⟨q0, h0, e0, hcase⟩ := key k q hq
    by_cases hw : ∃ (k : Nat) (e : va_E), wc[k]? = some (q.1, e)
    · rcases hcase with ⟨hx, rfl⟩ | ⟨_, _, _, e2⟩
      · obtain ⟨k2, e2, hk2⟩ := hw
        have hL : q0.1 ∈ L := hin k2 (q0.1, e2) hk2
        obtain ⟨k3, h3⟩ := List.mem_iff_getElem?.mp hL
        have h4 : (X ++ va_pl L f)[X.length + k3]? = some (q0.1, f q0.1) := by
          rw [List.getElem?_append_right (by omega), show X.length + k3 - X.length = k3 by omega]
          unfold va_pl; rw [List.getElem?_map, h3]; rfl
        have := hD.1 k (X.length + k3) _ _ h0 h4 rfl
        omega
      · rw [e2]; exact hnew _ hw
    · have hq0 : q0 = q := by
        rcases hcase with ⟨_, h⟩ | ⟨_, hL, e1, e2⟩
        · exact h
        · rw [e1, e2]; rw [hold _ hL hw]
      subst hq0
      have hlt := (hP _ _ h0).lt
      exact (hP _ _ h0).kept (hk _ hlt (fun hA => by
        rcases hA with h | h
        · exact hw h
        · omega))
  · obtain ⟨p0, h1, e1, -⟩ := key i p hi
    obtain ⟨q0, h2, e2, -⟩ := key j q hj
    exact hD.1 i j _ _ h1 h2 (by rw [e1, e2]; exact hpq)
  · obtain ⟨q0, h0, e0, -⟩ := key k q hq
    rw [← e0]; exact hD.2 k _ h0
theorem mr_plA (hD : va_D A (X ++ va_pl L f)) {a : Nat} (ha : a ∈ L) : A a := by
  obtain ⟨k, hk⟩ := va_pl_get (X := X) (f := f) ha
  exact hD.2 k _ hk
theorem mr_plfree (hD : va_D A (X ++ va_pl L f)) (hS : va_S A H0 H locs) (hA : ∀ q, H0.size ≤ q → A q) (hin : ∀ (k : Nat) (q : Nat × va_E), wc[k]? = some q → q.1 ∈ L) : ∀ q, va_A wc H.size q → A q := fun q h => by
  rcases h with ⟨k, e, hk⟩ | h
  · exact mr_plA hD (hin _ _ hk)
  · exact hA q (Nat.le_trans hS.1 h)
end MRK
theorem mr_in1 {L : List Nat} {a : Nat} {e : va_E} (ha : a ∈ L) : ∀ (k : Nat) (q : Nat × va_E), ([(a, e)] : va_W)[k]? = some q → q.1 ∈ L := fun k q hq => by
  match k, hq with
  | 0, hq => cases hq; exact ha
  | k + 1, hq => simp at hq
theorem mr_D1 {A : Nat → Prop} {a : Nat} {e : va_E} (h : A a) : va_D A [(a, e)] := ⟨fun i j p q hi hj _ => by
    have h1 := (List.getElem?_eq_some_iff.mp hi).1
    have h2 := (List.getElem?_eq_some_iff.mp hj).1
    simp at h1 h2; omega, fun k q hk => by
    match k, hk with
    | 0, hk => cases hk; exact h
    | k + 1, hk => simp at hk⟩
theorem mw_159 : Cond.code y_R_leavesOut b_R_leavesOut 2 (some .boolean) ∈ lw_tbl := by decide +kernel
theorem mw_160 : Cond.initialized y_R_leavesOut.cls ∈ lw_tbl := by decide +kernel
theorem mw_161 : Cond.methodLink "MeasureRows" 204 y_R_leavesOut ∈ lw_tbl := by decide +kernel
theorem mw_162 : Cond.instanceMethod y_R_leavesOut ∈ lw_tbl := by decide +kernel
theorem mw_163 : Cond.selects "MeasureRows$Row" y_R_leavesOut y_R_leavesOut ∈ lw_tbl := by decide +kernel
theorem mw_164 : Cond.code y_R_weight b_R_weight 1 (some .int) ∈ lw_tbl := by decide +kernel
theorem mw_165 : Cond.initialized y_R_weight.cls ∈ lw_tbl := by decide +kernel
theorem mw_166 : Cond.methodLink "MeasureRows" 210 y_R_weight ∈ lw_tbl := by decide +kernel
theorem mw_167 : Cond.instanceMethod y_R_weight ∈ lw_tbl := by decide +kernel
theorem mw_168 : Cond.selects "MeasureRows$Row" y_R_weight y_R_weight ∈ lw_tbl := by decide +kernel
theorem mw_169 : Cond.code y_G_landsIn b_G_landsIn 2 (some .int) ∈ lw_tbl := by decide +kernel
theorem mw_170 : Cond.initialized y_G_landsIn.cls ∈ lw_tbl := by decide +kernel
theorem mw_171 : Cond.methodLink "MeasureRows" 186 y_G_landsIn ∈ lw_tbl := by decide +kernel
theorem mw_172 : Cond.instanceMethod y_G_landsIn ∈ lw_tbl := by decide +kernel
theorem mw_173 : Cond.selects "MeasureRows$Groups" y_G_landsIn y_G_landsIn ∈ lw_tbl := by decide +kernel
set_option maxHeartbeats 4000000 in
set_option maxRecDepth 100000 in
theorem mc_M_at (l : Launch) (s0 : State) (dC : Nat → ClassId) (dI : Nat → Nat → Nat) (cI cR cL cZ : ClassId) (r : Nat → Nat) (n : Nat) (nw pb : Int32) (qc : Nat) (fl : Nat → Int32) (a0 : Int32) (hq : qc ≤ 80) : Met l y_M_at [Cond.code y_M_at b_M_at 2 (some .int)] ({ frames := 0, cells := 0, slots := 0, locals := 0 }) (mr_PW s0 (dC, dI) [(cI, .int), (cR, .object "MeasureRows$Row"), (cL, .long), (cZ, .boolean)] [.ref (r 0), .int a0] [((r 0), .inr (0, mf_M r (nI n) nw pb (nI qc))), ((r 5), .inl (cI, 80, .inl fl))]) (vp_Si (fun _ => True)) 0 0 (fun _ => False) := by
  refine Met.ofW (cc := b_M_at) (maxL := 2) (ret := (some .int)) (by decide) rfl ?_
  intro p e s m args below meth c s₁ B hml hv
  obtain ⟨rfl, hB, hK, hP⟩ := hv
  have hBH := hB.here
  have hx := B.exec
  have hb := B.bytes
  have hr := B.returns
  have hlocks := B.notSynchronized
  have hts : ∀ w ∈ lw_tbl, w.before [.ref (r 0), .int a0].toArray s = true := hB.hts _
  have hown : s.vm.findClass "MeasureRows" = some m.cls := findClass_of_methodNamed B.named
  have hl := lv_entry ([.ref (r 0), .int a0]) (n := 2) (Nat.le_of_ble_eq_true rfl)
  rw [lg_entry_eq]
  generalize (lg_sl ([.ref (r 0), .int a0]) ++ List.replicate (2 - (lg_sl ([.ref (r 0), .int a0])).length) Slot.unset).toArray = ls at hl ⊢
  have hl : lv_has ls 2 [(0, .ref (r 0)), (1, .int a0)] := hl
  refine lv_iload_n hx hb d_M_at_0 rfl (lv_at hl 1 rfl) ?_
  refine lv_if_lt (tgt := 21) hx hb d_M_at_1 (by decide) (fun c_1 => ?_) (fun c_1 => ?_)
  · refine lv_iconst (v := (-1)) hx hb d_M_at_21 (by decide) ?_
    exact W.iret (v := (-1)) hx hb hr (fun t ht _ => ⟨_, rfl, trivial, ht⟩) (fun _ h => nomatch h) d_M_at_22
  · refine lv_iload_n hx hb d_M_at_4 rfl (lv_at hl 1 rfl) ?_
    refine lv_aload_n hx hb d_M_at_5 rfl (lv_at hl 0 rfl) ?_
    refine va_get (D := (dC, dI)) (ci := 0) (v := .int (nI qc)) (C := R_M) (T := T_M) (N := 9) hx hb hts ti_M hown hK hP 0 rfl rfl 6 (by decide) (hts (Cond.fieldLink "MeasureRows" 36 "MeasureRows" "listedCount" "I") mw_61) (fun _ h9 => h9) rfl d_M_at_6 ?_
    refine lv_icmp_ge (tgt := 21) hx hb d_M_at_9 (by decide) (fun c_2 => ?_) (fun c_2 => ?_)
    · refine lv_iconst (v := (-1)) hx hb d_M_at_21 (by decide) ?_
      exact W.iret (v := (-1)) hx hb hr (fun t ht _ => ⟨_, rfl, trivial, ht⟩) (fun _ h => nomatch h) d_M_at_22
    · refine lv_aload_n hx hb d_M_at_12 rfl (lv_at hl 0 rfl) ?_
      refine va_get (D := (dC, dI)) (ci := 0) (v := .ref (r 5)) (C := R_M) (T := T_M) (N := 9) hx hb hts ti_M hown hK hP 0 rfl rfl 5 (by decide) (hts (Cond.fieldLink "MeasureRows" 32 "MeasureRows" "listed" "[I") mw_60) (fun _ h9 => h9) rfl d_M_at_13 ?_
      refine lv_iload_n hx hb d_M_at_16 rfl (lv_at hl 1 rfl) ?_
      refine va_iald (D := (dC, dI)) hx hb hK hP 1 0 rfl rfl (i := a0) (mr_ab hq c_1 c_2) d_M_at_17 ?_
      refine lv_goto (tgt := 22) hx hb d_M_at_18 (by decide) ?_
      exact W.iret (v := fl a0.toNatClampNeg) hx hb hr (fun t ht _ => ⟨_, rfl, trivial, ht⟩) (fun _ h => nomatch h) d_M_at_22
set_option maxHeartbeats 4000000 in
set_option maxRecDepth 100000 in
theorem mc_M_count (l : Launch) (s0 : State) (dC : Nat → ClassId) (dI : Nat → Nat → Nat) (cI cR cL cZ : ClassId) (r : Nat → Nat) (n : Nat) (nw pb lc : Int32) (fi : Nat → Int32) (a0 : Int32) : Met l y_M_count [Cond.code y_M_count b_M_count 2 (some .int)] ({ frames := 3, cells := 0, slots := 0, locals := 62 }) (mr_PW s0 (dC, dI) [(cI, .int), (cR, .object "MeasureRows$Row"), (cL, .long), (cZ, .boolean)] [.ref (r 0), .int a0] [((r 0), .inr (0, mf_M r (nI n) nw pb lc)), ((r 1), .inr (1, [.ref (r 2), .ref (r 3)])), ((r 3), .inl (cI, 8, .inl fi))]) (vp_Si (fun _ => True)) 0 0 (fun _ => False) := by
  refine Met.ofW (cc := b_M_count) (maxL := 2) (ret := (some .int)) (by decide) rfl ?_
  intro p e s m args below meth c s₁ B hml hv
  obtain ⟨rfl, hB, hK, hP⟩ := hv
  have hBH := hB.here
  have hx := B.exec
  have hb := B.bytes
  have hr := B.returns
  have hlocks := B.notSynchronized
  have hts : ∀ w ∈ lw_tbl, w.before [.ref (r 0), .int a0].toArray s = true := hB.hts _
  have hown : s.vm.findClass "MeasureRows" = some m.cls := findClass_of_methodNamed B.named
  have hl := lv_entry ([.ref (r 0), .int a0]) (n := 2) (Nat.le_of_ble_eq_true rfl)
  rw [lg_entry_eq]
  generalize (lg_sl ([.ref (r 0), .int a0]) ++ List.replicate (2 - (lg_sl ([.ref (r 0), .int a0])).length) Slot.unset).toArray = ls at hl ⊢
  have hl : lv_has ls 2 [(0, .ref (r 0)), (1, .int a0)] := hl
  refine lv_iload_n hx hb d_M_count_0 rfl (lv_at hl 1 rfl) ?_
  refine vp_callSi (va_Run.run (va_runS (As := [.int a0]) (rest := []) ⟨hx, hb, hml, hown, hts⟩ (mc_M_isGroup l s0 a0) ⟨(mr_cB 1 (hts (Cond.code y_M_isGroup b_M_isGroup 1 (some .boolean)) mw_5) (hts (Cond.initialized y_M_isGroup.cls) mw_6) (hts (Cond.methodLink "MeasureRows" 45 y_M_isGroup) mw_7) rfl rfl (by decide +kernel) ⟨Nat.le_of_ble_eq_true rfl, Nat.le_of_ble_eq_true rfl⟩), (hts (Cond.static y_M_isGroup) mw_8)⟩ (mr_pre0 hBH) rfl rfl hl.1 rfl (lv_room (Nat.le_of_ble_eq_true rfl)) d_M_count_1 ⟨Nat.le_of_ble_eq_true rfl, Nat.le_of_ble_eq_true rfl⟩)) (fun r_1 h_2 => ?_)
  subst h_2
  refine lv_if_eq (tgt := 16) hx hb d_M_count_4 (by decide) (fun c_3 => ?_) (fun c_3 => ?_)
  · refine lv_iload_n hx hb d_M_count_16 rfl (lv_at hl 1 rfl) ?_
    by_cases c_4 : a0 = 0
    · refine lv_tableIn (tgt := 48) hx hb d_M_count_17 (by rw [c_4]; decide) (by rw [c_4]; decide) (by rw [c_4]; rfl) (by decide) ?_
      refine lv_aload_n hx hb d_M_count_48 rfl (lv_at hl 0 rfl) ?_
      refine va_get (D := (dC, dI)) (ci := 0) (v := .int (nI n)) (C := R_M) (T := T_M) (N := 9) hx hb hts ti_M hown hK hP 0 rfl rfl 2 (by decide) (hts (Cond.fieldLink "MeasureRows" 22 "MeasureRows" "rowCount" "I") mw_57) (fun _ h9 => h9) rfl d_M_count_49 ?_
      exact W.iret (v := (nI n)) hx hb hr (fun t ht _ => ⟨_, rfl, trivial, ht⟩) (fun _ h => nomatch h) d_M_count_52
    · skip
      by_cases c_5 : a0 = 1
      · refine lv_tableIn (tgt := 53) hx hb d_M_count_17 (by rw [c_5]; decide) (by rw [c_5]; decide) (by rw [c_5]; rfl) (by decide) ?_
        refine lv_aload_n hx hb d_M_count_53 rfl (lv_at hl 0 rfl) ?_
        refine va_get (D := (dC, dI)) (ci := 0) (v := .int nw) (C := R_M) (T := T_M) (N := 9) hx hb hts ti_M hown hK hP 0 rfl rfl 3 (by decide) (hts (Cond.fieldLink "MeasureRows" 26 "MeasureRows" "now" "I") mw_58) (fun _ h9 => h9) rfl d_M_count_54 ?_
        exact W.iret (v := nw) hx hb hr (fun t ht _ => ⟨_, rfl, trivial, ht⟩) (fun _ h => nomatch h) d_M_count_57
      · skip
        by_cases c_6 : a0 = 2
        · refine lv_tableIn (tgt := 58) hx hb d_M_count_17 (by rw [c_6]; decide) (by rw [c_6]; decide) (by rw [c_6]; rfl) (by decide) ?_
          refine lv_aload_n hx hb d_M_count_58 rfl (lv_at hl 0 rfl) ?_
          refine va_get (D := (dC, dI)) (ci := 0) (v := .int lc) (C := R_M) (T := T_M) (N := 9) hx hb hts ti_M hown hK hP 0 rfl rfl 6 (by decide) (hts (Cond.fieldLink "MeasureRows" 36 "MeasureRows" "listedCount" "I") mw_61) (fun _ h9 => h9) rfl d_M_count_59 ?_
          exact W.iret (v := lc) hx hb hr (fun t ht _ => ⟨_, rfl, trivial, ht⟩) (fun _ h => nomatch h) d_M_count_62
        · skip
          by_cases c_7 : a0 = 3
          · refine lv_tableIn (tgt := 63) hx hb d_M_count_17 (by rw [c_7]; decide) (by rw [c_7]; decide) (by rw [c_7]; rfl) (by decide) ?_
            refine lv_aload_n hx hb d_M_count_63 rfl (lv_at hl 0 rfl) ?_
            refine va_get (D := (dC, dI)) (ci := 0) (v := .int pb) (C := R_M) (T := T_M) (N := 9) hx hb hts ti_M hown hK hP 0 rfl rfl 4 (by decide) (hts (Cond.fieldLink "MeasureRows" 29 "MeasureRows" "paperBits" "I") mw_59) (fun _ h9 => h9) rfl d_M_count_64 ?_
            exact W.iret (v := pb) hx hb hr (fun t ht _ => ⟨_, rfl, trivial, ht⟩) (fun _ h => nomatch h) d_M_count_67
          · skip
            refine lv_tableOut (tgt := 68) hx hb d_M_count_17 (by have z0 := mr_ne (z := 0) (by decide) c_4; have z1 := mr_ne (z := 1) (by decide) c_5; have z2 := mr_ne (z := 2) (by decide) c_6; have z3 := mr_ne (z := 3) (by decide) c_7; omega) (by decide) ?_
            refine lv_iconst (v := (-1)) hx hb d_M_count_68 (by decide) ?_
            exact W.iret (v := (-1)) hx hb hr (fun t ht _ => ⟨_, rfl, trivial, ht⟩) (fun _ h => nomatch h) d_M_count_69
  · refine lv_aload_n hx hb d_M_count_7 rfl (lv_at hl 0 rfl) ?_
    refine va_get (D := (dC, dI)) (ci := 0) (v := .ref (r 1)) (C := R_M) (T := T_M) (N := 9) hx hb hts ti_M hown hK hP 0 rfl rfl 0 (by decide) (hts (Cond.fieldLink "MeasureRows" 10 "MeasureRows" "groups" "LMeasureRows$Groups;") mw_53) (fun _ h9 => h9) rfl d_M_count_8 ?_
    refine lv_iload_n hx hb d_M_count_11 rfl (lv_at hl 1 rfl) ?_
    refine vp_callSi (va_Run.run (va_runV (As := [.int a0]) (rest := []) (C := R_G) ⟨hx, hb, hml, hown, hts⟩ (mc_G_landsIn l s0 dC dI cI cR cL cZ (r 1) (r 2) (r 3) fi a0) ⟨(mr_cB 1 (hts (Cond.code y_G_landsIn b_G_landsIn 2 (some .int)) mw_169) (hts (Cond.initialized y_G_landsIn.cls) mw_170) (hts (Cond.methodLink "MeasureRows" 186 y_G_landsIn) mw_171) rfl rfl (by decide +kernel) ⟨Nat.le_of_ble_eq_true rfl, Nat.le_of_ble_eq_true rfl⟩), (hts (Cond.instanceMethod y_G_landsIn) mw_172), (hts (Cond.selects "MeasureRows$Groups" y_G_landsIn y_G_landsIn) mw_173)⟩ (mr_preV hBH hK (hP.sub (ws' := [((r 1), .inr (1, [.ref (r 2), .ref (r 3)])), ((r 3), .inl (cI, 8, .inl fi))]) [1, 2] rfl) (ci := 1) (q0 := 0) rfl rfl) rfl rfl hl.1 rfl (lv_room (Nat.le_of_ble_eq_true rfl)) d_M_count_12 ⟨Nat.le_of_ble_eq_true rfl, Nat.le_of_ble_eq_true rfl⟩)) (fun r_8 h_9 => ?_)
    subst h_9
    exact W.iret (v := mv_G_landsIn fi a0) hx hb hr (fun t ht _ => ⟨_, rfl, trivial, ht⟩) (fun _ h => nomatch h) d_M_count_15
