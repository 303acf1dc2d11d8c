theorem mw_162 : Cond.fieldLink "MeasureRowsModel" 53 "MeasureRowsModel" "thrown" "I" ∈ lw_tbl := by decide +kernel
theorem mw_163 : Cond.fieldLink "MeasureRowsModel" 81 "MeasureRowsModel" "rows" "I" ∈ lw_tbl := by decide +kernel
theorem mw_164 : Cond.code y_D_rings b_D_rings 3 (some .boolean) ∈ lw_tbl := by decide +kernel
theorem mw_165 : Cond.initialized y_D_rings.cls ∈ lw_tbl := by decide +kernel
theorem mw_166 : Cond.methodLink "MeasureRowsModel" 74 y_D_rings ∈ lw_tbl := by decide +kernel
theorem mw_167 : Cond.instanceMethod y_D_rings ∈ lw_tbl := by decide +kernel
theorem mw_168 : Cond.selects "MeasureRowsModel" y_D_rings y_D_rings ∈ lw_tbl := by decide +kernel
theorem mw_169 : Cond.code y_D_isLand b_D_isLand 1 (some .boolean) ∈ lw_tbl := by decide +kernel
theorem mw_170 : Cond.initialized y_D_isLand.cls ∈ lw_tbl := by decide +kernel
theorem mw_171 : Cond.methodLink "MeasureRowsModel" 71 y_D_isLand ∈ lw_tbl := by decide +kernel
theorem mw_172 : Cond.static y_D_isLand ∈ lw_tbl := by decide +kernel
theorem mw_173 : Cond.code y_D_isIn b_D_isIn 3 (some .boolean) ∈ lw_tbl := by decide +kernel
theorem mw_174 : Cond.initialized y_D_isIn.cls ∈ lw_tbl := by decide +kernel
theorem mw_175 : Cond.methodLink "MeasureRowsModel" 78 y_D_isIn ∈ lw_tbl := by decide +kernel
theorem mw_176 : Cond.instanceMethod y_D_isIn ∈ lw_tbl := by decide +kernel
theorem mw_177 : Cond.selects "MeasureRowsModel" y_D_isIn y_D_isIn ∈ lw_tbl := by decide +kernel
theorem mw_178 : Cond.code y_D_isRow b_D_isRow 2 (some .boolean) ∈ lw_tbl := by decide +kernel
theorem mw_179 : Cond.initialized y_D_isRow.cls ∈ lw_tbl := by decide +kernel
theorem mw_180 : Cond.methodLink "MeasureRowsModel" 104 y_D_isRow ∈ lw_tbl := by decide +kernel
theorem mw_181 : Cond.instanceMethod y_D_isRow ∈ lw_tbl := by decide +kernel
theorem mw_182 : Cond.selects "MeasureRowsModel" y_D_isRow y_D_isRow ∈ lw_tbl := by decide +kernel
theorem mw_183 : Cond.code y_D_fails b_D_fails 2 (some .int) ∈ lw_tbl := by decide +kernel
theorem mw_184 : Cond.initialized y_D_fails.cls ∈ lw_tbl := by decide +kernel
theorem mw_185 : Cond.methodLink "MeasureRowsModel" 97 y_D_fails ∈ lw_tbl := by decide +kernel
theorem mw_186 : Cond.instanceMethod y_D_fails ∈ lw_tbl := by decide +kernel
theorem mw_187 : Cond.selects "MeasureRowsModel" y_D_fails y_D_fails ∈ lw_tbl := by decide +kernel
theorem mw_188 : Cond.constant "MeasureRowsModel" 110 65535 ∈ lw_tbl := by decide +kernel
theorem mw_189 : Cond.fieldLink "MeasureRowsModel" 111 "MeasureRowsModel" "there" "I" ∈ lw_tbl := by decide +kernel
theorem mw_190 : Cond.code y_D_digits b_D_digits 1 (some .int) ∈ lw_tbl := by decide +kernel
theorem mw_191 : Cond.initialized y_D_digits.cls ∈ lw_tbl := by decide +kernel
theorem mw_192 : Cond.methodLink "MeasureRowsModel" 91 y_D_digits ∈ lw_tbl := by decide +kernel
theorem mw_193 : Cond.static y_D_digits ∈ lw_tbl := by decide +kernel
theorem mw_194 : Cond.code y_D_isDay b_D_isDay 1 (some .boolean) ∈ lw_tbl := by decide +kernel
theorem mw_195 : Cond.initialized y_D_isDay.cls ∈ lw_tbl := by decide +kernel
theorem mw_196 : Cond.methodLink "MeasureRowsModel" 94 y_D_isDay ∈ lw_tbl := by decide +kernel
theorem mw_197 : Cond.static y_D_isDay ∈ lw_tbl := by decide +kernel
theorem mw_198 : Cond.fieldLink "MeasureRowsModel" 124 "MeasureRowsModel" "listed" "I" ∈ lw_tbl := by decide +kernel
theorem mw_199 : Cond.fieldLink "MeasureRowsModel" 46 "MeasureRowsModel" "list" "[I" ∈ lw_tbl := by decide +kernel
def mv_D_thrown (th : Int32) : Int32 := th
set_option maxHeartbeats 4000000 in
set_option maxRecDepth 100000 in
theorem mc_D_thrown (l : Launch) (s0 : State) (dC : Nat → ClassId) (dI : Nat → Nat → Nat) (cI cR cL cZ : ClassId) (r : Nat → Nat) (th rw nw pb lc : Int32)  : Met l y_D_thrown [Cond.code y_D_thrown b_D_thrown 1 (some .int)] ({ frames := 0, cells := 0, slots := 0, locals := 0 }) (mr_PW s0 (dC, dI) [(cI, .int), (cR, .object "MeasureRows$Row"), (cL, .long), (cZ, .boolean)] [.ref (r 0)] [((r 0), .inr (3, mf_D r th rw nw pb lc))]) (vp_Si (fun r => r = mv_D_thrown th )) 0 0 (fun _ => False) := by
  refine Met.ofW (cc := b_D_thrown) (maxL := 1) (ret := (some .int)) (by decide) rfl ?_
  intro p e s m args below meth c s₁ B hml hv
  obtain ⟨rfl, hB, hK, hP⟩ := hv
  have hBH := hB.here
  have hx := B.exec
  have hb := B.bytes
  have hr := B.returns
  have hlocks := B.notSynchronized
  have hts : ∀ w ∈ lw_tbl, w.before [.ref (r 0)].toArray s = true := hB.hts _
  have hown : s.vm.findClass "MeasureRowsModel" = some m.cls := findClass_of_methodNamed B.named
  have hl := lv_entry ([.ref (r 0)]) (n := 1) (Nat.le_of_ble_eq_true rfl)
  rw [lg_entry_eq]
  generalize (lg_sl ([.ref (r 0)]) ++ List.replicate (1 - (lg_sl ([.ref (r 0)])).length) Slot.unset).toArray = ls at hl ⊢
  have hl : lv_has ls 1 [(0, .ref (r 0))] := hl
  refine lv_aload_n hx hb d_D_thrown_0 rfl (lv_at hl 0 rfl) ?_
  refine va_get (D := (dC, dI)) (ci := 3) (v := .int th) (C := R_D) (T := T_D) (N := 19) hx hb hts ti_D hown hK hP 0 rfl rfl 0 (by decide) (hts (Cond.fieldLink "MeasureRowsModel" 53 "MeasureRowsModel" "thrown" "I") mw_162) (fun _ h9 => h9) rfl d_D_thrown_1 ?_
  exact W.iret (v := th) hx hb hr (fun t ht _ => ⟨_, rfl, rfl, ht⟩) (fun _ h => nomatch h) d_D_thrown_4
def mv_D_isRow0 (a0 : Int32) : Int32 := if a0 < 1 then 0 else if 0 < a0 then 0 else 1
theorem mv_D_isRow0_b (a0 : Int32) : mr_b01 (mv_D_isRow0 a0) := (mr_bi mr_b0 (mr_bi mr_b0 mr_b1))
set_option maxHeartbeats 4000000 in
set_option maxRecDepth 100000 in
theorem mc_D_isRow (l : Launch) (s0 : State) (dC : Nat → ClassId) (dI : Nat → Nat → Nat) (cI cR cL cZ : ClassId) (r : Nat → Nat) (th nw pb lc : Int32) (a0 : Int32) : Met l y_D_isRow [Cond.code y_D_isRow b_D_isRow 2 (some .boolean)] ({ frames := 0, cells := 0, slots := 0, locals := 0 }) (mr_PW s0 (dC, dI) [(cI, .int), (cR, .object "MeasureRows$Row"), (cL, .long), (cZ, .boolean)] [.ref (r 0), .int a0] [((r 0), .inr (3, mf_D r th 0 nw pb lc))]) (vp_Si (fun r => r = mv_D_isRow0 a0)) 0 0 (fun _ => False) := by
  refine Met.ofW (cc := b_D_isRow) (maxL := 2) (ret := (some .boolean)) (by decide) rfl ?_
  intro p e s m args below meth c s₁ B hml hv
  obtain ⟨rfl, hB, hK, hP⟩ := hv
  have hBH := hB.here
  have hx := B.exec
  have hb := B.bytes
  have hr := B.returns
  have hlocks := B.notSynchronized
  have hts : ∀ w ∈ lw_tbl, w.before [.ref (r 0), .int a0].toArray s = true := hB.hts _
  have hown : s.vm.findClass "MeasureRowsModel" = some m.cls := findClass_of_methodNamed B.named
  have hl := lv_entry ([.ref (r 0), .int a0]) (n := 2) (Nat.le_of_ble_eq_true rfl)
  rw [lg_entry_eq]
  generalize (lg_sl ([.ref (r 0), .int a0]) ++ List.replicate (2 - (lg_sl ([.ref (r 0), .int a0])).length) Slot.unset).toArray = ls at hl ⊢
  have hl : lv_has ls 2 [(0, .ref (r 0)), (1, .int a0)] := hl
  refine lv_iload_n hx hb d_D_isRow_0 rfl (lv_at hl 1 rfl) ?_
  refine lv_iconst (v := 1) hx hb d_D_isRow_1 (by decide) ?_
  refine lv_icmp_lt (tgt := 17) hx hb d_D_isRow_2 (by decide) (fun c_1 => ?_) (fun c_1 => ?_)
  · refine lv_iconst (v := 0) hx hb d_D_isRow_17 (by decide) ?_
    exact W.zret (v := 0) hx hb hr (mr_narz mr_b0) (fun t ht _ => ⟨_, rfl, by unfold mv_D_isRow0; rw [if_pos c_1], ht⟩) (fun _ h => nomatch h) d_D_isRow_18
  · refine lv_iload_n hx hb d_D_isRow_5 rfl (lv_at hl 1 rfl) ?_
    refine lv_aload_n hx hb d_D_isRow_6 rfl (lv_at hl 0 rfl) ?_
    refine va_get (D := (dC, dI)) (ci := 3) (v := .int 0) (C := R_D) (T := T_D) (N := 19) hx hb hts ti_D hown hK hP 0 rfl rfl 2 (by decide) (hts (Cond.fieldLink "MeasureRowsModel" 81 "MeasureRowsModel" "rows" "I") mw_163) (fun _ h9 => h9) rfl d_D_isRow_7 ?_
    refine lv_icmp_gt (tgt := 17) hx hb d_D_isRow_10 (by decide) (fun c_2 => ?_) (fun c_2 => ?_)
    · refine lv_iconst (v := 0) hx hb d_D_isRow_17 (by decide) ?_
      exact W.zret (v := 0) hx hb hr (mr_narz mr_b0) (fun t ht _ => ⟨_, rfl, by unfold mv_D_isRow0; rw [if_neg c_1, if_pos c_2], ht⟩) (fun _ h => nomatch h) d_D_isRow_18
    · refine lv_iconst (v := 1) hx hb d_D_isRow_13 (by decide) ?_
      refine lv_goto (tgt := 18) hx hb d_D_isRow_14 (by decide) ?_
      exact W.zret (v := 1) hx hb hr (mr_narz mr_b1) (fun t ht _ => ⟨_, rfl, by unfold mv_D_isRow0; rw [if_neg c_1, if_neg c_2], ht⟩) (fun _ h => nomatch h) d_D_isRow_18
theorem mv_isRow0 (x : Int32) : mv_D_isRow0 x = 0 := by
  unfold mv_D_isRow0
  by_cases h1 : x < 1
  · rw [if_pos h1]
  · rw [if_neg h1]
    by_cases h2 : 0 < x
    · rw [if_pos h2]
    · exact (mr_01 h1 h2).elim
set_option maxHeartbeats 4000000 in
set_option maxRecDepth 100000 in
theorem mc_D_fails (l : Launch) (s0 : State) (dC : Nat → ClassId) (dI : Nat → Nat → Nat) (cI cR cL cZ : ClassId) (r : Nat → Nat) (th rw nw pb lc : Int32) (sz : Nat) (a0 : Int32) : Met l y_D_fails [Cond.code y_D_fails b_D_fails 2 (some .int)] ({ frames := 0, cells := 0, slots := 0, locals := 0 }) (mr_PC s0 (dC, dI) [(cI, .int), (cR, .object "MeasureRows$Row"), (cL, .long), (cZ, .boolean)] [.ref (r 0), .int a0] [((r 0), .inr (3, mf_D r th rw nw pb lc))] sz) (va_Qi (fun rr _ => rr = 0) (fun (u : Unit) t => mr_W (dC, dI) [(cI, .int), (cR, .object "MeasureRows$Row"), (cL, .long), (cZ, .boolean)] (va_A [((r 0), .inr (3, mf_D r th rw nw pb lc))] sz) [((r 0), .inr (3, mf_D r a0 rw nw pb lc))] t) (va_A [((r 0), .inr (3, mf_D r th rw nw pb lc))] sz)) 0 0 (va_A [((r 0), .inr (3, mf_D r th rw nw pb lc))] sz) := by
  refine Met.ofW (cc := b_D_fails) (maxL := 2) (ret := (some .int)) (by decide) rfl ?_
  intro p e s m args below meth c s₁ B hml hv
  obtain ⟨rfl, hsz, hB, hK, hP, hD0⟩ := hv
  subst hsz
  have hA0 := mr_A hB hD0
  have hD := hD0.self (sz := s.heap.size)
  generalize hAe : va_A [((r 0), .inr (3, mf_D r th rw nw pb lc))] s.heap.size = A at hD hA0 ⊢
  have hA : ∀ q : Nat, s.heap.size ≤ q → A q := fun q h => by rw [← hAe]; exact Or.inr h
  have hS : va_S A s.heap s.heap [] := va_S.rf
  have hP : va_P (dC, dI) mr_cl [((r 0), .inr (3, mf_D r th rw nw pb lc))] s.heap := hP
  have hBH := hB.at hS hA0
  have hx := B.exec
  have hb := B.bytes
  have hr := B.returns
  have hlocks := B.notSynchronized
  have hts : ∀ w ∈ lw_tbl, w.before [.ref (r 0), .int a0].toArray s = true := hB.hts _
  have hown : s.vm.findClass "MeasureRowsModel" = some m.cls := findClass_of_methodNamed B.named
  have hl := lv_entry ([.ref (r 0), .int a0]) (n := 2) (Nat.le_of_ble_eq_true rfl)
  rw [lg_entry_eq]
  generalize (lg_sl ([.ref (r 0), .int a0]) ++ List.replicate (2 - (lg_sl ([.ref (r 0), .int a0])).length) Slot.unset).toArray = ls at hl ⊢
  have hl : lv_has ls 2 [(0, .ref (r 0)), (1, .int a0)] := hl
  refine lv_aload_n hx hb d_D_fails_0 rfl (lv_at hl 0 rfl) ?_
  refine lv_iload_n hx hb d_D_fails_1 rfl (lv_at hl 1 rfl) ?_
  refine va_put (D := (dC, dI)) (ci := 3) (v := .int a0) (ty := .int) (C := R_D) (T := T_D) (N := 19) hx hb hts ti_D t_D to_D tn_D hown hK hP hD hS 0 rfl rfl 0 (by decide) (hts (Cond.fieldLink "MeasureRowsModel" 53 "MeasureRowsModel" "thrown" "I") mw_162) (fun _ h9 => h9) rfl (by decide +kernel) rfl rfl (Nat.le_of_ble_eq_true rfl) d_D_fails_2 (fun H locs hP hD hS => ?_)
  have hP : va_P (dC, dI) mr_cl [((r 0), .inr (3, mf_D r a0 rw nw pb lc))] H := hP
  have hD : va_D A [((r 0), .inr (3, mf_D r a0 rw nw pb lc))] := hD
  have hBH := hB.at hS hA0
  refine lv_iconst (v := 0) hx hb d_D_fails_5 (by decide) ?_
  have hP9 := hP.sub (ws' := [((r 0), .inr (3, mf_D r a0 rw nw pb lc))]) [0] rfl
  have hD9 := hD.sub (ws' := [((r 0), .inr (3, mf_D r a0 rw nw pb lc))]) [0] (by decide) rfl
  exact W.iret (v := 0) hx hb hr (fun t ht hW => ⟨⟨_, (), rfl, rfl, by rw [ht]; exact hP9, va_K.moved hW.alike hK, hD9⟩, hS.F ht⟩) hS.2.2 d_D_fails_6
def mv_D_ring (fm : Nat → Int32) (a0 : Int32) (a1 : Int32) : Int32 := if (mv_D_isGroup a0) = 0 then 0 else if (mv_D_isGroup a1) = 0 then 0 else if (mv_D_rings fm a0 a1) = 0 then 0 else 1
def mt_D_ring (fm : Nat → Int32) (a0 : Int32) (a1 : Int32) : Int32 := if (mv_D_isGroup a0) = 0 then 1 else if (mv_D_isGroup a1) = 0 then 1 else if (mv_D_rings fm a0 a1) = 0 then 0 else 0
set_option maxHeartbeats 4000000 in
set_option maxRecDepth 100000 in
theorem mc_D_ring (l : Launch) (s0 : State) (dC : Nat → ClassId) (dI : Nat → Nat → Nat) (cI cR cL cZ : ClassId) (r : Nat → Nat) (th rw nw pb lc : Int32) (fm : Nat → Int32) (sz : Nat) (a0 : Int32) (a1 : Int32) : Met l y_D_ring [Cond.code y_D_ring b_D_ring 3 (some .boolean)] ({ frames := 2, cells := 0, slots := 0, locals := 46 }) (mr_PC s0 (dC, dI) [(cI, .int), (cR, .object "MeasureRows$Row"), (cL, .long), (cZ, .boolean)] [.ref (r 0), .int a0, .int a1] [((r 0), .inr (3, mf_D r th rw nw pb lc)), ((r 1), .inl (cI, 8, .inl fm))] sz) (va_Qi (fun rr u => rr = mv_D_ring fm a0 a1 ∧ u = mt_D_ring fm a0 a1) (fun (u : Int32) t => mr_W (dC, dI) [(cI, .int), (cR, .object "MeasureRows$Row"), (cL, .long), (cZ, .boolean)] (va_A [((r 0), .inr (3, mf_D r th rw nw pb lc)), ((r 1), .inl (cI, 8, .inl fm))] sz) [((r 0), .inr (3, mf_D r u rw nw pb lc)), ((r 1), .inl (cI, 8, .inl fm))] t) (va_A [((r 0), .inr (3, mf_D r th rw nw pb lc)), ((r 1), .inl (cI, 8, .inl fm))] sz)) 0 0 (va_A [((r 0), .inr (3, mf_D r th rw nw pb lc)), ((r 1), .inl (cI, 8, .inl fm))] sz) := by
  refine Met.ofW (cc := b_D_ring) (maxL := 3) (ret := (some .boolean)) (by decide) rfl ?_
  intro p e s m args below meth c s₁ B hml hv
  obtain ⟨rfl, hsz, hB, hK, hP, hD0⟩ := hv
  subst hsz
  have hA0 := mr_A hB hD0
  have hD := hD0.self (sz := s.heap.size)
  generalize hAe : va_A [((r 0), .inr (3, mf_D r th rw nw pb lc)), ((r 1), .inl (cI, 8, .inl fm))] s.heap.size = A at hD hA0 ⊢
  have hA : ∀ q : Nat, s.heap.size ≤ q → A q := fun q h => by rw [← hAe]; exact Or.inr h
  have hS : va_S A s.heap s.heap [] := va_S.rf
  have hP : va_P (dC, dI) mr_cl [((r 0), .inr (3, mf_D r th rw nw pb lc)), ((r 1), .inl (cI, 8, .inl fm))] s.heap := hP
  have hBH := hB.at hS hA0
  have hx := B.exec
  have hb := B.bytes
  have hr := B.returns
  have hlocks := B.notSynchronized
  have hts : ∀ w ∈ lw_tbl, w.before [.ref (r 0), .int a0, .int a1].toArray s = true := hB.hts _
  have hown : s.vm.findClass "MeasureRowsModel" = some m.cls := findClass_of_methodNamed B.named
  have hl := lv_entry ([.ref (r 0), .int a0, .int a1]) (n := 3) (Nat.le_of_ble_eq_true rfl)
  rw [lg_entry_eq]
  generalize (lg_sl ([.ref (r 0), .int a0, .int a1]) ++ List.replicate (3 - (lg_sl ([.ref (r 0), .int a0, .int a1])).length) Slot.unset).toArray = ls at hl ⊢
  have hl : lv_has ls 3 [(0, .ref (r 0)), (1, .int a0), (2, .int a1)] := hl
  refine lv_aload_n hx hb d_D_ring_0 rfl (lv_at hl 0 rfl) ?_
  refine lv_iload_n hx hb d_D_ring_1 rfl (lv_at hl 1 rfl) ?_
  refine vp_callSi (va_Run.run (va_runS (As := [.int a0]) (rest := [.ref (r 0)]) ⟨hx, hb, hml, hown, hts⟩ (mc_D_isGroup l s0 a0) ⟨(mr_cB 1 (hts (Cond.code y_D_isGroup b_D_isGroup 1 (some .boolean)) mw_158) (hts (Cond.initialized y_D_isGroup.cls) mw_159) (hts (Cond.methodLink "MeasureRowsModel" 67 y_D_isGroup) mw_160) rfl rfl (by decide +kernel) ⟨Nat.le_of_ble_eq_true rfl, Nat.le_of_ble_eq_true rfl⟩), (hts (Cond.static y_D_isGroup) mw_161)⟩ (mr_pre0 hBH) rfl rfl hl.1 rfl (lv_room (Nat.le_of_ble_eq_true rfl)) d_D_ring_2 ⟨Nat.le_of_ble_eq_true rfl, Nat.le_of_ble_eq_true rfl⟩)) (fun r_1 h_2 => ?_)
  subst h_2
  refine lv_if_eq (tgt := 19) hx hb d_D_ring_5 (by decide) (fun c_3 => ?_) (fun c_3 => ?_)
  · refine lv_iconst (v := 1) hx hb d_D_ring_19 (by decide) ?_
    refine va_put (D := (dC, dI)) (ci := 3) (v := .int 1) (ty := .int) (C := R_D) (T := T_D) (N := 19) hx hb hts ti_D t_D to_D tn_D hown hK hP hD hS 0 rfl rfl 0 (by decide) (hts (Cond.fieldLink "MeasureRowsModel" 53 "MeasureRowsModel" "thrown" "I") mw_162) (fun _ h9 => h9) rfl (by decide +kernel) rfl rfl (Nat.le_of_ble_eq_true rfl) d_D_ring_20 (fun H locs hP hD hS => ?_)
    have hP : va_P (dC, dI) mr_cl [((r 0), .inr (3, mf_D r 1 rw nw pb lc)), ((r 1), .inl (cI, 8, .inl fm))] H := hP
    have hD : va_D A [((r 0), .inr (3, mf_D r 1 rw nw pb lc)), ((r 1), .inl (cI, 8, .inl fm))] := hD
    have hBH := hB.at hS hA0
    refine lv_aload_n hx hb d_D_ring_23 rfl (lv_at hl 0 rfl) ?_
    refine va_get (D := (dC, dI)) (ci := 3) (v := .int 1) (C := R_D) (T := T_D) (N := 19) hx hb hts ti_D hown hK hP 0 rfl rfl 0 (by decide) (hts (Cond.fieldLink "MeasureRowsModel" 53 "MeasureRowsModel" "thrown" "I") mw_162) (fun _ h9 => h9) rfl d_D_ring_24 ?_
    refine lv_if_ne (tgt := 43) hx hb d_D_ring_27 (by decide) (fun _ => ?_) (fun c_4 => absurd c_4 (by decide))
    refine lv_iconst (v := 0) hx hb d_D_ring_43 (by decide) ?_
    have hP9 := hP.sub (ws' := [((r 0), .inr (3, mf_D r 1 rw nw pb lc)), ((r 1), .inl (cI, 8, .inl fm))]) [0, 1] rfl
    have hD9 := hD.sub (ws' := [((r 0), .inr (3, mf_D r 1 rw nw pb lc)), ((r 1), .inl (cI, 8, .inl fm))]) [0, 1] (by decide) rfl
    exact W.zret (v := 0) hx hb hr (mr_narz mr_b0) (fun t ht hW => ⟨⟨_, 1, rfl, ⟨by unfold mv_D_ring; rw [if_pos c_3], by unfold mt_D_ring; rw [if_pos c_3]⟩, by rw [ht]; exact hP9, va_K.moved hW.alike hK, hD9⟩, hS.F ht⟩) hS.2.2 d_D_ring_44
  · refine lv_iload_n hx hb d_D_ring_8 rfl (lv_at hl 2 rfl) ?_
    refine vp_callSi (va_Run.run (va_runS (As := [.int a1]) (rest := [.ref (r 0)]) ⟨hx, hb, hml, hown, hts⟩ (mc_D_isGroup l s0 a1) ⟨(mr_cB 1 (hts (Cond.code y_D_isGroup b_D_isGroup 1 (some .boolean)) mw_158) (hts (Cond.initialized y_D_isGroup.cls) mw_159) (hts (Cond.methodLink "MeasureRowsModel" 67 y_D_isGroup) mw_160) rfl rfl (by decide +kernel) ⟨Nat.le_of_ble_eq_true rfl, Nat.le_of_ble_eq_true rfl⟩), (hts (Cond.static y_D_isGroup) mw_161)⟩ (mr_pre0 hBH) rfl rfl hl.1 rfl (lv_room (Nat.le_of_ble_eq_true rfl)) d_D_ring_9 ⟨Nat.le_of_ble_eq_true rfl, Nat.le_of_ble_eq_true rfl⟩)) (fun r_5 h_6 => ?_)
    subst h_6
    refine lv_if_eq (tgt := 19) hx hb d_D_ring_12 (by decide) (fun c_7 => ?_) (fun c_7 => ?_)
    · refine lv_iconst (v := 1) hx hb d_D_ring_19 (by decide) ?_
      refine va_put (D := (dC, dI)) (ci := 3) (v := .int 1) (ty := .int) (C := R_D) (T := T_D) (N := 19) hx hb hts ti_D t_D to_D tn_D hown hK hP hD hS 0 rfl rfl 0 (by decide) (hts (Cond.fieldLink "MeasureRowsModel" 53 "MeasureRowsModel" "thrown" "I") mw_162) (fun _ h9 => h9) rfl (by decide +kernel) rfl rfl (Nat.le_of_ble_eq_true rfl) d_D_ring_20 (fun H locs hP hD hS => ?_)
      have hP : va_P (dC, dI) mr_cl [((r 0), .inr (3, mf_D r 1 rw nw pb lc)), ((r 1), .inl (cI, 8, .inl fm))] H := hP
      have hD : va_D A [((r 0), .inr (3, mf_D r 1 rw nw pb lc)), ((r 1), .inl (cI, 8, .inl fm))] := hD
      have hBH := hB.at hS hA0
      refine lv_aload_n hx hb d_D_ring_23 rfl (lv_at hl 0 rfl) ?_
      refine va_get (D := (dC, dI)) (ci := 3) (v := .int 1) (C := R_D) (T := T_D) (N := 19) hx hb hts ti_D hown hK hP 0 rfl rfl 0 (by decide) (hts (Cond.fieldLink "MeasureRowsModel" 53 "MeasureRowsModel" "thrown" "I") mw_162) (fun _ h9 => h9) rfl d_D_ring_24 ?_
      refine lv_if_ne (tgt := 43) hx hb d_D_ring_27 (by decide) (fun _ => ?_) (fun c_8 => absurd c_8 (by decide))
      refine lv_iconst (v := 0) hx hb d_D_ring_43 (by decide) ?_
      have hP9 := hP.sub (ws' := [((r 0), .inr (3, mf_D r 1 rw nw pb lc)), ((r 1), .inl (cI, 8, .inl fm))]) [0, 1] rfl
      have hD9 := hD.sub (ws' := [((r 0), .inr (3, mf_D r 1 rw nw pb lc)), ((r 1), .inl (cI, 8, .inl fm))]) [0, 1] (by decide) rfl
      exact W.zret (v := 0) hx hb hr (mr_narz mr_b0) (fun t ht hW => ⟨⟨_, 1, rfl, ⟨by unfold mv_D_ring; rw [if_neg c_3, if_pos c_7], by unfold mt_D_ring; rw [if_neg c_3, if_pos c_7]⟩, by rw [ht]; exact hP9, va_K.moved hW.alike hK, hD9⟩, hS.F ht⟩) hS.2.2 d_D_ring_44
    · refine lv_iconst (v := 0) hx hb d_D_ring_15 (by decide) ?_
      refine lv_goto (tgt := 20) hx hb d_D_ring_16 (by decide) ?_
      refine va_put (D := (dC, dI)) (ci := 3) (v := .int 0) (ty := .int) (C := R_D) (T := T_D) (N := 19) hx hb hts ti_D t_D to_D tn_D hown hK hP hD hS 0 rfl rfl 0 (by decide) (hts (Cond.fieldLink "MeasureRowsModel" 53 "MeasureRowsModel" "thrown" "I") mw_162) (fun _ h9 => h9) rfl (by decide +kernel) rfl rfl (Nat.le_of_ble_eq_true rfl) d_D_ring_20 (fun H locs hP hD hS => ?_)
      have hP : va_P (dC, dI) mr_cl [((r 0), .inr (3, mf_D r 0 rw nw pb lc)), ((r 1), .inl (cI, 8, .inl fm))] H := hP
      have hD : va_D A [((r 0), .inr (3, mf_D r 0 rw nw pb lc)), ((r 1), .inl (cI, 8, .inl fm))] := hD
      have hBH := hB.at hS hA0
      refine lv_aload_n hx hb d_D_ring_23 rfl (lv_at hl 0 rfl) ?_
      refine va_get (D := (dC, dI)) (ci := 3) (v := .int 0) (C := R_D) (T := T_D) (N := 19) hx hb hts ti_D hown hK hP 0 rfl rfl 0 (by decide) (hts (Cond.fieldLink "MeasureRowsModel" 53 "MeasureRowsModel" "thrown" "I") mw_162) (fun _ h9 => h9) rfl d_D_ring_24 ?_
      refine lv_if_ne (tgt := 43) hx hb d_D_ring_27 (by decide) (fun c_9 => absurd c_9 (by decide)) (fun _ => ?_)
      refine lv_aload_n hx hb d_D_ring_30 rfl (lv_at hl 0 rfl) ?_
      refine lv_iload_n hx hb d_D_ring_31 rfl (lv_at hl 1 rfl) ?_
      refine lv_iload_n hx hb d_D_ring_32 rfl (lv_at hl 2 rfl) ?_
      refine vp_callSi (va_Run.run (va_runV (As := [.int a0, .int a1]) (rest := []) (C := R_D) ⟨hx, hb, hml, hown, hts⟩ (mc_D_rings l s0 dC dI cI cR cL cZ r 0 rw nw pb lc fm a0 a1 c_7) ⟨(mr_cB 2 (hts (Cond.code y_D_rings b_D_rings 3 (some .boolean)) mw_164) (hts (Cond.initialized y_D_rings.cls) mw_165) (hts (Cond.methodLink "MeasureRowsModel" 74 y_D_rings) mw_166) rfl rfl (by decide +kernel) ⟨Nat.le_of_ble_eq_true rfl, Nat.le_of_ble_eq_true rfl⟩), (hts (Cond.instanceMethod y_D_rings) mw_167), (hts (Cond.selects "MeasureRowsModel" y_D_rings y_D_rings) mw_168)⟩ (mr_preV hBH hK (hP.sub (ws' := [((r 0), .inr (3, mf_D r 0 rw nw pb lc)), ((r 1), .inl (cI, 8, .inl fm))]) [0, 1] rfl) (ci := 3) (q0 := 0) rfl rfl) rfl rfl hl.1 rfl (lv_room (Nat.le_of_ble_eq_true rfl)) d_D_ring_33 ⟨Nat.le_of_ble_eq_true rfl, Nat.le_of_ble_eq_true rfl⟩)) (fun r_10 h_11 => ?_)
      subst h_11
      refine lv_if_eq (tgt := 43) hx hb d_D_ring_36 (by decide) (fun c_12 => ?_) (fun c_12 => ?_)
      · refine lv_iconst (v := 0) hx hb d_D_ring_43 (by decide) ?_
        have hP9 := hP.sub (ws' := [((r 0), .inr (3, mf_D r 0 rw nw pb lc)), ((r 1), .inl (cI, 8, .inl fm))]) [0, 1] rfl
        have hD9 := hD.sub (ws' := [((r 0), .inr (3, mf_D r 0 rw nw pb lc)), ((r 1), .inl (cI, 8, .inl fm))]) [0, 1] (by decide) rfl
        exact W.zret (v := 0) hx hb hr (mr_narz mr_b0) (fun t ht hW => ⟨⟨_, 0, rfl, ⟨by unfold mv_D_ring; rw [if_neg c_3, if_neg c_7, if_pos c_12], by unfold mt_D_ring; rw [if_neg c_3, if_neg c_7, if_pos c_12]⟩, by rw [ht]; exact hP9, va_K.moved hW.alike hK, hD9⟩, hS.F ht⟩) hS.2.2 d_D_ring_44
      · refine lv_iconst (v := 1) hx hb d_D_ring_39 (by decide) ?_
        refine lv_goto (tgt := 44) hx hb d_D_ring_40 (by decide) ?_
        have hP9 := hP.sub (ws' := [((r 0), .inr (3, mf_D r 0 rw nw pb lc)), ((r 1), .inl (cI, 8, .inl fm))]) [0, 1] rfl
        have hD9 := hD.sub (ws' := [((r 0), .inr (3, mf_D r 0 rw nw pb lc)), ((r 1), .inl (cI, 8, .inl fm))]) [0, 1] (by decide) rfl
        exact W.zret (v := 1) hx hb hr (mr_narz mr_b1) (fun t ht hW => ⟨⟨_, 0, rfl, ⟨by unfold mv_D_ring; rw [if_neg c_3, if_neg c_7, if_neg c_12], by unfold mt_D_ring; rw [if_neg c_3, if_neg c_7, if_neg c_12]⟩, by rw [ht]; exact hP9, va_K.moved hW.alike hK, hD9⟩, hS.F ht⟩) hS.2.2 d_D_ring_44
def mv_D_has (fm : Nat → Int32) (a0 : Int32) (a1 : Int32) : Int32 := if (mv_D_isGroup a0) = 0 then (if a0 = 31 then (if (mv_D_isLand a1) = 0 then 0 else if (mv_D_isIn fm a1 a0) = 0 then 0 else 1) else 0) else if (mv_D_isLand a1) = 0 then 0 else if (mv_D_isIn fm a1 a0) = 0 then 0 else 1
def mt_D_has (fm : Nat → Int32) (a0 : Int32) (a1 : Int32) : Int32 := if (mv_D_isGroup a0) = 0 then (if a0 = 31 then (if (mv_D_isLand a1) = 0 then 1 else if (mv_D_isIn fm a1 a0) = 0 then 0 else 0) else 1) else if (mv_D_isLand a1) = 0 then 1 else if (mv_D_isIn fm a1 a0) = 0 then 0 else 0
set_option maxHeartbeats 4000000 in
set_option maxRecDepth 100000 in
theorem mc_D_has (l : Launch) (s0 : State) (dC : Nat → ClassId) (dI : Nat → Nat → Nat) (cI cR cL cZ : ClassId) (r : Nat → Nat) (th rw nw pb lc : Int32) (fm : Nat → Int32) (sz : Nat) (a0 : Int32) (a1 : Int32) : Met l y_D_has [Cond.code y_D_has b_D_has 3 (some .boolean)] ({ frames := 3, cells := 0, slots := 0, locals := 64 }) (mr_PC s0 (dC, dI) [(cI, .int), (cR, .object "MeasureRows$Row"), (cL, .long), (cZ, .boolean)] [.ref (r 0), .int a0, .int a1] [((r 0), .inr (3, mf_D r th rw nw pb lc)), ((r 1), .inl (cI, 8, .inl fm))] sz) (va_Qi (fun rr u => rr = mv_D_has fm a0 a1 ∧ u = mt_D_has fm a0 a1) (fun (u : Int32) t => mr_W (dC, dI) [(cI, .int), (cR, .object "MeasureRows$Row"), (cL, .long), (cZ, .boolean)] (va_A [((r 0), .inr (3, mf_D r th rw nw pb lc)), ((r 1), .inl (cI, 8, .inl fm))] sz) [((r 0), .inr (3, mf_D r u rw nw pb lc)), ((r 1), .inl (cI, 8, .inl fm))] t) (va_A [((r 0), .inr (3, mf_D r th rw nw pb lc)), ((r 1), .inl (cI, 8, .inl fm))] sz)) 0 0 (va_A [((r 0), .inr (3, mf_D r th rw nw pb lc)), ((r 1), .inl (cI, 8, .inl fm))] sz) := by
  refine Met.ofW (cc := b_D_has) (maxL := 3) (ret := (some .boolean)) (by decide) rfl ?_
  intro p e s m args below meth c s₁ B hml hv
  obtain ⟨rfl, hsz, hB, hK, hP, hD0⟩ := hv
  subst hsz
  have hA0 := mr_A hB hD0
  have hD := hD0.self (sz := s.heap.size)
  generalize hAe : va_A [((r 0), .inr (3, mf_D r th rw nw pb lc)), ((r 1), .inl (cI, 8, .inl fm))] s.heap.size = A at hD hA0 ⊢
  have hA : ∀ q : Nat, s.heap.size ≤ q → A q := fun q h => by rw [← hAe]; exact Or.inr h
  have hS : va_S A s.heap s.heap [] := va_S.rf
  have hP : va_P (dC, dI) mr_cl [((r 0), .inr (3, mf_D r th rw nw pb lc)), ((r 1), .inl (cI, 8, .inl fm))] s.heap := hP
  have hBH := hB.at hS hA0
  have hx := B.exec
  have hb := B.bytes
  have hr := B.returns
  have hlocks := B.notSynchronized
  have hts : ∀ w ∈ lw_tbl, w.before [.ref (r 0), .int a0, .int a1].toArray s = true := hB.hts _
  have hown : s.vm.findClass "MeasureRowsModel" = some m.cls := findClass_of_methodNamed B.named
  have hl := lv_entry ([.ref (r 0), .int a0, .int a1]) (n := 3) (Nat.le_of_ble_eq_true rfl)
  rw [lg_entry_eq]
  generalize (lg_sl ([.ref (r 0), .int a0, .int a1]) ++ List.replicate (3 - (lg_sl ([.ref (r 0), .int a0, .int a1])).length) Slot.unset).toArray = ls at hl ⊢
  have hl : lv_has ls 3 [(0, .ref (r 0)), (1, .int a0), (2, .int a1)] := hl
  refine lv_aload_n hx hb d_D_has_0 rfl (lv_at hl 0 rfl) ?_
  refine lv_iload_n hx hb d_D_has_1 rfl (lv_at hl 1 rfl) ?_
  refine vp_callSi (va_Run.run (va_runS (As := [.int a0]) (rest := [.ref (r 0)]) ⟨hx, hb, hml, hown, hts⟩ (mc_D_isGroup l s0 a0) ⟨(mr_cB 1 (hts (Cond.code y_D_isGroup b_D_isGroup 1 (some .boolean)) mw_158) (hts (Cond.initialized y_D_isGroup.cls) mw_159) (hts (Cond.methodLink "MeasureRowsModel" 67 y_D_isGroup) mw_160) rfl rfl (by decide +kernel) ⟨Nat.le_of_ble_eq_true rfl, Nat.le_of_ble_eq_true rfl⟩), (hts (Cond.static y_D_isGroup) mw_161)⟩ (mr_pre0 hBH) rfl rfl hl.1 rfl (lv_room (Nat.le_of_ble_eq_true rfl)) d_D_has_2 ⟨Nat.le_of_ble_eq_true rfl, Nat.le_of_ble_eq_true rfl⟩)) (fun r_1 h_2 => ?_)
  subst h_2
  refine lv_if_ne (tgt := 14) hx hb d_D_has_5 (by decide) (fun c_3 => ?_) (fun c_3 => ?_)
  · refine lv_iload_n hx hb d_D_has_14 rfl (lv_at hl 2 rfl) ?_
    refine vp_callSi (va_Run.run (va_runS (As := [.int a1]) (rest := [.ref (r 0)]) ⟨hx, hb, hml, hown, hts⟩ (mc_D_isLand l s0 a1) ⟨(mr_cB 1 (hts (Cond.code y_D_isLand b_D_isLand 1 (some .boolean)) mw_169) (hts (Cond.initialized y_D_isLand.cls) mw_170) (hts (Cond.methodLink "MeasureRowsModel" 71 y_D_isLand) mw_171) rfl rfl (by decide +kernel) ⟨Nat.le_of_ble_eq_true rfl, Nat.le_of_ble_eq_true rfl⟩), (hts (Cond.static y_D_isLand) mw_172)⟩ (mr_pre0 hBH) rfl rfl hl.1 rfl (lv_room (Nat.le_of_ble_eq_true rfl)) d_D_has_15 ⟨Nat.le_of_ble_eq_true rfl, Nat.le_of_ble_eq_true rfl⟩)) (fun r_4 h_5 => ?_)
    subst h_5
    refine lv_if_eq (tgt := 25) hx hb d_D_has_18 (by decide) (fun c_6 => ?_) (fun c_6 => ?_)
    · refine lv_iconst (v := 1) hx hb d_D_has_25 (by decide) ?_
      refine va_put (D := (dC, dI)) (ci := 3) (v := .int 1) (ty := .int) (C := R_D) (T := T_D) (N := 19) hx hb hts ti_D t_D to_D tn_D hown hK hP hD hS 0 rfl rfl 0 (by decide) (hts (Cond.fieldLink "MeasureRowsModel" 53 "MeasureRowsModel" "thrown" "I") mw_162) (fun _ h9 => h9) rfl (by decide +kernel) rfl rfl (Nat.le_of_ble_eq_true rfl) d_D_has_26 (fun H locs hP hD hS => ?_)
      have hP : va_P (dC, dI) mr_cl [((r 0), .inr (3, mf_D r 1 rw nw pb lc)), ((r 1), .inl (cI, 8, .inl fm))] H := hP
      have hD : va_D A [((r 0), .inr (3, mf_D r 1 rw nw pb lc)), ((r 1), .inl (cI, 8, .inl fm))] := hD
      have hBH := hB.at hS hA0
      refine lv_aload_n hx hb d_D_has_29 rfl (lv_at hl 0 rfl) ?_
      refine va_get (D := (dC, dI)) (ci := 3) (v := .int 1) (C := R_D) (T := T_D) (N := 19) hx hb hts ti_D hown hK hP 0 rfl rfl 0 (by decide) (hts (Cond.fieldLink "MeasureRowsModel" 53 "MeasureRowsModel" "thrown" "I") mw_162) (fun _ h9 => h9) rfl d_D_has_30 ?_
      refine lv_if_ne (tgt := 49) hx hb d_D_has_33 (by decide) (fun _ => ?_) (fun c_7 => absurd c_7 (by decide))
      refine lv_iconst (v := 0) hx hb d_D_has_49 (by decide) ?_
      have hP9 := hP.sub (ws' := [((r 0), .inr (3, mf_D r 1 rw nw pb lc)), ((r 1), .inl (cI, 8, .inl fm))]) [0, 1] rfl
      have hD9 := hD.sub (ws' := [((r 0), .inr (3, mf_D r 1 rw nw pb lc)), ((r 1), .inl (cI, 8, .inl fm))]) [0, 1] (by decide) rfl
      exact W.zret (v := 0) hx hb hr (mr_narz mr_b0) (fun t ht hW => ⟨⟨_, 1, rfl, ⟨by unfold mv_D_has; rw [if_neg c_3, if_pos c_6], by unfold mt_D_has; rw [if_neg c_3, if_pos c_6]⟩, by rw [ht]; exact hP9, va_K.moved hW.alike hK, hD9⟩, hS.F ht⟩) hS.2.2 d_D_has_50
    · refine lv_iconst (v := 0) hx hb d_D_has_21 (by decide) ?_
      refine lv_goto (tgt := 26) hx hb d_D_has_22 (by decide) ?_
      refine va_put (D := (dC, dI)) (ci := 3) (v := .int 0) (ty := .int) (C := R_D) (T := T_D) (N := 19) hx hb hts ti_D t_D to_D tn_D hown hK hP hD hS 0 rfl rfl 0 (by decide) (hts (Cond.fieldLink "MeasureRowsModel" 53 "MeasureRowsModel" "thrown" "I") mw_162) (fun _ h9 => h9) rfl (by decide +kernel) rfl rfl (Nat.le_of_ble_eq_true rfl) d_D_has_26 (fun H locs hP hD hS => ?_)
      have hP : va_P (dC, dI) mr_cl [((r 0), .inr (3, mf_D r 0 rw nw pb lc)), ((r 1), .inl (cI, 8, .inl fm))] H := hP
      have hD : va_D A [((r 0), .inr (3, mf_D r 0 rw nw pb lc)), ((r 1), .inl (cI, 8, .inl fm))] := hD
      have hBH := hB.at hS hA0
      refine lv_aload_n hx hb d_D_has_29 rfl (lv_at hl 0 rfl) ?_
      refine va_get (D := (dC, dI)) (ci := 3) (v := .int 0) (C := R_D) (T := T_D) (N := 19) hx hb hts ti_D hown hK hP 0 rfl rfl 0 (by decide) (hts (Cond.fieldLink "MeasureRowsModel" 53 "MeasureRowsModel" "thrown" "I") mw_162) (fun _ h9 => h9) rfl d_D_has_30 ?_
      refine lv_if_ne (tgt := 49) hx hb d_D_has_33 (by decide) (fun c_8 => absurd c_8 (by decide)) (fun _ => ?_)
      refine lv_aload_n hx hb d_D_has_36 rfl (lv_at hl 0 rfl) ?_
      refine lv_iload_n hx hb d_D_has_37 rfl (lv_at hl 2 rfl) ?_
      refine lv_iload_n hx hb d_D_has_38 rfl (lv_at hl 1 rfl) ?_
      refine vp_callSi (va_Run.run (va_runV (As := [.int a1, .int a0]) (rest := []) (C := R_D) ⟨hx, hb, hml, hown, hts⟩ (mc_D_isIn l s0 dC dI cI cR cL cZ r 0 rw nw pb lc fm a1 a0) ⟨(mr_cB 2 (hts (Cond.code y_D_isIn b_D_isIn 3 (some .boolean)) mw_173) (hts (Cond.initialized y_D_isIn.cls) mw_174) (hts (Cond.methodLink "MeasureRowsModel" 78 y_D_isIn) mw_175) rfl rfl (by decide +kernel) ⟨Nat.le_of_ble_eq_true rfl, Nat.le_of_ble_eq_true rfl⟩), (hts (Cond.instanceMethod y_D_isIn) mw_176), (hts (Cond.selects "MeasureRowsModel" y_D_isIn y_D_isIn) mw_177)⟩ (mr_preV hBH hK (hP.sub (ws' := [((r 0), .inr (3, mf_D r 0 rw nw pb lc)), ((r 1), .inl (cI, 8, .inl fm))]) [0, 1] rfl) (ci := 3) (q0 := 0) rfl rfl) rfl rfl hl.1 rfl (lv_room (Nat.le_of_ble_eq_true rfl)) d_D_has_39 ⟨Nat.le_of_ble_eq_true rfl, Nat.le_of_ble_eq_true rfl⟩)) (fun r_9 h_10 => ?_)
      subst h_10
      refine lv_if_eq (tgt := 49) hx hb d_D_has_42 (by decide) (fun c_11 => ?_) (fun c_11 => ?_)
      · refine lv_iconst (v := 0) hx hb d_D_has_49 (by decide) ?_
        have hP9 := hP.sub (ws' := [((r 0), .inr (3, mf_D r 0 rw nw pb lc)), ((r 1), .inl (cI, 8, .inl fm))]) [0, 1] rfl
        have hD9 := hD.sub (ws' := [((r 0), .inr (3, mf_D r 0 rw nw pb lc)), ((r 1), .inl (cI, 8, .inl fm))]) [0, 1] (by decide) rfl
        exact W.zret (v := 0) hx hb hr (mr_narz mr_b0) (fun t ht hW => ⟨⟨_, 0, rfl, ⟨by unfold mv_D_has; rw [if_neg c_3, if_neg c_6, if_pos c_11], by unfold mt_D_has; rw [if_neg c_3, if_neg c_6, if_pos c_11]⟩, by rw [ht]; exact hP9, va_K.moved hW.alike hK, hD9⟩, hS.F ht⟩) hS.2.2 d_D_has_50
      · refine lv_iconst (v := 1) hx hb d_D_has_45 (by decide) ?_
        refine lv_goto (tgt := 50) hx hb d_D_has_46 (by decide) ?_
        have hP9 := hP.sub (ws' := [((r 0), .inr (3, mf_D r 0 rw nw pb lc)), ((r 1), .inl (cI, 8, .inl fm))]) [0, 1] rfl
        have hD9 := hD.sub (ws' := [((r 0), .inr (3, mf_D r 0 rw nw pb lc)), ((r 1), .inl (cI, 8, .inl fm))]) [0, 1] (by decide) rfl
        exact W.zret (v := 1) hx hb hr (mr_narz mr_b1) (fun t ht hW => ⟨⟨_, 0, rfl, ⟨by unfold mv_D_has; rw [if_neg c_3, if_neg c_6, if_neg c_11], by unfold mt_D_has; rw [if_neg c_3, if_neg c_6, if_neg c_11]⟩, by rw [ht]; exact hP9, va_K.moved hW.alike hK, hD9⟩, hS.F ht⟩) hS.2.2 d_D_has_50
  · refine lv_iload_n hx hb d_D_has_8 rfl (lv_at hl 1 rfl) ?_
    refine lv_bipush (v := 31) hx hb d_D_has_9 (by decide) ?_
    refine lv_icmp_ne (tgt := 25) hx hb d_D_has_11 (by decide) (fun c_12 => ?_) (fun c_12 => ?_)
    · refine lv_iconst (v := 1) hx hb d_D_has_25 (by decide) ?_
      refine va_put (D := (dC, dI)) (ci := 3) (v := .int 1) (ty := .int) (C := R_D) (T := T_D) (N := 19) hx hb hts ti_D t_D to_D tn_D hown hK hP hD hS 0 rfl rfl 0 (by decide) (hts (Cond.fieldLink "MeasureRowsModel" 53 "MeasureRowsModel" "thrown" "I") mw_162) (fun _ h9 => h9) rfl (by decide +kernel) rfl rfl (Nat.le_of_ble_eq_true rfl) d_D_has_26 (fun H locs hP hD hS => ?_)
      have hP : va_P (dC, dI) mr_cl [((r 0), .inr (3, mf_D r 1 rw nw pb lc)), ((r 1), .inl (cI, 8, .inl fm))] H := hP
      have hD : va_D A [((r 0), .inr (3, mf_D r 1 rw nw pb lc)), ((r 1), .inl (cI, 8, .inl fm))] := hD
      have hBH := hB.at hS hA0
      refine lv_aload_n hx hb d_D_has_29 rfl (lv_at hl 0 rfl) ?_
      refine va_get (D := (dC, dI)) (ci := 3) (v := .int 1) (C := R_D) (T := T_D) (N := 19) hx hb hts ti_D hown hK hP 0 rfl rfl 0 (by decide) (hts (Cond.fieldLink "MeasureRowsModel" 53 "MeasureRowsModel" "thrown" "I") mw_162) (fun _ h9 => h9) rfl d_D_has_30 ?_
      refine lv_if_ne (tgt := 49) hx hb d_D_has_33 (by decide) (fun _ => ?_) (fun c_13 => absurd c_13 (by decide))
      refine lv_iconst (v := 0) hx hb d_D_has_49 (by decide) ?_
      have hP9 := hP.sub (ws' := [((r 0), .inr (3, mf_D r 1 rw nw pb lc)), ((r 1), .inl (cI, 8, .inl fm))]) [0, 1] rfl
      have hD9 := hD.sub (ws' := [((r 0), .inr (3, mf_D r 1 rw nw pb lc)), ((r 1), .inl (cI, 8, .inl fm))]) [0, 1] (by decide) rfl
      exact W.zret (v := 0) hx hb hr (mr_narz mr_b0) (fun t ht hW => ⟨⟨_, 1, rfl, ⟨by unfold mv_D_has; rw [if_pos c_3, if_neg c_12], by unfold mt_D_has; rw [if_pos c_3, if_neg c_12]⟩, by rw [ht]; exact hP9, va_K.moved hW.alike hK, hD9⟩, hS.F ht⟩) hS.2.2 d_D_has_50
    · refine lv_iload_n hx hb d_D_has_14 rfl (lv_at hl 2 rfl) ?_
      refine vp_callSi (va_Run.run (va_runS (As := [.int a1]) (rest := [.ref (r 0)]) ⟨hx, hb, hml, hown, hts⟩ (mc_D_isLand l s0 a1) ⟨(mr_cB 1 (hts (Cond.code y_D_isLand b_D_isLand 1 (some .boolean)) mw_169) (hts (Cond.initialized y_D_isLand.cls) mw_170) (hts (Cond.methodLink "MeasureRowsModel" 71 y_D_isLand) mw_171) rfl rfl (by decide +kernel) ⟨Nat.le_of_ble_eq_true rfl, Nat.le_of_ble_eq_true rfl⟩), (hts (Cond.static y_D_isLand) mw_172)⟩ (mr_pre0 hBH) rfl rfl hl.1 rfl (lv_room (Nat.le_of_ble_eq_true rfl)) d_D_has_15 ⟨Nat.le_of_ble_eq_true rfl, Nat.le_of_ble_eq_true rfl⟩)) (fun r_14 h_15 => ?_)
      subst h_15
      refine lv_if_eq (tgt := 25) hx hb d_D_has_18 (by decide) (fun c_16 => ?_) (fun c_16 => ?_)
      · refine lv_iconst (v := 1) hx hb d_D_has_25 (by decide) ?_
        refine va_put (D := (dC, dI)) (ci := 3) (v := .int 1) (ty := .int) (C := R_D) (T := T_D) (N := 19) hx hb hts ti_D t_D to_D tn_D hown hK hP hD hS 0 rfl rfl 0 (by decide) (hts (Cond.fieldLink "MeasureRowsModel" 53 "MeasureRowsModel" "thrown" "I") mw_162) (fun _ h9 => h9) rfl (by decide +kernel) rfl rfl (Nat.le_of_ble_eq_true rfl) d_D_has_26 (fun H locs hP hD hS => ?_)
        have hP : va_P (dC, dI) mr_cl [((r 0), .inr (3, mf_D r 1 rw nw pb lc)), ((r 1), .inl (cI, 8, .inl fm))] H := hP
        have hD : va_D A [((r 0), .inr (3, mf_D r 1 rw nw pb lc)), ((r 1), .inl (cI, 8, .inl fm))] := hD
        have hBH := hB.at hS hA0
        refine lv_aload_n hx hb d_D_has_29 rfl (lv_at hl 0 rfl) ?_
        refine va_get (D := (dC, dI)) (ci := 3) (v := .int 1) (C := R_D) (T := T_D) (N := 19) hx hb hts ti_D hown hK hP 0 rfl rfl 0 (by decide) (hts (Cond.fieldLink "MeasureRowsModel" 53 "MeasureRowsModel" "thrown" "I") mw_162) (fun _ h9 => h9) rfl d_D_has_30 ?_
        refine lv_if_ne (tgt := 49) hx hb d_D_has_33 (by decide) (fun _ => ?_) (fun c_17 => absurd c_17 (by decide))
        refine lv_iconst (v := 0) hx hb d_D_has_49 (by decide) ?_
        have hP9 := hP.sub (ws' := [((r 0), .inr (3, mf_D r 1 rw nw pb lc)), ((r 1), .inl (cI, 8, .inl fm))]) [0, 1] rfl
        have hD9 := hD.sub (ws' := [((r 0), .inr (3, mf_D r 1 rw nw pb lc)), ((r 1), .inl (cI, 8, .inl fm))]) [0, 1] (by decide) rfl
        exact W.zret (v := 0) hx hb hr (mr_narz mr_b0) (fun t ht hW => ⟨⟨_, 1, rfl, ⟨by unfold mv_D_has; rw [if_pos c_3, if_pos c_12, if_pos c_16], by unfold mt_D_has; rw [if_pos c_3, if_pos c_12, if_pos c_16]⟩, by rw [ht]; exact hP9, va_K.moved hW.alike hK, hD9⟩, hS.F ht⟩) hS.2.2 d_D_has_50
      · refine lv_iconst (v := 0) hx hb d_D_has_21 (by decide) ?_
        refine lv_goto (tgt := 26) hx hb d_D_has_22 (by decide) ?_
        refine va_put (D := (dC, dI)) (ci := 3) (v := .int 0) (ty := .int) (C := R_D) (T := T_D) (N := 19) hx hb hts ti_D t_D to_D tn_D hown hK hP hD hS 0 rfl rfl 0 (by decide) (hts (Cond.fieldLink "MeasureRowsModel" 53 "MeasureRowsModel" "thrown" "I") mw_162) (fun _ h9 => h9) rfl (by decide +kernel) rfl rfl (Nat.le_of_ble_eq_true rfl) d_D_has_26 (fun H locs hP hD hS => ?_)
        have hP : va_P (dC, dI) mr_cl [((r 0), .inr (3, mf_D r 0 rw nw pb lc)), ((r 1), .inl (cI, 8, .inl fm))] H := hP
        have hD : va_D A [((r 0), .inr (3, mf_D r 0 rw nw pb lc)), ((r 1), .inl (cI, 8, .inl fm))] := hD
        have hBH := hB.at hS hA0
        refine lv_aload_n hx hb d_D_has_29 rfl (lv_at hl 0 rfl) ?_
        refine va_get (D := (dC, dI)) (ci := 3) (v := .int 0) (C := R_D) (T := T_D) (N := 19) hx hb hts ti_D hown hK hP 0 rfl rfl 0 (by decide) (hts (Cond.fieldLink "MeasureRowsModel" 53 "MeasureRowsModel" "thrown" "I") mw_162) (fun _ h9 => h9) rfl d_D_has_30 ?_
        refine lv_if_ne (tgt := 49) hx hb d_D_has_33 (by decide) (fun c_18 => absurd c_18 (by decide)) (fun _ => ?_)
        refine lv_aload_n hx hb d_D_has_36 rfl (lv_at hl 0 rfl) ?_
        refine lv_iload_n hx hb d_D_has_37 rfl (lv_at hl 2 rfl) ?_
        refine lv_iload_n hx hb d_D_has_38 rfl (lv_at hl 1 rfl) ?_
        refine vp_callSi (va_Run.run (va_runV (As := [.int a1, .int a0]) (rest := []) (C := R_D) ⟨hx, hb, hml, hown, hts⟩ (mc_D_isIn l s0 dC dI cI cR cL cZ r 0 rw nw pb lc fm a1 a0) ⟨(mr_cB 2 (hts (Cond.code y_D_isIn b_D_isIn 3 (some .boolean)) mw_173) (hts (Cond.initialized y_D_isIn.cls) mw_174) (hts (Cond.methodLink "MeasureRowsModel" 78 y_D_isIn) mw_175) rfl rfl (by decide +kernel) ⟨Nat.le_of_ble_eq_true rfl, Nat.le_of_ble_eq_true rfl⟩), (hts (Cond.instanceMethod y_D_isIn) mw_176), (hts (Cond.selects "MeasureRowsModel" y_D_isIn y_D_isIn) mw_177)⟩ (mr_preV hBH hK (hP.sub (ws' := [((r 0), .inr (3, mf_D r 0 rw nw pb lc)), ((r 1), .inl (cI, 8, .inl fm))]) [0, 1] rfl) (ci := 3) (q0 := 0) rfl rfl) rfl rfl hl.1 rfl (lv_room (Nat.le_of_ble_eq_true rfl)) d_D_has_39 ⟨Nat.le_of_ble_eq_true rfl, Nat.le_of_ble_eq_true rfl⟩)) (fun r_19 h_20 => ?_)
        subst h_20
        refine lv_if_eq (tgt := 49) hx hb d_D_has_42 (by decide) (fun c_21 => ?_) (fun c_21 => ?_)
        · refine lv_iconst (v := 0) hx hb d_D_has_49 (by decide) ?_
          have hP9 := hP.sub (ws' := [((r 0), .inr (3, mf_D r 0 rw nw pb lc)), ((r 1), .inl (cI, 8, .inl fm))]) [0, 1] rfl
          have hD9 := hD.sub (ws' := [((r 0), .inr (3, mf_D r 0 rw nw pb lc)), ((r 1), .inl (cI, 8, .inl fm))]) [0, 1] (by decide) rfl
          exact W.zret (v := 0) hx hb hr (mr_narz mr_b0) (fun t ht hW => ⟨⟨_, 0, rfl, ⟨by unfold mv_D_has; rw [if_pos c_3, if_pos c_12, if_neg c_16, if_pos c_21], by unfold mt_D_has; rw [if_pos c_3, if_pos c_12, if_neg c_16, if_pos c_21]⟩, by rw [ht]; exact hP9, va_K.moved hW.alike hK, hD9⟩, hS.F ht⟩) hS.2.2 d_D_has_50
        · refine lv_iconst (v := 1) hx hb d_D_has_45 (by decide) ?_
          refine lv_goto (tgt := 50) hx hb d_D_has_46 (by decide) ?_
          have hP9 := hP.sub (ws' := [((r 0), .inr (3, mf_D r 0 rw nw pb lc)), ((r 1), .inl (cI, 8, .inl fm))]) [0, 1] rfl
          have hD9 := hD.sub (ws' := [((r 0), .inr (3, mf_D r 0 rw nw pb lc)), ((r 1), .inl (cI, 8, .inl fm))]) [0, 1] (by decide) rfl
          exact W.zret (v := 1) hx hb hr (mr_narz mr_b1) (fun t ht hW => ⟨⟨_, 0, rfl, ⟨by unfold mv_D_has; rw [if_pos c_3, if_pos c_12, if_neg c_16, if_neg c_21], by unfold mt_D_has; rw [if_pos c_3, if_pos c_12, if_neg c_16, if_neg c_21]⟩, by rw [ht]; exact hP9, va_K.moved hW.alike hK, hD9⟩, hS.F ht⟩) hS.2.2 d_D_has_50
def mv_D_exclude0 (a0 : Int32) (a1 : Int32) : Int32 := 0
def mt_D_exclude0 (a0 : Int32) (a1 : Int32) : Int32 := 0
set_option maxHeartbeats 4000000 in
set_option maxRecDepth 100000 in
theorem mc_D_exclude (l : Launch) (s0 : State) (dC : Nat → ClassId) (dI : Nat → Nat → Nat) (cI cR cL cZ : ClassId) (r : Nat → Nat) (th : Int32) (sz : Nat) (a0 : Int32) (a1 : Int32) : Met l y_D_exclude [Cond.code y_D_exclude b_D_exclude 3 (some .boolean)] ({ frames := 1, cells := 0, slots := 0, locals := 21 }) (mr_PC s0 (dC, dI) [(cI, .int), (cR, .object "MeasureRows$Row"), (cL, .long), (cZ, .boolean)] [.ref (r 0), .int a0, .int a1] [((r 0), .inr (3, mf_D r th 0 0 0 0))] sz) (va_Qi (fun rr u => rr = mv_D_exclude0  a0 a1 ∧ u = mt_D_exclude0  a0 a1) (fun (u : Int32) t => ∃ rw nw pb lc : Int32, mr_W (dC, dI) [(cI, .int), (cR, .object "MeasureRows$Row"), (cL, .long), (cZ, .boolean)] (va_A [((r 0), .inr (3, mf_D r th 0 0 0 0))] sz) [((r 0), .inr (3, mf_D r u rw nw pb lc))] t) (va_A [((r 0), .inr (3, mf_D r th 0 0 0 0))] sz)) 0 0 (va_A [((r 0), .inr (3, mf_D r th 0 0 0 0))] sz) := by
  refine Met.ofW (cc := b_D_exclude) (maxL := 3) (ret := (some .boolean)) (by decide) rfl ?_
  intro p e s m args below meth c s₁ B hml hv
  obtain ⟨rfl, hsz, hB, hK, hP, hD0⟩ := hv
  subst hsz
  have hA0 := mr_A hB hD0
  have hD := hD0.self (sz := s.heap.size)
  generalize hAe : va_A [((r 0), .inr (3, mf_D r th 0 0 0 0))] s.heap.size = A at hD hA0 ⊢
  have hA : ∀ q : Nat, s.heap.size ≤ q → A q := fun q h => by rw [← hAe]; exact Or.inr h
  have hS : va_S A s.heap s.heap [] := va_S.rf
  have hP : va_P (dC, dI) mr_cl [((r 0), .inr (3, mf_D r th 0 0 0 0))] s.heap := hP
  have hBH := hB.at hS hA0
  have hx := B.exec
  have hb := B.bytes
  have hr := B.returns
  have hlocks := B.notSynchronized
  have hts : ∀ w ∈ lw_tbl, w.before [.ref (r 0), .int a0, .int a1].toArray s = true := hB.hts _
  have hown : s.vm.findClass "MeasureRowsModel" = some m.cls := findClass_of_methodNamed B.named
  have hl := lv_entry ([.ref (r 0), .int a0, .int a1]) (n := 3) (Nat.le_of_ble_eq_true rfl)
  rw [lg_entry_eq]
  generalize (lg_sl ([.ref (r 0), .int a0, .int a1]) ++ List.replicate (3 - (lg_sl ([.ref (r 0), .int a0, .int a1])).length) Slot.unset).toArray = ls at hl ⊢
  have hl : lv_has ls 3 [(0, .ref (r 0)), (1, .int a0), (2, .int a1)] := hl
  refine lv_aload_n hx hb d_D_exclude_0 rfl (lv_at hl 0 rfl) ?_
  refine lv_iconst (v := 0) hx hb d_D_exclude_1 (by decide) ?_
  refine va_put (D := (dC, dI)) (ci := 3) (v := .int 0) (ty := .int) (C := R_D) (T := T_D) (N := 19) hx hb hts ti_D t_D to_D tn_D hown hK hP hD hS 0 rfl rfl 0 (by decide) (hts (Cond.fieldLink "MeasureRowsModel" 53 "MeasureRowsModel" "thrown" "I") mw_162) (fun _ h9 => h9) rfl (by decide +kernel) rfl rfl (Nat.le_of_ble_eq_true rfl) d_D_exclude_2 (fun H locs hP hD hS => ?_)
  have hP : va_P (dC, dI) mr_cl [((r 0), .inr (3, mf_D r 0 0 0 0 0))] H := hP
  have hD : va_D A [((r 0), .inr (3, mf_D r 0 0 0 0 0))] := hD
  have hBH := hB.at hS hA0
  refine lv_aload_n hx hb d_D_exclude_5 rfl (lv_at hl 0 rfl) ?_
  refine lv_iload_n hx hb d_D_exclude_6 rfl (lv_at hl 1 rfl) ?_
  refine vp_callSi (va_Run.run (va_runV (As := [.int a0]) (rest := []) (C := R_D) ⟨hx, hb, hml, hown, hts⟩ (mc_D_isRow l s0 dC dI cI cR cL cZ r 0 0 0 0 a0) ⟨(mr_cB 1 (hts (Cond.code y_D_isRow b_D_isRow 2 (some .boolean)) mw_178) (hts (Cond.initialized y_D_isRow.cls) mw_179) (hts (Cond.methodLink "MeasureRowsModel" 104 y_D_isRow) mw_180) rfl rfl (by decide +kernel) ⟨Nat.le_of_ble_eq_true rfl, Nat.le_of_ble_eq_true rfl⟩), (hts (Cond.instanceMethod y_D_isRow) mw_181), (hts (Cond.selects "MeasureRowsModel" y_D_isRow y_D_isRow) mw_182)⟩ (mr_preV hBH hK (hP.sub (ws' := [((r 0), .inr (3, mf_D r 0 0 0 0 0))]) [0] rfl) (ci := 3) (q0 := 0) rfl rfl) rfl rfl hl.1 rfl (lv_room (Nat.le_of_ble_eq_true rfl)) d_D_exclude_7 ⟨Nat.le_of_ble_eq_true rfl, Nat.le_of_ble_eq_true rfl⟩)) (fun r_1 h_2 => ?_)
  subst h_2
  refine mr_top (mv_isRow0 _) ?_
  refine lv_if_eq (tgt := 47) hx hb d_D_exclude_10 (by decide) (fun _ => ?_) (fun c_3 => absurd c_3 (by decide))
  refine lv_iconst (v := 0) hx hb d_D_exclude_47 (by decide) ?_
  have hP9 := hP.sub (ws' := [((r 0), .inr (3, mf_D r 0 0 0 0 0))]) [0] rfl
  have hD9 := hD.sub (ws' := [((r 0), .inr (3, mf_D r 0 0 0 0 0))]) [0] (by decide) rfl
  exact W.zret (v := 0) hx hb hr (mr_narz mr_b0) (fun t ht hW => ⟨⟨_, 0, rfl, ⟨rfl, rfl⟩, 0, 0, 0, 0, by rw [ht]; exact hP9, va_K.moved hW.alike hK, hD9⟩, hS.F ht⟩) hS.2.2 d_D_exclude_48
def mv_D_condition0 (a0 : Int32) (a1 : Int32) : Int32 := 0
def mt_D_condition0 (a0 : Int32) (a1 : Int32) : Int32 := 0
set_option maxHeartbeats 4000000 in
set_option maxRecDepth 100000 in
theorem mc_D_condition (l : Launch) (s0 : State) (dC : Nat → ClassId) (dI : Nat → Nat → Nat) (cI cR cL cZ : ClassId) (r : Nat → Nat) (th : Int32) (sz : Nat) (a0 : Int32) (a1 : Int32) : Met l y_D_condition [Cond.code y_D_condition b_D_condition 3 (some .boolean)] ({ frames := 1, cells := 0, slots := 0, locals := 21 }) (mr_PC s0 (dC, dI) [(cI, .int), (cR, .object "MeasureRows$Row"), (cL, .long), (cZ, .boolean)] [.ref (r 0), .int a0, .int a1] [((r 0), .inr (3, mf_D r th 0 0 0 0))] sz) (va_Qi (fun rr u => rr = mv_D_condition0  a0 a1 ∧ u = mt_D_condition0  a0 a1) (fun (u : Int32) t => ∃ rw nw pb lc : Int32, mr_W (dC, dI) [(cI, .int), (cR, .object "MeasureRows$Row"), (cL, .long), (cZ, .boolean)] (va_A [((r 0), .inr (3, mf_D r th 0 0 0 0))] sz) [((r 0), .inr (3, mf_D r u rw nw pb lc))] t) (va_A [((r 0), .inr (3, mf_D r th 0 0 0 0))] sz)) 0 0 (va_A [((r 0), .inr (3, mf_D r th 0 0 0 0))] sz) := by
  refine Met.ofW (cc := b_D_condition) (maxL := 3) (ret := (some .boolean)) (by decide) rfl ?_
  intro p e s m args below meth c s₁ B hml hv
  obtain ⟨rfl, hsz, hB, hK, hP, hD0⟩ := hv
  subst hsz
  have hA0 := mr_A hB hD0
  have hD := hD0.self (sz := s.heap.size)
  generalize hAe : va_A [((r 0), .inr (3, mf_D r th 0 0 0 0))] s.heap.size = A at hD hA0 ⊢
  have hA : ∀ q : Nat, s.heap.size ≤ q → A q := fun q h => by rw [← hAe]; exact Or.inr h
  have hS : va_S A s.heap s.heap [] := va_S.rf
  have hP : va_P (dC, dI) mr_cl [((r 0), .inr (3, mf_D r th 0 0 0 0))] s.heap := hP
  have hBH := hB.at hS hA0
  have hx := B.exec
  have hb := B.bytes
  have hr := B.returns
  have hlocks := B.notSynchronized
  have hts : ∀ w ∈ lw_tbl, w.before [.ref (r 0), .int a0, .int a1].toArray s = true := hB.hts _
  have hown : s.vm.findClass "MeasureRowsModel" = some m.cls := findClass_of_methodNamed B.named
  have hl := lv_entry ([.ref (r 0), .int a0, .int a1]) (n := 3) (Nat.le_of_ble_eq_true rfl)
  rw [lg_entry_eq]
  generalize (lg_sl ([.ref (r 0), .int a0, .int a1]) ++ List.replicate (3 - (lg_sl ([.ref (r 0), .int a0, .int a1])).length) Slot.unset).toArray = ls at hl ⊢
  have hl : lv_has ls 3 [(0, .ref (r 0)), (1, .int a0), (2, .int a1)] := hl
  refine lv_aload_n hx hb d_D_condition_0 rfl (lv_at hl 0 rfl) ?_
  refine lv_iconst (v := 0) hx hb d_D_condition_1 (by decide) ?_
  refine va_put (D := (dC, dI)) (ci := 3) (v := .int 0) (ty := .int) (C := R_D) (T := T_D) (N := 19) hx hb hts ti_D t_D to_D tn_D hown hK hP hD hS 0 rfl rfl 0 (by decide) (hts (Cond.fieldLink "MeasureRowsModel" 53 "MeasureRowsModel" "thrown" "I") mw_162) (fun _ h9 => h9) rfl (by decide +kernel) rfl rfl (Nat.le_of_ble_eq_true rfl) d_D_condition_2 (fun H locs hP hD hS => ?_)
  have hP : va_P (dC, dI) mr_cl [((r 0), .inr (3, mf_D r 0 0 0 0 0))] H := hP
  have hD : va_D A [((r 0), .inr (3, mf_D r 0 0 0 0 0))] := hD
  have hBH := hB.at hS hA0
  refine lv_aload_n hx hb d_D_condition_5 rfl (lv_at hl 0 rfl) ?_
  refine lv_iload_n hx hb d_D_condition_6 rfl (lv_at hl 1 rfl) ?_
  refine vp_callSi (va_Run.run (va_runV (As := [.int a0]) (rest := []) (C := R_D) ⟨hx, hb, hml, hown, hts⟩ (mc_D_isRow l s0 dC dI cI cR cL cZ r 0 0 0 0 a0) ⟨(mr_cB 1 (hts (Cond.code y_D_isRow b_D_isRow 2 (some .boolean)) mw_178) (hts (Cond.initialized y_D_isRow.cls) mw_179) (hts (Cond.methodLink "MeasureRowsModel" 104 y_D_isRow) mw_180) rfl rfl (by decide +kernel) ⟨Nat.le_of_ble_eq_true rfl, Nat.le_of_ble_eq_true rfl⟩), (hts (Cond.instanceMethod y_D_isRow) mw_181), (hts (Cond.selects "MeasureRowsModel" y_D_isRow y_D_isRow) mw_182)⟩ (mr_preV hBH hK (hP.sub (ws' := [((r 0), .inr (3, mf_D r 0 0 0 0 0))]) [0] rfl) (ci := 3) (q0 := 0) rfl rfl) rfl rfl hl.1 rfl (lv_room (Nat.le_of_ble_eq_true rfl)) d_D_condition_7 ⟨Nat.le_of_ble_eq_true rfl, Nat.le_of_ble_eq_true rfl⟩)) (fun r_1 h_2 => ?_)
  subst h_2
  refine mr_top (mv_isRow0 _) ?_
  refine lv_if_eq (tgt := 50) hx hb d_D_condition_10 (by decide) (fun _ => ?_) (fun c_3 => absurd c_3 (by decide))
  refine lv_iconst (v := 0) hx hb d_D_condition_50 (by decide) ?_
  have hP9 := hP.sub (ws' := [((r 0), .inr (3, mf_D r 0 0 0 0 0))]) [0] rfl
  have hD9 := hD.sub (ws' := [((r 0), .inr (3, mf_D r 0 0 0 0 0))]) [0] (by decide) rfl
  exact W.zret (v := 0) hx hb hr (mr_narz mr_b0) (fun t ht hW => ⟨⟨_, 0, rfl, ⟨rfl, rfl⟩, 0, 0, 0, 0, by rw [ht]; exact hP9, va_K.moved hW.alike hK, hD9⟩, hS.F ht⟩) hS.2.2 d_D_condition_51
def mv_D_end0 (a0 : Int32) (a1 : Int32) (a2 : Int32) : Int32 := 0
def mt_D_end0 (a0 : Int32) (a1 : Int32) (a2 : Int32) : Int32 := 1
set_option maxHeartbeats 4000000 in
set_option maxRecDepth 100000 in
theorem mc_D_end (l : Launch) (s0 : State) (dC : Nat → ClassId) (dI : Nat → Nat → Nat) (cI cR cL cZ : ClassId) (r : Nat → Nat) (th : Int32) (sz : Nat) (a0 : Int32) (a1 : Int32) (a2 : Int32) : Met l y_D_end [Cond.code y_D_end b_D_end 4 (some .int)] ({ frames := 1, cells := 0, slots := 0, locals := 21 }) (mr_PC s0 (dC, dI) [(cI, .int), (cR, .object "MeasureRows$Row"), (cL, .long), (cZ, .boolean)] [.ref (r 0), .int a0, .int a1, .int a2] [((r 0), .inr (3, mf_D r th 0 0 0 0))] sz) (va_Qi (fun rr u => rr = mv_D_end0  a0 a1 a2 ∧ u = mt_D_end0  a0 a1 a2) (fun (u : Int32) t => ∃ rw nw pb lc : Int32, mr_W (dC, dI) [(cI, .int), (cR, .object "MeasureRows$Row"), (cL, .long), (cZ, .boolean)] (va_A [((r 0), .inr (3, mf_D r th 0 0 0 0))] sz) [((r 0), .inr (3, mf_D r u rw nw pb lc))] t) (va_A [((r 0), .inr (3, mf_D r th 0 0 0 0))] sz)) 0 0 (va_A [((r 0), .inr (3, mf_D r th 0 0 0 0))] sz) := by
  refine Met.ofW (cc := b_D_end) (maxL := 4) (ret := (some .int)) (by decide) rfl ?_
  intro p e s m args below meth c s₁ B hml hv
  obtain ⟨rfl, hsz, hB, hK, hP, hD0⟩ := hv
  subst hsz
  have hA0 := mr_A hB hD0
  have hD := hD0.self (sz := s.heap.size)
  generalize hAe : va_A [((r 0), .inr (3, mf_D r th 0 0 0 0))] s.heap.size = A at hD hA0 ⊢
  have hA : ∀ q : Nat, s.heap.size ≤ q → A q := fun q h => by rw [← hAe]; exact Or.inr h
  have hS : va_S A s.heap s.heap [] := va_S.rf
  have hP : va_P (dC, dI) mr_cl [((r 0), .inr (3, mf_D r th 0 0 0 0))] s.heap := hP
  have hBH := hB.at hS hA0
  have hx := B.exec
  have hb := B.bytes
  have hr := B.returns
  have hlocks := B.notSynchronized
  have hts : ∀ w ∈ lw_tbl, w.before [.ref (r 0), .int a0, .int a1, .int a2].toArray s = true := hB.hts _
  have hown : s.vm.findClass "MeasureRowsModel" = some m.cls := findClass_of_methodNamed B.named
  have hl := lv_entry ([.ref (r 0), .int a0, .int a1, .int a2]) (n := 4) (Nat.le_of_ble_eq_true rfl)
  rw [lg_entry_eq]
  generalize (lg_sl ([.ref (r 0), .int a0, .int a1, .int a2]) ++ List.replicate (4 - (lg_sl ([.ref (r 0), .int a0, .int a1, .int a2])).length) Slot.unset).toArray = ls at hl ⊢
  have hl : lv_has ls 4 [(0, .ref (r 0)), (1, .int a0), (2, .int a1), (3, .int a2)] := hl
  refine lv_aload_n hx hb d_D_end_0 rfl (lv_at hl 0 rfl) ?_
  refine lv_iload_n hx hb d_D_end_1 rfl (lv_at hl 1 rfl) ?_
  refine vp_callSi (va_Run.run (va_runV (As := [.int a0]) (rest := []) (C := R_D) ⟨hx, hb, hml, hown, hts⟩ (mc_D_isRow l s0 dC dI cI cR cL cZ r th 0 0 0 a0) ⟨(mr_cB 1 (hts (Cond.code y_D_isRow b_D_isRow 2 (some .boolean)) mw_178) (hts (Cond.initialized y_D_isRow.cls) mw_179) (hts (Cond.methodLink "MeasureRowsModel" 104 y_D_isRow) mw_180) rfl rfl (by decide +kernel) ⟨Nat.le_of_ble_eq_true rfl, Nat.le_of_ble_eq_true rfl⟩), (hts (Cond.instanceMethod y_D_isRow) mw_181), (hts (Cond.selects "MeasureRowsModel" y_D_isRow y_D_isRow) mw_182)⟩ (mr_preV hBH hK (hP.sub (ws' := [((r 0), .inr (3, mf_D r th 0 0 0 0))]) [0] rfl) (ci := 3) (q0 := 0) rfl rfl) rfl rfl hl.1 rfl (lv_room (Nat.le_of_ble_eq_true rfl)) d_D_end_2 ⟨Nat.le_of_ble_eq_true rfl, Nat.le_of_ble_eq_true rfl⟩)) (fun r_1 h_2 => ?_)
  subst h_2
  refine mr_top (mv_isRow0 _) ?_
  refine lv_if_ne (tgt := 14) hx hb d_D_end_5 (by decide) (fun c_3 => absurd c_3 (by decide)) (fun _ => ?_)
  refine lv_aload_n hx hb d_D_end_8 rfl (lv_at hl 0 rfl) ?_
  refine lv_iconst (v := 1) hx hb d_D_end_9 (by decide) ?_
  have hPc := hP.sub (ws' := [((r 0), .inr (3, mf_D r th 0 0 0 0))]) [0] rfl
  have hDc := hD.sub (ws' := [((r 0), .inr (3, mf_D r th 0 0 0 0))]) [0] (by decide) rfl
  have hFc := va_free (wc := [((r 0), .inr (3, mf_D r th 0 0 0 0))]) hD hS hA [0] rfl
  refine va_calli (va_runV (As := [.int 1]) (rest := []) (C := R_D) ⟨hx, hb, hml, hown, hts⟩ (mc_D_fails l s0 dC dI cI cR cL cZ r th 0 0 0 0 _ 1) ⟨(mr_cB 1 (hts (Cond.code y_D_fails b_D_fails 2 (some .int)) mw_183) (hts (Cond.initialized y_D_fails.cls) mw_184) (hts (Cond.methodLink "MeasureRowsModel" 97 y_D_fails) mw_185) rfl rfl (by decide +kernel) ⟨Nat.le_of_ble_eq_true rfl, Nat.le_of_ble_eq_true rfl⟩), (hts (Cond.instanceMethod y_D_fails) mw_186), (hts (Cond.selects "MeasureRowsModel" y_D_fails y_D_fails) mw_187)⟩ (mr_preCV hBH hK hPc (hDc.weaken (fun _ _ _ h => hA0 _ h)) (ci := 3) (q0 := 0) rfl rfl) rfl rfl hl.1 rfl (lv_room (Nat.le_of_ble_eq_true rfl)) d_D_end_10 ⟨Nat.le_of_ble_eq_true rfl, Nat.le_of_ble_eq_true rfl⟩) hS (fun q _ h => hFc q h) hFc (fun r_4 u_5 t H1 locs ht hvm hw hB1 hz1 hk1 hS => ?_)
  obtain ⟨hP1, hK1, hD1⟩ := hB1
  rw [ht] at hP1
  obtain ⟨hP, hD⟩ := va_join (wr := []) (w1 := [((r 0), .inr (3, mf_D r 1 0 0 0 0))]) hP hD [0] [] rfl rfl (by decide) (by decide) hk1 hFc hP1 hD1
  clear hK1 hk1 hPc hDc hFc
  generalize H1 = H at hP hS ht ⊢
  have hP : va_P (dC, dI) mr_cl [((r 0), .inr (3, mf_D r 1 0 0 0 0))] H := hP
  have hD : va_D A [((r 0), .inr (3, mf_D r 1 0 0 0 0))] := hD
  have hBH := hB.at hS hA0
  obtain rfl : r_4 = 0 := hw
  have hP9 := hP.sub (ws' := [((r 0), .inr (3, mf_D r 1 0 0 0 0))]) [0] rfl
  have hD9 := hD.sub (ws' := [((r 0), .inr (3, mf_D r 1 0 0 0 0))]) [0] (by decide) rfl
  exact W.iret (v := 0) hx hb hr (fun t ht hW => ⟨⟨_, 1, rfl, ⟨rfl, rfl⟩, 0, 0, 0, 0, by rw [ht]; exact hP9, va_K.moved hW.alike hK, hD9⟩, hS.F ht⟩) hS.2.2 d_D_end_13
def mt_D_papers0 (a0 : Int32) : Int32 := 0
set_option maxHeartbeats 4000000 in
set_option maxRecDepth 100000 in
theorem mc_D_papers (l : Launch) (s0 : State) (dC : Nat → ClassId) (dI : Nat → Nat → Nat) (cI cR cL cZ : ClassId) (r : Nat → Nat) (th : Int32) (sz : Nat) (a0 : Int32) : Met l y_D_papers [Cond.code y_D_papers b_D_papers 2 none] ({ frames := 0, cells := 0, slots := 0, locals := 0 }) (mr_PC s0 (dC, dI) [(cI, .int), (cR, .object "MeasureRows$Row"), (cL, .long), (cZ, .boolean)] [.ref (r 0), .int a0] [((r 0), .inr (3, mf_D r th 0 0 0 0))] sz) (va_Qv (fun u => u = mt_D_papers0  a0) (fun (u : Int32) t => ∃ rw nw pb lc : Int32, mr_W (dC, dI) [(cI, .int), (cR, .object "MeasureRows$Row"), (cL, .long), (cZ, .boolean)] (va_A [((r 0), .inr (3, mf_D r th 0 0 0 0))] sz) [((r 0), .inr (3, mf_D r u rw nw pb lc))] t) (va_A [((r 0), .inr (3, mf_D r th 0 0 0 0))] sz)) 0 0 (va_A [((r 0), .inr (3, mf_D r th 0 0 0 0))] sz) := by
  refine Met.ofW (cc := b_D_papers) (maxL := 2) (ret := none) (by decide) rfl ?_
  intro p e s m args below meth c s₁ B hml hv
  obtain ⟨rfl, hsz, hB, hK, hP, hD0⟩ := hv
  subst hsz
  have hA0 := mr_A hB hD0
  have hD := hD0.self (sz := s.heap.size)
  generalize hAe : va_A [((r 0), .inr (3, mf_D r th 0 0 0 0))] s.heap.size = A at hD hA0 ⊢
  have hA : ∀ q : Nat, s.heap.size ≤ q → A q := fun q h => by rw [← hAe]; exact Or.inr h
  have hS : va_S A s.heap s.heap [] := va_S.rf
  have hP : va_P (dC, dI) mr_cl [((r 0), .inr (3, mf_D r th 0 0 0 0))] s.heap := hP
  have hBH := hB.at hS hA0
  have hx := B.exec
  have hb := B.bytes
  have hr := B.returns
  have hlocks := B.notSynchronized
  have hts : ∀ w ∈ lw_tbl, w.before [.ref (r 0), .int a0].toArray s = true := hB.hts _
  have hown : s.vm.findClass "MeasureRowsModel" = some m.cls := findClass_of_methodNamed B.named
  have hl := lv_entry ([.ref (r 0), .int a0]) (n := 2) (Nat.le_of_ble_eq_true rfl)
  rw [lg_entry_eq]
  generalize (lg_sl ([.ref (r 0), .int a0]) ++ List.replicate (2 - (lg_sl ([.ref (r 0), .int a0])).length) Slot.unset).toArray = ls at hl ⊢
  have hl : lv_has ls 2 [(0, .ref (r 0)), (1, .int a0)] := hl
  refine lv_aload_n hx hb d_D_papers_0 rfl (lv_at hl 0 rfl) ?_
  refine lv_iconst (v := 0) hx hb d_D_papers_1 (by decide) ?_
  refine va_put (D := (dC, dI)) (ci := 3) (v := .int 0) (ty := .int) (C := R_D) (T := T_D) (N := 19) hx hb hts ti_D t_D to_D tn_D hown hK hP hD hS 0 rfl rfl 0 (by decide) (hts (Cond.fieldLink "MeasureRowsModel" 53 "MeasureRowsModel" "thrown" "I") mw_162) (fun _ h9 => h9) rfl (by decide +kernel) rfl rfl (Nat.le_of_ble_eq_true rfl) d_D_papers_2 (fun H locs hP hD hS => ?_)
  have hP : va_P (dC, dI) mr_cl [((r 0), .inr (3, mf_D r 0 0 0 0 0))] H := hP
  have hD : va_D A [((r 0), .inr (3, mf_D r 0 0 0 0 0))] := hD
  have hBH := hB.at hS hA0
  refine lv_aload_n hx hb d_D_papers_5 rfl (lv_at hl 0 rfl) ?_
  refine lv_iload_n hx hb d_D_papers_6 rfl (lv_at hl 1 rfl) ?_
  refine lv_ldc (v := 65535) hx hb hown (hts (Cond.constant "MeasureRowsModel" 110 65535) mw_188) d_D_papers_7 ?_
  refine lv_iand hx hb d_D_papers_9 ?_
  refine va_put (D := (dC, dI)) (ci := 3) (v := .int (a0 &&& 65535)) (ty := .int) (C := R_D) (T := T_D) (N := 19) hx hb hts ti_D t_D to_D tn_D hown hK hP hD hS 0 rfl rfl 15 (by decide) (hts (Cond.fieldLink "MeasureRowsModel" 111 "MeasureRowsModel" "there" "I") mw_189) (fun _ h9 => h9) rfl (by decide +kernel) rfl rfl (Nat.le_of_ble_eq_true rfl) d_D_papers_10 (fun H locs hP hD hS => ?_)
  have hP : va_P (dC, dI) mr_cl [((r 0), .inr (3, mf_D r 0 0 0 (a0 &&& 65535) 0))] H := hP
  have hD : va_D A [((r 0), .inr (3, mf_D r 0 0 0 (a0 &&& 65535) 0))] := hD
  have hBH := hB.at hS hA0
  have hP9 := hP.sub (ws' := [((r 0), .inr (3, mf_D r 0 0 0 (a0 &&& 65535) 0))]) [0] rfl
  have hD9 := hD.sub (ws' := [((r 0), .inr (3, mf_D r 0 0 0 (a0 &&& 65535) 0))]) [0] (by decide) rfl
  exact W.vret hx hb hr (fun t ht hW => ⟨⟨0, rfl, rfl, 0, 0, a0 &&& 65535, 0, by rw [ht]; exact hP9, va_K.moved hW.alike hK, hD9⟩, hS.F ht⟩) hS.2.2 d_D_papers_13
def mv_D_apply0 (a0 : Int32) (a1 : Int32) (a2 : Int32) (a3 : Int32) : Int32 := if (mv_D_digits a0) = 6 then (if (mv_D_isLand a1) = 0 then 0 else if (mv_D_isDay a2) = 0 then 0 else if (mv_D_isDay a3) = 0 then 0 else 0) else 0
def mt_D_apply0 (a0 : Int32) (a1 : Int32) (a2 : Int32) (a3 : Int32) : Int32 := if (mv_D_digits a0) = 6 then (if (mv_D_isLand a1) = 0 then 1 else if (mv_D_isDay a2) = 0 then 1 else if (mv_D_isDay a3) = 0 then 1 else 0) else 1
set_option maxHeartbeats 4000000 in
set_option maxRecDepth 100000 in
theorem mc_D_apply (l : Launch) (s0 : State) (dC : Nat → ClassId) (dI : Nat → Nat → Nat) (cI cR cL cZ : ClassId) (r : Nat → Nat) (th : Int32) (sz : Nat) (a0 : Int32) (a1 : Int32) (a2 : Int32) (a3 : Int32) : Met l y_D_apply [Cond.code y_D_apply b_D_apply 9 (some .int)] ({ frames := 2, cells := 0, slots := 0, locals := 42 }) (mr_PC s0 (dC, dI) [(cI, .int), (cR, .object "MeasureRows$Row"), (cL, .long), (cZ, .boolean)] [.ref (r 0), .int a0, .int a1, .int a2, .int a3] [((r 0), .inr (3, mf_D r th 0 0 0 0))] sz) (va_Qi (fun rr u => rr = mv_D_apply0  a0 a1 a2 a3 ∧ u = mt_D_apply0  a0 a1 a2 a3) (fun (u : Int32) t => ∃ rw nw pb lc : Int32, mr_W (dC, dI) [(cI, .int), (cR, .object "MeasureRows$Row"), (cL, .long), (cZ, .boolean)] (va_A [((r 0), .inr (3, mf_D r th 0 0 0 0))] sz) [((r 0), .inr (3, mf_D r u rw nw pb lc))] t) (va_A [((r 0), .inr (3, mf_D r th 0 0 0 0))] sz)) 0 0 (va_A [((r 0), .inr (3, mf_D r th 0 0 0 0))] sz) := by
  refine Met.ofW (cc := b_D_apply) (maxL := 9) (ret := (some .int)) (by decide) rfl ?_
  intro p e s m args below meth c s₁ B hml hv
  obtain ⟨rfl, hsz, hB, hK, hP, hD0⟩ := hv
  subst hsz
  have hA0 := mr_A hB hD0
  have hD := hD0.self (sz := s.heap.size)
  generalize hAe : va_A [((r 0), .inr (3, mf_D r th 0 0 0 0))] s.heap.size = A at hD hA0 ⊢
  have hA : ∀ q : Nat, s.heap.size ≤ q → A q := fun q h => by rw [← hAe]; exact Or.inr h
  have hS : va_S A s.heap s.heap [] := va_S.rf
  have hP : va_P (dC, dI) mr_cl [((r 0), .inr (3, mf_D r th 0 0 0 0))] s.heap := hP
  have hBH := hB.at hS hA0
  have hx := B.exec
  have hb := B.bytes
  have hr := B.returns
  have hlocks := B.notSynchronized
  have hts : ∀ w ∈ lw_tbl, w.before [.ref (r 0), .int a0, .int a1, .int a2, .int a3].toArray s = true := hB.hts _
  have hown : s.vm.findClass "MeasureRowsModel" = some m.cls := findClass_of_methodNamed B.named
  have hl := lv_entry ([.ref (r 0), .int a0, .int a1, .int a2, .int a3]) (n := 9) (Nat.le_of_ble_eq_true rfl)
  rw [lg_entry_eq]
  generalize (lg_sl ([.ref (r 0), .int a0, .int a1, .int a2, .int a3]) ++ List.replicate (9 - (lg_sl ([.ref (r 0), .int a0, .int a1, .int a2, .int a3])).length) Slot.unset).toArray = ls at hl ⊢
  have hl : lv_has ls 9 [(0, .ref (r 0)), (1, .int a0), (2, .int a1), (3, .int a2), (4, .int a3)] := hl
  refine lv_iload_n hx hb d_D_apply_0 rfl (lv_at hl 1 rfl) ?_
  refine vp_callSi (va_Run.run (va_runS (As := [.int a0]) (rest := []) ⟨hx, hb, hml, hown, hts⟩ (mc_D_digits l s0 a0) ⟨(mr_cB 1 (hts (Cond.code y_D_digits b_D_digits 1 (some .int)) mw_190) (hts (Cond.initialized y_D_digits.cls) mw_191) (hts (Cond.methodLink "MeasureRowsModel" 91 y_D_digits) mw_192) rfl rfl (by decide +kernel) ⟨Nat.le_of_ble_eq_true rfl, Nat.le_of_ble_eq_true rfl⟩), (hts (Cond.static y_D_digits) mw_193)⟩ (mr_pre0 hBH) rfl rfl hl.1 rfl (lv_room (Nat.le_of_ble_eq_true rfl)) d_D_apply_1 ⟨Nat.le_of_ble_eq_true rfl, Nat.le_of_ble_eq_true rfl⟩)) (fun r_1 h_2 => ?_)
  subst h_2
  refine lv_bipush (v := 6) hx hb d_D_apply_4 (by decide) ?_
  refine lv_icmp_ne (tgt := 31) hx hb d_D_apply_6 (by decide) (fun c_3 => ?_) (fun c_3 => ?_)
  · refine lv_aload_n hx hb d_D_apply_31 rfl (lv_at hl 0 rfl) ?_
    refine lv_iconst (v := 1) hx hb d_D_apply_32 (by decide) ?_
    have hPc := hP.sub (ws' := [((r 0), .inr (3, mf_D r th 0 0 0 0))]) [0] rfl
    have hDc := hD.sub (ws' := [((r 0), .inr (3, mf_D r th 0 0 0 0))]) [0] (by decide) rfl
    have hFc := va_free (wc := [((r 0), .inr (3, mf_D r th 0 0 0 0))]) hD hS hA [0] rfl
    refine va_calli (va_runV (As := [.int 1]) (rest := []) (C := R_D) ⟨hx, hb, hml, hown, hts⟩ (mc_D_fails l s0 dC dI cI cR cL cZ r th 0 0 0 0 _ 1) ⟨(mr_cB 1 (hts (Cond.code y_D_fails b_D_fails 2 (some .int)) mw_183) (hts (Cond.initialized y_D_fails.cls) mw_184) (hts (Cond.methodLink "MeasureRowsModel" 97 y_D_fails) mw_185) rfl rfl (by decide +kernel) ⟨Nat.le_of_ble_eq_true rfl, Nat.le_of_ble_eq_true rfl⟩), (hts (Cond.instanceMethod y_D_fails) mw_186), (hts (Cond.selects "MeasureRowsModel" y_D_fails y_D_fails) mw_187)⟩ (mr_preCV hBH hK hPc (hDc.weaken (fun _ _ _ h => hA0 _ h)) (ci := 3) (q0 := 0) rfl rfl) rfl rfl hl.1 rfl (lv_room (Nat.le_of_ble_eq_true rfl)) d_D_apply_33 ⟨Nat.le_of_ble_eq_true rfl, Nat.le_of_ble_eq_true rfl⟩) hS (fun q _ h => hFc q h) hFc (fun r_4 u_5 t H1 locs ht hvm hw hB1 hz1 hk1 hS => ?_)
    obtain ⟨hP1, hK1, hD1⟩ := hB1
    rw [ht] at hP1
    obtain ⟨hP, hD⟩ := va_join (wr := []) (w1 := [((r 0), .inr (3, mf_D r 1 0 0 0 0))]) hP hD [0] [] rfl rfl (by decide) (by decide) hk1 hFc hP1 hD1
    clear hK1 hk1 hPc hDc hFc
    generalize H1 = H at hP hS ht ⊢
    have hP : va_P (dC, dI) mr_cl [((r 0), .inr (3, mf_D r 1 0 0 0 0))] H := hP
    have hD : va_D A [((r 0), .inr (3, mf_D r 1 0 0 0 0))] := hD
    have hBH := hB.at hS hA0
    obtain rfl : r_4 = 0 := hw
    have hP9 := hP.sub (ws' := [((r 0), .inr (3, mf_D r 1 0 0 0 0))]) [0] rfl
    have hD9 := hD.sub (ws' := [((r 0), .inr (3, mf_D r 1 0 0 0 0))]) [0] (by decide) rfl
    exact W.iret (v := 0) hx hb hr (fun t ht hW => ⟨⟨_, 1, rfl, ⟨by unfold mv_D_apply0; rw [if_neg c_3], by unfold mt_D_apply0; rw [if_neg c_3]⟩, 0, 0, 0, 0, by rw [ht]; exact hP9, va_K.moved hW.alike hK, hD9⟩, hS.F ht⟩) hS.2.2 d_D_apply_36
  · refine lv_iload_n hx hb d_D_apply_9 rfl (lv_at hl 2 rfl) ?_
    refine vp_callSi (va_Run.run (va_runS (As := [.int a1]) (rest := []) ⟨hx, hb, hml, hown, hts⟩ (mc_D_isLand l s0 a1) ⟨(mr_cB 1 (hts (Cond.code y_D_isLand b_D_isLand 1 (some .boolean)) mw_169) (hts (Cond.initialized y_D_isLand.cls) mw_170) (hts (Cond.methodLink "MeasureRowsModel" 71 y_D_isLand) mw_171) rfl rfl (by decide +kernel) ⟨Nat.le_of_ble_eq_true rfl, Nat.le_of_ble_eq_true rfl⟩), (hts (Cond.static y_D_isLand) mw_172)⟩ (mr_pre0 hBH) rfl rfl hl.1 rfl (lv_room (Nat.le_of_ble_eq_true rfl)) d_D_apply_10 ⟨Nat.le_of_ble_eq_true rfl, Nat.le_of_ble_eq_true rfl⟩)) (fun r_6 h_7 => ?_)
    subst h_7
    refine lv_if_eq (tgt := 31) hx hb d_D_apply_13 (by decide) (fun c_8 => ?_) (fun c_8 => ?_)
    · refine lv_aload_n hx hb d_D_apply_31 rfl (lv_at hl 0 rfl) ?_
      refine lv_iconst (v := 1) hx hb d_D_apply_32 (by decide) ?_
      have hPc := hP.sub (ws' := [((r 0), .inr (3, mf_D r th 0 0 0 0))]) [0] rfl
      have hDc := hD.sub (ws' := [((r 0), .inr (3, mf_D r th 0 0 0 0))]) [0] (by decide) rfl
      have hFc := va_free (wc := [((r 0), .inr (3, mf_D r th 0 0 0 0))]) hD hS hA [0] rfl
      refine va_calli (va_runV (As := [.int 1]) (rest := []) (C := R_D) ⟨hx, hb, hml, hown, hts⟩ (mc_D_fails l s0 dC dI cI cR cL cZ r th 0 0 0 0 _ 1) ⟨(mr_cB 1 (hts (Cond.code y_D_fails b_D_fails 2 (some .int)) mw_183) (hts (Cond.initialized y_D_fails.cls) mw_184) (hts (Cond.methodLink "MeasureRowsModel" 97 y_D_fails) mw_185) rfl rfl (by decide +kernel) ⟨Nat.le_of_ble_eq_true rfl, Nat.le_of_ble_eq_true rfl⟩), (hts (Cond.instanceMethod y_D_fails) mw_186), (hts (Cond.selects "MeasureRowsModel" y_D_fails y_D_fails) mw_187)⟩ (mr_preCV hBH hK hPc (hDc.weaken (fun _ _ _ h => hA0 _ h)) (ci := 3) (q0 := 0) rfl rfl) rfl rfl hl.1 rfl (lv_room (Nat.le_of_ble_eq_true rfl)) d_D_apply_33 ⟨Nat.le_of_ble_eq_true rfl, Nat.le_of_ble_eq_true rfl⟩) hS (fun q _ h => hFc q h) hFc (fun r_9 u_10 t H1 locs ht hvm hw hB1 hz1 hk1 hS => ?_)
      obtain ⟨hP1, hK1, hD1⟩ := hB1
      rw [ht] at hP1
      obtain ⟨hP, hD⟩ := va_join (wr := []) (w1 := [((r 0), .inr (3, mf_D r 1 0 0 0 0))]) hP hD [0] [] rfl rfl (by decide) (by decide) hk1 hFc hP1 hD1
      clear hK1 hk1 hPc hDc hFc
      generalize H1 = H at hP hS ht ⊢
      have hP : va_P (dC, dI) mr_cl [((r 0), .inr (3, mf_D r 1 0 0 0 0))] H := hP
      have hD : va_D A [((r 0), .inr (3, mf_D r 1 0 0 0 0))] := hD
      have hBH := hB.at hS hA0
      obtain rfl : r_9 = 0 := hw
      have hP9 := hP.sub (ws' := [((r 0), .inr (3, mf_D r 1 0 0 0 0))]) [0] rfl
      have hD9 := hD.sub (ws' := [((r 0), .inr (3, mf_D r 1 0 0 0 0))]) [0] (by decide) rfl
      exact W.iret (v := 0) hx hb hr (fun t ht hW => ⟨⟨_, 1, rfl, ⟨by unfold mv_D_apply0; rw [if_pos c_3, if_pos c_8], by unfold mt_D_apply0; rw [if_pos c_3, if_pos c_8]⟩, 0, 0, 0, 0, by rw [ht]; exact hP9, va_K.moved hW.alike hK, hD9⟩, hS.F ht⟩) hS.2.2 d_D_apply_36
    · refine lv_iload_n hx hb d_D_apply_16 rfl (lv_at hl 3 rfl) ?_
      refine vp_callSi (va_Run.run (va_runS (As := [.int a2]) (rest := []) ⟨hx, hb, hml, hown, hts⟩ (mc_D_isDay l s0 a2) ⟨(mr_cB 1 (hts (Cond.code y_D_isDay b_D_isDay 1 (some .boolean)) mw_194) (hts (Cond.initialized y_D_isDay.cls) mw_195) (hts (Cond.methodLink "MeasureRowsModel" 94 y_D_isDay) mw_196) rfl rfl (by decide +kernel) ⟨Nat.le_of_ble_eq_true rfl, Nat.le_of_ble_eq_true rfl⟩), (hts (Cond.static y_D_isDay) mw_197)⟩ (mr_pre0 hBH) rfl rfl hl.1 rfl (lv_room (Nat.le_of_ble_eq_true rfl)) d_D_apply_17 ⟨Nat.le_of_ble_eq_true rfl, Nat.le_of_ble_eq_true rfl⟩)) (fun r_11 h_12 => ?_)
      subst h_12
      refine lv_if_eq (tgt := 31) hx hb d_D_apply_20 (by decide) (fun c_13 => ?_) (fun c_13 => ?_)
      · refine lv_aload_n hx hb d_D_apply_31 rfl (lv_at hl 0 rfl) ?_
        refine lv_iconst (v := 1) hx hb d_D_apply_32 (by decide) ?_
        have hPc := hP.sub (ws' := [((r 0), .inr (3, mf_D r th 0 0 0 0))]) [0] rfl
        have hDc := hD.sub (ws' := [((r 0), .inr (3, mf_D r th 0 0 0 0))]) [0] (by decide) rfl
        have hFc := va_free (wc := [((r 0), .inr (3, mf_D r th 0 0 0 0))]) hD hS hA [0] rfl
        refine va_calli (va_runV (As := [.int 1]) (rest := []) (C := R_D) ⟨hx, hb, hml, hown, hts⟩ (mc_D_fails l s0 dC dI cI cR cL cZ r th 0 0 0 0 _ 1) ⟨(mr_cB 1 (hts (Cond.code y_D_fails b_D_fails 2 (some .int)) mw_183) (hts (Cond.initialized y_D_fails.cls) mw_184) (hts (Cond.methodLink "MeasureRowsModel" 97 y_D_fails) mw_185) rfl rfl (by decide +kernel) ⟨Nat.le_of_ble_eq_true rfl, Nat.le_of_ble_eq_true rfl⟩), (hts (Cond.instanceMethod y_D_fails) mw_186), (hts (Cond.selects "MeasureRowsModel" y_D_fails y_D_fails) mw_187)⟩ (mr_preCV hBH hK hPc (hDc.weaken (fun _ _ _ h => hA0 _ h)) (ci := 3) (q0 := 0) rfl rfl) rfl rfl hl.1 rfl (lv_room (Nat.le_of_ble_eq_true rfl)) d_D_apply_33 ⟨Nat.le_of_ble_eq_true rfl, Nat.le_of_ble_eq_true rfl⟩) hS (fun q _ h => hFc q h) hFc (fun r_14 u_15 t H1 locs ht hvm hw hB1 hz1 hk1 hS => ?_)
        obtain ⟨hP1, hK1, hD1⟩ := hB1
        rw [ht] at hP1
        obtain ⟨hP, hD⟩ := va_join (wr := []) (w1 := [((r 0), .inr (3, mf_D r 1 0 0 0 0))]) hP hD [0] [] rfl rfl (by decide) (by decide) hk1 hFc hP1 hD1
        clear hK1 hk1 hPc hDc hFc
        generalize H1 = H at hP hS ht ⊢
        have hP : va_P (dC, dI) mr_cl [((r 0), .inr (3, mf_D r 1 0 0 0 0))] H := hP
        have hD : va_D A [((r 0), .inr (3, mf_D r 1 0 0 0 0))] := hD
        have hBH := hB.at hS hA0
        obtain rfl : r_14 = 0 := hw
        have hP9 := hP.sub (ws' := [((r 0), .inr (3, mf_D r 1 0 0 0 0))]) [0] rfl
        have hD9 := hD.sub (ws' := [((r 0), .inr (3, mf_D r 1 0 0 0 0))]) [0] (by decide) rfl
        exact W.iret (v := 0) hx hb hr (fun t ht hW => ⟨⟨_, 1, rfl, ⟨by unfold mv_D_apply0; rw [if_pos c_3, if_neg c_8, if_pos c_13], by unfold mt_D_apply0; rw [if_pos c_3, if_neg c_8, if_pos c_13]⟩, 0, 0, 0, 0, by rw [ht]; exact hP9, va_K.moved hW.alike hK, hD9⟩, hS.F ht⟩) hS.2.2 d_D_apply_36
      · refine lv_iload hx hb d_D_apply_23 (lv_at hl 4 rfl) ?_
        refine vp_callSi (va_Run.run (va_runS (As := [.int a3]) (rest := []) ⟨hx, hb, hml, hown, hts⟩ (mc_D_isDay l s0 a3) ⟨(mr_cB 1 (hts (Cond.code y_D_isDay b_D_isDay 1 (some .boolean)) mw_194) (hts (Cond.initialized y_D_isDay.cls) mw_195) (hts (Cond.methodLink "MeasureRowsModel" 94 y_D_isDay) mw_196) rfl rfl (by decide +kernel) ⟨Nat.le_of_ble_eq_true rfl, Nat.le_of_ble_eq_true rfl⟩), (hts (Cond.static y_D_isDay) mw_197)⟩ (mr_pre0 hBH) rfl rfl hl.1 rfl (lv_room (Nat.le_of_ble_eq_true rfl)) d_D_apply_25 ⟨Nat.le_of_ble_eq_true rfl, Nat.le_of_ble_eq_true rfl⟩)) (fun r_16 h_17 => ?_)
        subst h_17
        refine lv_if_ne (tgt := 37) hx hb d_D_apply_28 (by decide) (fun c_18 => ?_) (fun c_18 => ?_)
        · refine lv_aload_n hx hb d_D_apply_37 rfl (lv_at hl 0 rfl) ?_
          refine lv_iconst (v := 0) hx hb d_D_apply_38 (by decide) ?_
          refine va_put (D := (dC, dI)) (ci := 3) (v := .int 0) (ty := .int) (C := R_D) (T := T_D) (N := 19) hx hb hts ti_D t_D to_D tn_D hown hK hP hD hS 0 rfl rfl 0 (by decide) (hts (Cond.fieldLink "MeasureRowsModel" 53 "MeasureRowsModel" "thrown" "I") mw_162) (fun _ h9 => h9) rfl (by decide +kernel) rfl rfl (Nat.le_of_ble_eq_true rfl) d_D_apply_39 (fun H locs hP hD hS => ?_)
          have hP : va_P (dC, dI) mr_cl [((r 0), .inr (3, mf_D r 0 0 0 0 0))] H := hP
          have hD : va_D A [((r 0), .inr (3, mf_D r 0 0 0 0 0))] := hD
          have hBH := hB.at hS hA0
          refine lv_iconst (v := 1) hx hb d_D_apply_42 (by decide) ?_
          refine lv_istore (lv' := [(5, .int 1), (0, .ref (r 0)), (1, .int a0), (2, .int a1), (3, .int a2), (4, .int a3)]) hx hb d_D_apply_43 hl (by decide) rfl (fun ls hl => ?_)
          refine lv_iload hx hb d_D_apply_45 (lv_at hl 0 rfl) ?_
          refine lv_aload_n hx hb d_D_apply_47 rfl (lv_at hl 1 rfl) ?_
          refine va_get (D := (dC, dI)) (ci := 3) (v := .int 0) (C := R_D) (T := T_D) (N := 19) hx hb hts ti_D hown hK hP 0 rfl rfl 2 (by decide) (hts (Cond.fieldLink "MeasureRowsModel" 81 "MeasureRowsModel" "rows" "I") mw_163) (fun _ h9 => h9) rfl d_D_apply_48 ?_
          refine lv_icmp_gt (tgt := 111) hx hb d_D_apply_51 (by decide) (fun _ => ?_) (fun c_19 => absurd c_19 (by decide))
          refine lv_aload_n hx hb d_D_apply_111 rfl (lv_at hl 1 rfl) ?_
          refine lv_iconst (v := 0) hx hb d_D_apply_112 (by decide) ?_
          refine va_put (D := (dC, dI)) (ci := 3) (v := .int 0) (ty := .int) (C := R_D) (T := T_D) (N := 19) hx hb hts ti_D t_D to_D tn_D hown hK hP hD hS 0 rfl rfl 17 (by decide) (hts (Cond.fieldLink "MeasureRowsModel" 124 "MeasureRowsModel" "listed" "I") mw_198) (fun _ h9 => h9) rfl (by decide +kernel) rfl rfl (Nat.le_of_ble_eq_true rfl) d_D_apply_113 (fun H locs hP hD hS => ?_)
          have hP : va_P (dC, dI) mr_cl [((r 0), .inr (3, mf_D r 0 0 0 0 0))] H := hP
          have hD : va_D A [((r 0), .inr (3, mf_D r 0 0 0 0 0))] := hD
          have hBH := hB.at hS hA0
          refine lv_iconst (v := 0) hx hb d_D_apply_116 (by decide) ?_
          refine lv_istore (lv' := [(5, .int 0), (0, .ref (r 0)), (1, .int a0), (2, .int a1), (3, .int a2), (4, .int a3)]) hx hb d_D_apply_117 hl (by decide) rfl (fun ls hl => ?_)
          refine lv_iload hx hb d_D_apply_119 (lv_at hl 0 rfl) ?_
          refine lv_bipush (v := 8) hx hb d_D_apply_121 (by decide) ?_
          refine lv_icmp_ge (tgt := 262) hx hb d_D_apply_123 (by decide) (fun c_20 => absurd c_20 (by decide)) (fun _ => ?_)
          refine lv_iconst (v := 1) hx hb d_D_apply_126 (by decide) ?_
          refine lv_istore (lv' := [(6, .int 1), (5, .int 0), (0, .ref (r 0)), (1, .int a0), (2, .int a1), (3, .int a2), (4, .int a3)]) hx hb d_D_apply_127 hl (by decide) rfl (fun ls hl => ?_)
          refine lv_iload hx hb d_D_apply_129 (lv_at hl 0 rfl) ?_
          refine lv_aload_n hx hb d_D_apply_131 rfl (lv_at hl 2 rfl) ?_
          refine va_get (D := (dC, dI)) (ci := 3) (v := .int 0) (C := R_D) (T := T_D) (N := 19) hx hb hts ti_D hown hK hP 0 rfl rfl 2 (by decide) (hts (Cond.fieldLink "MeasureRowsModel" 81 "MeasureRowsModel" "rows" "I") mw_163) (fun _ h9 => h9) rfl d_D_apply_132 ?_
          refine lv_icmp_gt (tgt := 256) hx hb d_D_apply_135 (by decide) (fun _ => ?_) (fun c_21 => absurd c_21 (by decide))
          refine lv_iinc (v := 1) (lv' := [(5, .int 1), (6, .int 1), (0, .ref (r 0)), (1, .int a0), (2, .int a1), (3, .int a2), (4, .int a3)]) hx hb d_D_apply_256 hl (k := 1) rfl (by decide) (by decide) rfl (fun ls hl => ?_)
          refine lv_goto (tgt := 119) hx hb d_D_apply_259 (by decide) ?_
          refine lv_iload hx hb d_D_apply_119 (lv_at hl 0 rfl) ?_
          refine lv_bipush (v := 8) hx hb d_D_apply_121 (by decide) ?_
          refine lv_icmp_ge (tgt := 262) hx hb d_D_apply_123 (by decide) (fun c_22 => absurd c_22 (by decide)) (fun _ => ?_)
          refine lv_iconst (v := 1) hx hb d_D_apply_126 (by decide) ?_
          refine lv_istore (lv' := [(6, .int 1), (5, .int 1), (0, .ref (r 0)), (1, .int a0), (2, .int a1), (3, .int a2), (4, .int a3)]) hx hb d_D_apply_127 hl (by decide) rfl (fun ls hl => ?_)
          refine lv_iload hx hb d_D_apply_129 (lv_at hl 0 rfl) ?_
          refine lv_aload_n hx hb d_D_apply_131 rfl (lv_at hl 2 rfl) ?_
          refine va_get (D := (dC, dI)) (ci := 3) (v := .int 0) (C := R_D) (T := T_D) (N := 19) hx hb hts ti_D hown hK hP 0 rfl rfl 2 (by decide) (hts (Cond.fieldLink "MeasureRowsModel" 81 "MeasureRowsModel" "rows" "I") mw_163) (fun _ h9 => h9) rfl d_D_apply_132 ?_
          refine lv_icmp_gt (tgt := 256) hx hb d_D_apply_135 (by decide) (fun _ => ?_) (fun c_23 => absurd c_23 (by decide))
          refine lv_iinc (v := 2) (lv' := [(5, .int 2), (6, .int 1), (0, .ref (r 0)), (1, .int a0), (2, .int a1), (3, .int a2), (4, .int a3)]) hx hb d_D_apply_256 hl (k := 1) rfl (by decide) (by decide) rfl (fun ls hl => ?_)
          refine lv_goto (tgt := 119) hx hb d_D_apply_259 (by decide) ?_
          refine lv_iload hx hb d_D_apply_119 (lv_at hl 0 rfl) ?_
          refine lv_bipush (v := 8) hx hb d_D_apply_121 (by decide) ?_
          refine lv_icmp_ge (tgt := 262) hx hb d_D_apply_123 (by decide) (fun c_24 => absurd c_24 (by decide)) (fun _ => ?_)
          refine lv_iconst (v := 1) hx hb d_D_apply_126 (by decide) ?_
          refine lv_istore (lv' := [(6, .int 1), (5, .int 2), (0, .ref (r 0)), (1, .int a0), (2, .int a1), (3, .int a2), (4, .int a3)]) hx hb d_D_apply_127 hl (by decide) rfl (fun ls hl => ?_)
          refine lv_iload hx hb d_D_apply_129 (lv_at hl 0 rfl) ?_
          refine lv_aload_n hx hb d_D_apply_131 rfl (lv_at hl 2 rfl) ?_
          refine va_get (D := (dC, dI)) (ci := 3) (v := .int 0) (C := R_D) (T := T_D) (N := 19) hx hb hts ti_D hown hK hP 0 rfl rfl 2 (by decide) (hts (Cond.fieldLink "MeasureRowsModel" 81 "MeasureRowsModel" "rows" "I") mw_163) (fun _ h9 => h9) rfl d_D_apply_132 ?_
          refine lv_icmp_gt (tgt := 256) hx hb d_D_apply_135 (by decide) (fun _ => ?_) (fun c_25 => absurd c_25 (by decide))
          refine lv_iinc (v := 3) (lv' := [(5, .int 3), (6, .int 1), (0, .ref (r 0)), (1, .int a0), (2, .int a1), (3, .int a2), (4, .int a3)]) hx hb d_D_apply_256 hl (k := 1) rfl (by decide) (by decide) rfl (fun ls hl => ?_)
          refine lv_goto (tgt := 119) hx hb d_D_apply_259 (by decide) ?_
          refine lv_iload hx hb d_D_apply_119 (lv_at hl 0 rfl) ?_
          refine lv_bipush (v := 8) hx hb d_D_apply_121 (by decide) ?_
          refine lv_icmp_ge (tgt := 262) hx hb d_D_apply_123 (by decide) (fun c_26 => absurd c_26 (by decide)) (fun _ => ?_)
          refine lv_iconst (v := 1) hx hb d_D_apply_126 (by decide) ?_
          refine lv_istore (lv' := [(6, .int 1), (5, .int 3), (0, .ref (r 0)), (1, .int a0), (2, .int a1), (3, .int a2), (4, .int a3)]) hx hb d_D_apply_127 hl (by decide) rfl (fun ls hl => ?_)
          refine lv_iload hx hb d_D_apply_129 (lv_at hl 0 rfl) ?_
          refine lv_aload_n hx hb d_D_apply_131 rfl (lv_at hl 2 rfl) ?_
          refine va_get (D := (dC, dI)) (ci := 3) (v := .int 0) (C := R_D) (T := T_D) (N := 19) hx hb hts ti_D hown hK hP 0 rfl rfl 2 (by decide) (hts (Cond.fieldLink "MeasureRowsModel" 81 "MeasureRowsModel" "rows" "I") mw_163) (fun _ h9 => h9) rfl d_D_apply_132 ?_
          refine lv_icmp_gt (tgt := 256) hx hb d_D_apply_135 (by decide) (fun _ => ?_) (fun c_27 => absurd c_27 (by decide))
          refine lv_iinc (v := 4) (lv' := [(5, .int 4), (6, .int 1), (0, .ref (r 0)), (1, .int a0), (2, .int a1), (3, .int a2), (4, .int a3)]) hx hb d_D_apply_256 hl (k := 1) rfl (by decide) (by decide) rfl (fun ls hl => ?_)
          refine lv_goto (tgt := 119) hx hb d_D_apply_259 (by decide) ?_
          refine lv_iload hx hb d_D_apply_119 (lv_at hl 0 rfl) ?_
          refine lv_bipush (v := 8) hx hb d_D_apply_121 (by decide) ?_
          refine lv_icmp_ge (tgt := 262) hx hb d_D_apply_123 (by decide) (fun c_28 => absurd c_28 (by decide)) (fun _ => ?_)
          refine lv_iconst (v := 1) hx hb d_D_apply_126 (by decide) ?_
          refine lv_istore (lv' := [(6, .int 1), (5, .int 4), (0, .ref (r 0)), (1, .int a0), (2, .int a1), (3, .int a2), (4, .int a3)]) hx hb d_D_apply_127 hl (by decide) rfl (fun ls hl => ?_)
          refine lv_iload hx hb d_D_apply_129 (lv_at hl 0 rfl) ?_
          refine lv_aload_n hx hb d_D_apply_131 rfl (lv_at hl 2 rfl) ?_
          refine va_get (D := (dC, dI)) (ci := 3) (v := .int 0) (C := R_D) (T := T_D) (N := 19) hx hb hts ti_D hown hK hP 0 rfl rfl 2 (by decide) (hts (Cond.fieldLink "MeasureRowsModel" 81 "MeasureRowsModel" "rows" "I") mw_163) (fun _ h9 => h9) rfl d_D_apply_132 ?_
          refine lv_icmp_gt (tgt := 256) hx hb d_D_apply_135 (by decide) (fun _ => ?_) (fun c_29 => absurd c_29 (by decide))
          refine lv_iinc (v := 5) (lv' := [(5, .int 5), (6, .int 1), (0, .ref (r 0)), (1, .int a0), (2, .int a1), (3, .int a2), (4, .int a3)]) hx hb d_D_apply_256 hl (k := 1) rfl (by decide) (by decide) rfl (fun ls hl => ?_)
          refine lv_goto (tgt := 119) hx hb d_D_apply_259 (by decide) ?_
          refine lv_iload hx hb d_D_apply_119 (lv_at hl 0 rfl) ?_
          refine lv_bipush (v := 8) hx hb d_D_apply_121 (by decide) ?_
          refine lv_icmp_ge (tgt := 262) hx hb d_D_apply_123 (by decide) (fun c_30 => absurd c_30 (by decide)) (fun _ => ?_)
          refine lv_iconst (v := 1) hx hb d_D_apply_126 (by decide) ?_
          refine lv_istore (lv' := [(6, .int 1), (5, .int 5), (0, .ref (r 0)), (1, .int a0), (2, .int a1), (3, .int a2), (4, .int a3)]) hx hb d_D_apply_127 hl (by decide) rfl (fun ls hl => ?_)
          refine lv_iload hx hb d_D_apply_129 (lv_at hl 0 rfl) ?_
          refine lv_aload_n hx hb d_D_apply_131 rfl (lv_at hl 2 rfl) ?_
          refine va_get (D := (dC, dI)) (ci := 3) (v := .int 0) (C := R_D) (T := T_D) (N := 19) hx hb hts ti_D hown hK hP 0 rfl rfl 2 (by decide) (hts (Cond.fieldLink "MeasureRowsModel" 81 "MeasureRowsModel" "rows" "I") mw_163) (fun _ h9 => h9) rfl d_D_apply_132 ?_
          refine lv_icmp_gt (tgt := 256) hx hb d_D_apply_135 (by decide) (fun _ => ?_) (fun c_31 => absurd c_31 (by decide))
          refine lv_iinc (v := 6) (lv' := [(5, .int 6), (6, .int 1), (0, .ref (r 0)), (1, .int a0), (2, .int a1), (3, .int a2), (4, .int a3)]) hx hb d_D_apply_256 hl (k := 1) rfl (by decide) (by decide) rfl (fun ls hl => ?_)
          refine lv_goto (tgt := 119) hx hb d_D_apply_259 (by decide) ?_
          refine lv_iload hx hb d_D_apply_119 (lv_at hl 0 rfl) ?_
          refine lv_bipush (v := 8) hx hb d_D_apply_121 (by decide) ?_
          refine lv_icmp_ge (tgt := 262) hx hb d_D_apply_123 (by decide) (fun c_32 => absurd c_32 (by decide)) (fun _ => ?_)
          refine lv_iconst (v := 1) hx hb d_D_apply_126 (by decide) ?_
          refine lv_istore (lv' := [(6, .int 1), (5, .int 6), (0, .ref (r 0)), (1, .int a0), (2, .int a1), (3, .int a2), (4, .int a3)]) hx hb d_D_apply_127 hl (by decide) rfl (fun ls hl => ?_)
          refine lv_iload hx hb d_D_apply_129 (lv_at hl 0 rfl) ?_
          refine lv_aload_n hx hb d_D_apply_131 rfl (lv_at hl 2 rfl) ?_
          refine va_get (D := (dC, dI)) (ci := 3) (v := .int 0) (C := R_D) (T := T_D) (N := 19) hx hb hts ti_D hown hK hP 0 rfl rfl 2 (by decide) (hts (Cond.fieldLink "MeasureRowsModel" 81 "MeasureRowsModel" "rows" "I") mw_163) (fun _ h9 => h9) rfl d_D_apply_132 ?_
          refine lv_icmp_gt (tgt := 256) hx hb d_D_apply_135 (by decide) (fun _ => ?_) (fun c_33 => absurd c_33 (by decide))
          refine lv_iinc (v := 7) (lv' := [(5, .int 7), (6, .int 1), (0, .ref (r 0)), (1, .int a0), (2, .int a1), (3, .int a2), (4, .int a3)]) hx hb d_D_apply_256 hl (k := 1) rfl (by decide) (by decide) rfl (fun ls hl => ?_)
          refine lv_goto (tgt := 119) hx hb d_D_apply_259 (by decide) ?_
          refine lv_iload hx hb d_D_apply_119 (lv_at hl 0 rfl) ?_
          refine lv_bipush (v := 8) hx hb d_D_apply_121 (by decide) ?_
          refine lv_icmp_ge (tgt := 262) hx hb d_D_apply_123 (by decide) (fun c_34 => absurd c_34 (by decide)) (fun _ => ?_)
          refine lv_iconst (v := 1) hx hb d_D_apply_126 (by decide) ?_
          refine lv_istore (lv' := [(6, .int 1), (5, .int 7), (0, .ref (r 0)), (1, .int a0), (2, .int a1), (3, .int a2), (4, .int a3)]) hx hb d_D_apply_127 hl (by decide) rfl (fun ls hl => ?_)
          refine lv_iload hx hb d_D_apply_129 (lv_at hl 0 rfl) ?_
          refine lv_aload_n hx hb d_D_apply_131 rfl (lv_at hl 2 rfl) ?_
          refine va_get (D := (dC, dI)) (ci := 3) (v := .int 0) (C := R_D) (T := T_D) (N := 19) hx hb hts ti_D hown hK hP 0 rfl rfl 2 (by decide) (hts (Cond.fieldLink "MeasureRowsModel" 81 "MeasureRowsModel" "rows" "I") mw_163) (fun _ h9 => h9) rfl d_D_apply_132 ?_
          refine lv_icmp_gt (tgt := 256) hx hb d_D_apply_135 (by decide) (fun _ => ?_) (fun c_35 => absurd c_35 (by decide))
          refine lv_iinc (v := 8) (lv' := [(5, .int 8), (6, .int 1), (0, .ref (r 0)), (1, .int a0), (2, .int a1), (3, .int a2), (4, .int a3)]) hx hb d_D_apply_256 hl (k := 1) rfl (by decide) (by decide) rfl (fun ls hl => ?_)
          refine lv_goto (tgt := 119) hx hb d_D_apply_259 (by decide) ?_
          refine lv_iload hx hb d_D_apply_119 (lv_at hl 0 rfl) ?_
          refine lv_bipush (v := 8) hx hb d_D_apply_121 (by decide) ?_
          refine lv_icmp_ge (tgt := 262) hx hb d_D_apply_123 (by decide) (fun _ => ?_) (fun c_36 => absurd c_36 (by decide))
          refine lv_aload_n hx hb d_D_apply_262 rfl (lv_at hl 2 rfl) ?_
          refine va_get (D := (dC, dI)) (ci := 3) (v := .int 0) (C := R_D) (T := T_D) (N := 19) hx hb hts ti_D hown hK hP 0 rfl rfl 17 (by decide) (hts (Cond.fieldLink "MeasureRowsModel" 124 "MeasureRowsModel" "listed" "I") mw_198) (fun _ h9 => h9) rfl d_D_apply_263 ?_
          have hP9 := hP.sub (ws' := [((r 0), .inr (3, mf_D r 0 0 0 0 0))]) [0] rfl
          have hD9 := hD.sub (ws' := [((r 0), .inr (3, mf_D r 0 0 0 0 0))]) [0] (by decide) rfl
          exact W.iret (v := 0) hx hb hr (fun t ht hW => ⟨⟨_, 0, rfl, ⟨by unfold mv_D_apply0; rw [if_pos c_3, if_neg c_8, if_neg c_13, if_neg c_18], by unfold mt_D_apply0; rw [if_pos c_3, if_neg c_8, if_neg c_13, if_neg c_18]⟩, 0, 0, 0, 0, by rw [ht]; exact hP9, va_K.moved hW.alike hK, hD9⟩, hS.F ht⟩) hS.2.2 d_D_apply_266
        · refine lv_aload_n hx hb d_D_apply_31 rfl (lv_at hl 0 rfl) ?_
          refine lv_iconst (v := 1) hx hb d_D_apply_32 (by decide) ?_
          have hPc := hP.sub (ws' := [((r 0), .inr (3, mf_D r th 0 0 0 0))]) [0] rfl
          have hDc := hD.sub (ws' := [((r 0), .inr (3, mf_D r th 0 0 0 0))]) [0] (by decide) rfl
          have hFc := va_free (wc := [((r 0), .inr (3, mf_D r th 0 0 0 0))]) hD hS hA [0] rfl
          refine va_calli (va_runV (As := [.int 1]) (rest := []) (C := R_D) ⟨hx, hb, hml, hown, hts⟩ (mc_D_fails l s0 dC dI cI cR cL cZ r th 0 0 0 0 _ 1) ⟨(mr_cB 1 (hts (Cond.code y_D_fails b_D_fails 2 (some .int)) mw_183) (hts (Cond.initialized y_D_fails.cls) mw_184) (hts (Cond.methodLink "MeasureRowsModel" 97 y_D_fails) mw_185) rfl rfl (by decide +kernel) ⟨Nat.le_of_ble_eq_true rfl, Nat.le_of_ble_eq_true rfl⟩), (hts (Cond.instanceMethod y_D_fails) mw_186), (hts (Cond.selects "MeasureRowsModel" y_D_fails y_D_fails) mw_187)⟩ (mr_preCV hBH hK hPc (hDc.weaken (fun _ _ _ h => hA0 _ h)) (ci := 3) (q0 := 0) rfl rfl) rfl rfl hl.1 rfl (lv_room (Nat.le_of_ble_eq_true rfl)) d_D_apply_33 ⟨Nat.le_of_ble_eq_true rfl, Nat.le_of_ble_eq_true rfl⟩) hS (fun q _ h => hFc q h) hFc (fun r_37 u_38 t H1 locs ht hvm hw hB1 hz1 hk1 hS => ?_)
          obtain ⟨hP1, hK1, hD1⟩ := hB1
          rw [ht] at hP1
          obtain ⟨hP, hD⟩ := va_join (wr := []) (w1 := [((r 0), .inr (3, mf_D r 1 0 0 0 0))]) hP hD [0] [] rfl rfl (by decide) (by decide) hk1 hFc hP1 hD1
          clear hK1 hk1 hPc hDc hFc
          generalize H1 = H at hP hS ht ⊢
          have hP : va_P (dC, dI) mr_cl [((r 0), .inr (3, mf_D r 1 0 0 0 0))] H := hP
          have hD : va_D A [((r 0), .inr (3, mf_D r 1 0 0 0 0))] := hD
          have hBH := hB.at hS hA0
          obtain rfl : r_37 = 0 := hw
          have hP9 := hP.sub (ws' := [((r 0), .inr (3, mf_D r 1 0 0 0 0))]) [0] rfl
          have hD9 := hD.sub (ws' := [((r 0), .inr (3, mf_D r 1 0 0 0 0))]) [0] (by decide) rfl
          exact W.iret (v := 0) hx hb hr (fun t ht hW => ⟨⟨_, 1, rfl, ⟨by unfold mv_D_apply0; rw [if_pos c_3, if_neg c_8, if_neg c_13, if_pos c_18], by unfold mt_D_apply0; rw [if_pos c_3, if_neg c_8, if_neg c_13, if_pos c_18]⟩, 0, 0, 0, 0, by rw [ht]; exact hP9, va_K.moved hW.alike hK, hD9⟩, hS.F ht⟩) hS.2.2 d_D_apply_36
def mv_D_at0 (a0 : Int32) : Int32 := if a0 < 0 then (-1) else if 0 ≤ a0 then (-1) else ((fun _ => 0) a0.toNatClampNeg)
def mt_D_at0 (a0 : Int32) : Int32 := if a0 < 0 then 0 else if 0 ≤ a0 then 0 else 0
set_option maxHeartbeats 4000000 in
set_option maxRecDepth 100000 in
theorem mc_D_at (l : Launch) (s0 : State) (dC : Nat → ClassId) (dI : Nat → Nat → Nat) (cI cR cL cZ : ClassId) (r : Nat → Nat) (th : Int32) (sz : Nat) (a0 : Int32) : Met l y_D_at [Cond.code y_D_at b_D_at 2 (some .int)] ({ frames := 0, cells := 0, slots := 0, locals := 0 }) (mr_PC s0 (dC, dI) [(cI, .int), (cR, .object "MeasureRows$Row"), (cL, .long), (cZ, .boolean)] [.ref (r 0), .int a0] [((r 0), .inr (3, mf_D r th 0 0 0 0)), ((r 16), .inl (cI, 80, .inl (fun _ => 0)))] sz) (va_Qi (fun rr u => rr = mv_D_at0  a0 ∧ u = mt_D_at0  a0) (fun (u : Int32) t => ∃ rw nw pb lc : Int32, mr_W (dC, dI) [(cI, .int), (cR, .object "MeasureRows$Row"), (cL, .long), (cZ, .boolean)] (va_A [((r 0), .inr (3, mf_D r th 0 0 0 0)), ((r 16), .inl (cI, 80, .inl (fun _ => 0)))] sz) [((r 0), .inr (3, mf_D r u rw nw pb lc))] t) (va_A [((r 0), .inr (3, mf_D r th 0 0 0 0)), ((r 16), .inl (cI, 80, .inl (fun _ => 0)))] sz)) 0 0 (va_A [((r 0), .inr (3, mf_D r th 0 0 0 0)), ((r 16), .inl (cI, 80, .inl (fun _ => 0)))] sz) := by
  refine Met.ofW (cc := b_D_at) (maxL := 2) (ret := (some .int)) (by decide) rfl ?_
  intro p e s m args below meth c s₁ B hml hv
  obtain ⟨rfl, hsz, hB, hK, hP, hD0⟩ := hv
  subst hsz
  have hA0 := mr_A hB hD0
  have hD := hD0.self (sz := s.heap.size)
  generalize hAe : va_A [((r 0), .inr (3, mf_D r th 0 0 0 0)), ((r 16), .inl (cI, 80, .inl (fun _ => 0)))] s.heap.size = A at hD hA0 ⊢
  have hA : ∀ q : Nat, s.heap.size ≤ q → A q := fun q h => by rw [← hAe]; exact Or.inr h
  have hS : va_S A s.heap s.heap [] := va_S.rf
  have hP : va_P (dC, dI) mr_cl [((r 0), .inr (3, mf_D r th 0 0 0 0)), ((r 16), .inl (cI, 80, .inl (fun _ => 0)))] s.heap := hP
  have hBH := hB.at hS hA0
  have hx := B.exec
  have hb := B.bytes
  have hr := B.returns
  have hlocks := B.notSynchronized
  have hts : ∀ w ∈ lw_tbl, w.before [.ref (r 0), .int a0].toArray s = true := hB.hts _
  have hown : s.vm.findClass "MeasureRowsModel" = some m.cls := findClass_of_methodNamed B.named
  have hl := lv_entry ([.ref (r 0), .int a0]) (n := 2) (Nat.le_of_ble_eq_true rfl)
  rw [lg_entry_eq]
  generalize (lg_sl ([.ref (r 0), .int a0]) ++ List.replicate (2 - (lg_sl ([.ref (r 0), .int a0])).length) Slot.unset).toArray = ls at hl ⊢
  have hl : lv_has ls 2 [(0, .ref (r 0)), (1, .int a0)] := hl
  refine lv_aload_n hx hb d_D_at_0 rfl (lv_at hl 0 rfl) ?_
  refine lv_iconst (v := 0) hx hb d_D_at_1 (by decide) ?_
  refine va_put (D := (dC, dI)) (ci := 3) (v := .int 0) (ty := .int) (C := R_D) (T := T_D) (N := 19) hx hb hts ti_D t_D to_D tn_D hown hK hP hD hS 0 rfl rfl 0 (by decide) (hts (Cond.fieldLink "MeasureRowsModel" 53 "MeasureRowsModel" "thrown" "I") mw_162) (fun _ h9 => h9) rfl (by decide +kernel) rfl rfl (Nat.le_of_ble_eq_true rfl) d_D_at_2 (fun H locs hP hD hS => ?_)
  have hP : va_P (dC, dI) mr_cl [((r 0), .inr (3, mf_D r 0 0 0 0 0)), ((r 16), .inl (cI, 80, .inl (fun _ => 0)))] H := hP
  have hD : va_D A [((r 0), .inr (3, mf_D r 0 0 0 0 0)), ((r 16), .inl (cI, 80, .inl (fun _ => 0)))] := hD
  have hBH := hB.at hS hA0
  refine lv_iload_n hx hb d_D_at_5 rfl (lv_at hl 1 rfl) ?_
  refine lv_if_lt (tgt := 26) hx hb d_D_at_6 (by decide) (fun c_1 => ?_) (fun c_1 => ?_)
  · refine lv_iconst (v := (-1)) hx hb d_D_at_26 (by decide) ?_
    have hP9 := hP.sub (ws' := [((r 0), .inr (3, mf_D r 0 0 0 0 0))]) [0] rfl
    have hD9 := hD.sub (ws' := [((r 0), .inr (3, mf_D r 0 0 0 0 0))]) [0] (by decide) rfl
    exact W.iret (v := (-1)) hx hb hr (fun t ht hW => ⟨⟨_, 0, rfl, ⟨by unfold mv_D_at0; rw [if_pos c_1], by unfold mt_D_at0; rw [if_pos c_1]⟩, 0, 0, 0, 0, by rw [ht]; exact hP9, va_K.moved hW.alike hK, hD9⟩, hS.F ht⟩) hS.2.2 d_D_at_27
  · refine lv_iload_n hx hb d_D_at_9 rfl (lv_at hl 1 rfl) ?_
    refine lv_aload_n hx hb d_D_at_10 rfl (lv_at hl 0 rfl) ?_
    refine va_get (D := (dC, dI)) (ci := 3) (v := .int 0) (C := R_D) (T := T_D) (N := 19) hx hb hts ti_D hown hK hP 0 rfl rfl 17 (by decide) (hts (Cond.fieldLink "MeasureRowsModel" 124 "MeasureRowsModel" "listed" "I") mw_198) (fun _ h9 => h9) rfl d_D_at_11 ?_
    refine lv_icmp_ge (tgt := 26) hx hb d_D_at_14 (by decide) (fun c_2 => ?_) (fun c_2 => ?_)
    · refine lv_iconst (v := (-1)) hx hb d_D_at_26 (by decide) ?_
      have hP9 := hP.sub (ws' := [((r 0), .inr (3, mf_D r 0 0 0 0 0))]) [0] rfl
      have hD9 := hD.sub (ws' := [((r 0), .inr (3, mf_D r 0 0 0 0 0))]) [0] (by decide) rfl
      exact W.iret (v := (-1)) hx hb hr (fun t ht hW => ⟨⟨_, 0, rfl, ⟨by unfold mv_D_at0; rw [if_neg c_1, if_pos c_2], by unfold mt_D_at0; rw [if_neg c_1, if_pos c_2]⟩, 0, 0, 0, 0, by rw [ht]; exact hP9, va_K.moved hW.alike hK, hD9⟩, hS.F ht⟩) hS.2.2 d_D_at_27
    · refine lv_aload_n hx hb d_D_at_17 rfl (lv_at hl 0 rfl) ?_
      refine va_get (D := (dC, dI)) (ci := 3) (v := .ref (r 16)) (C := R_D) (T := T_D) (N := 19) hx hb hts ti_D hown hK hP 0 rfl rfl 16 (by decide) (hts (Cond.fieldLink "MeasureRowsModel" 46 "MeasureRowsModel" "list" "[I") mw_199) (fun _ h9 => h9) rfl d_D_at_18 ?_
      refine lv_iload_n hx hb d_D_at_21 rfl (lv_at hl 1 rfl) ?_
      refine va_iald (D := (dC, dI)) hx hb hK hP 1 0 rfl rfl (i := a0) (mr_no0 c_1 c_2) d_D_at_22 ?_
      refine lv_goto (tgt := 27) hx hb d_D_at_23 (by decide) ?_
      have hP9 := hP.sub (ws' := [((r 0), .inr (3, mf_D r 0 0 0 0 0))]) [0] rfl
      have hD9 := hD.sub (ws' := [((r 0), .inr (3, mf_D r 0 0 0 0 0))]) [0] (by decide) rfl
      exact W.iret (v := (fun _ => 0) a0.toNatClampNeg) hx hb hr (fun t ht hW => ⟨⟨_, 0, rfl, ⟨by unfold mv_D_at0; rw [if_neg c_1, if_neg c_2], by unfold mt_D_at0; rw [if_neg c_1, if_neg c_2]⟩, 0, 0, 0, 0, by rw [ht]; exact hP9, va_K.moved hW.alike hK, hD9⟩, hS.F ht⟩) hS.2.2 d_D_at_27
def mv_D_scan0 (a0 : Int32) (a1 : Int32) (a2 : Int32) : Int32 := if (mv_D_digits a0) = 0 then 0 else if (mv_D_isLand a1) = 0 then 0 else if (mv_D_isDay a2) = 0 then 0 else 0
def mt_D_scan0 (a0 : Int32) (a1 : Int32) (a2 : Int32) : Int32 := if (mv_D_digits a0) = 0 then 1 else if (mv_D_isLand a1) = 0 then 1 else if (mv_D_isDay a2) = 0 then 1 else 0
set_option maxHeartbeats 4000000 in
set_option maxRecDepth 100000 in
theorem mc_D_scan (l : Launch) (s0 : State) (dC : Nat → ClassId) (dI : Nat → Nat → Nat) (cI cR cL cZ : ClassId) (r : Nat → Nat) (th : Int32) (sz : Nat) (a0 : Int32) (a1 : Int32) (a2 : Int32) : Met l y_D_scan [Cond.code y_D_scan b_D_scan 5 (some .int)] ({ frames := 2, cells := 0, slots := 0, locals := 42 }) (mr_PC s0 (dC, dI) [(cI, .int), (cR, .object "MeasureRows$Row"), (cL, .long), (cZ, .boolean)] [.ref (r 0), .int a0, .int a1, .int a2] [((r 0), .inr (3, mf_D r th 0 0 0 0))] sz) (va_Qi (fun rr u => rr = mv_D_scan0  a0 a1 a2 ∧ u = mt_D_scan0  a0 a1 a2) (fun (u : Int32) t => ∃ rw nw pb lc : Int32, mr_W (dC, dI) [(cI, .int), (cR, .object "MeasureRows$Row"), (cL, .long), (cZ, .boolean)] (va_A [((r 0), .inr (3, mf_D r th 0 0 0 0))] sz) [((r 0), .inr (3, mf_D r u rw nw pb lc))] t) (va_A [((r 0), .inr (3, mf_D r th 0 0 0 0))] sz)) 0 0 (va_A [((r 0), .inr (3, mf_D r th 0 0 0 0))] sz) := by
  refine Met.ofW (cc := b_D_scan) (maxL := 5) (ret := (some .int)) (by decide) rfl ?_
  intro p e s m args below meth c s₁ B hml hv
  obtain ⟨rfl, hsz, hB, hK, hP, hD0⟩ := hv
  subst hsz
  have hA0 := mr_A hB hD0
  have hD := hD0.self (sz := s.heap.size)
  generalize hAe : va_A [((r 0), .inr (3, mf_D r th 0 0 0 0))] s.heap.size = A at hD hA0 ⊢
  have hA : ∀ q : Nat, s.heap.size ≤ q → A q := fun q h => by rw [← hAe]; exact Or.inr h
  have hS : va_S A s.heap s.heap [] := va_S.rf
  have hP : va_P (dC, dI) mr_cl [((r 0), .inr (3, mf_D r th 0 0 0 0))] s.heap := hP
  have hBH := hB.at hS hA0
  have hx := B.exec
  have hb := B.bytes
  have hr := B.returns
  have hlocks := B.notSynchronized
  have hts : ∀ w ∈ lw_tbl, w.before [.ref (r 0), .int a0, .int a1, .int a2].toArray s = true := hB.hts _
  have hown : s.vm.findClass "MeasureRowsModel" = some m.cls := findClass_of_methodNamed B.named
  have hl := lv_entry ([.ref (r 0), .int a0, .int a1, .int a2]) (n := 5) (Nat.le_of_ble_eq_true rfl)
  rw [lg_entry_eq]
  generalize (lg_sl ([.ref (r 0), .int a0, .int a1, .int a2]) ++ List.replicate (5 - (lg_sl ([.ref (r 0), .int a0, .int a1, .int a2])).length) Slot.unset).toArray = ls at hl ⊢
  have hl : lv_has ls 5 [(0, .ref (r 0)), (1, .int a0), (2, .int a1), (3, .int a2)] := hl
  refine lv_iload_n hx hb d_D_scan_0 rfl (lv_at hl 1 rfl) ?_
  refine vp_callSi (va_Run.run (va_runS (As := [.int a0]) (rest := []) ⟨hx, hb, hml, hown, hts⟩ (mc_D_digits l s0 a0) ⟨(mr_cB 1 (hts (Cond.code y_D_digits b_D_digits 1 (some .int)) mw_190) (hts (Cond.initialized y_D_digits.cls) mw_191) (hts (Cond.methodLink "MeasureRowsModel" 91 y_D_digits) mw_192) rfl rfl (by decide +kernel) ⟨Nat.le_of_ble_eq_true rfl, Nat.le_of_ble_eq_true rfl⟩), (hts (Cond.static y_D_digits) mw_193)⟩ (mr_pre0 hBH) rfl rfl hl.1 rfl (lv_room (Nat.le_of_ble_eq_true rfl)) d_D_scan_1 ⟨Nat.le_of_ble_eq_true rfl, Nat.le_of_ble_eq_true rfl⟩)) (fun r_1 h_2 => ?_)
  subst h_2
  refine lv_if_eq (tgt := 21) hx hb d_D_scan_4 (by decide) (fun c_3 => ?_) (fun c_3 => ?_)
  · refine lv_aload_n hx hb d_D_scan_21 rfl (lv_at hl 0 rfl) ?_
    refine lv_iconst (v := 1) hx hb d_D_scan_22 (by decide) ?_
    have hPc := hP.sub (ws' := [((r 0), .inr (3, mf_D r th 0 0 0 0))]) [0] rfl
    have hDc := hD.sub (ws' := [((r 0), .inr (3, mf_D r th 0 0 0 0))]) [0] (by decide) rfl
    have hFc := va_free (wc := [((r 0), .inr (3, mf_D r th 0 0 0 0))]) hD hS hA [0] rfl
    refine va_calli (va_runV (As := [.int 1]) (rest := []) (C := R_D) ⟨hx, hb, hml, hown, hts⟩ (mc_D_fails l s0 dC dI cI cR cL cZ r th 0 0 0 0 _ 1) ⟨(mr_cB 1 (hts (Cond.code y_D_fails b_D_fails 2 (some .int)) mw_183) (hts (Cond.initialized y_D_fails.cls) mw_184) (hts (Cond.methodLink "MeasureRowsModel" 97 y_D_fails) mw_185) rfl rfl (by decide +kernel) ⟨Nat.le_of_ble_eq_true rfl, Nat.le_of_ble_eq_true rfl⟩), (hts (Cond.instanceMethod y_D_fails) mw_186), (hts (Cond.selects "MeasureRowsModel" y_D_fails y_D_fails) mw_187)⟩ (mr_preCV hBH hK hPc (hDc.weaken (fun _ _ _ h => hA0 _ h)) (ci := 3) (q0 := 0) rfl rfl) rfl rfl hl.1 rfl (lv_room (Nat.le_of_ble_eq_true rfl)) d_D_scan_23 ⟨Nat.le_of_ble_eq_true rfl, Nat.le_of_ble_eq_true rfl⟩) hS (fun q _ h => hFc q h) hFc (fun r_4 u_5 t H1 locs ht hvm hw hB1 hz1 hk1 hS => ?_)
    obtain ⟨hP1, hK1, hD1⟩ := hB1
    rw [ht] at hP1
    obtain ⟨hP, hD⟩ := va_join (wr := []) (w1 := [((r 0), .inr (3, mf_D r 1 0 0 0 0))]) hP hD [0] [] rfl rfl (by decide) (by decide) hk1 hFc hP1 hD1
    clear hK1 hk1 hPc hDc hFc
    generalize H1 = H at hP hS ht ⊢
    have hP : va_P (dC, dI) mr_cl [((r 0), .inr (3, mf_D r 1 0 0 0 0))] H := hP
    have hD : va_D A [((r 0), .inr (3, mf_D r 1 0 0 0 0))] := hD
    have hBH := hB.at hS hA0
    obtain rfl : r_4 = 0 := hw
    have hP9 := hP.sub (ws' := [((r 0), .inr (3, mf_D r 1 0 0 0 0))]) [0] rfl
    have hD9 := hD.sub (ws' := [((r 0), .inr (3, mf_D r 1 0 0 0 0))]) [0] (by decide) rfl
    exact W.iret (v := 0) hx hb hr (fun t ht hW => ⟨⟨_, 1, rfl, ⟨by unfold mv_D_scan0; rw [if_pos c_3], by unfold mt_D_scan0; rw [if_pos c_3]⟩, 0, 0, 0, 0, by rw [ht]; exact hP9, va_K.moved hW.alike hK, hD9⟩, hS.F ht⟩) hS.2.2 d_D_scan_26
  · refine lv_iload_n hx hb d_D_scan_7 rfl (lv_at hl 2 rfl) ?_
    refine vp_callSi (va_Run.run (va_runS (As := [.int a1]) (rest := []) ⟨hx, hb, hml, hown, hts⟩ (mc_D_isLand l s0 a1) ⟨(mr_cB 1 (hts (Cond.code y_D_isLand b_D_isLand 1 (some .boolean)) mw_169) (hts (Cond.initialized y_D_isLand.cls) mw_170) (hts (Cond.methodLink "MeasureRowsModel" 71 y_D_isLand) mw_171) rfl rfl (by decide +kernel) ⟨Nat.le_of_ble_eq_true rfl, Nat.le_of_ble_eq_true rfl⟩), (hts (Cond.static y_D_isLand) mw_172)⟩ (mr_pre0 hBH) rfl rfl hl.1 rfl (lv_room (Nat.le_of_ble_eq_true rfl)) d_D_scan_8 ⟨Nat.le_of_ble_eq_true rfl, Nat.le_of_ble_eq_true rfl⟩)) (fun r_6 h_7 => ?_)
    subst h_7
    refine lv_if_eq (tgt := 21) hx hb d_D_scan_11 (by decide) (fun c_8 => ?_) (fun c_8 => ?_)
    · refine lv_aload_n hx hb d_D_scan_21 rfl (lv_at hl 0 rfl) ?_
      refine lv_iconst (v := 1) hx hb d_D_scan_22 (by decide) ?_
      have hPc := hP.sub (ws' := [((r 0), .inr (3, mf_D r th 0 0 0 0))]) [0] rfl
      have hDc := hD.sub (ws' := [((r 0), .inr (3, mf_D r th 0 0 0 0))]) [0] (by decide) rfl
      have hFc := va_free (wc := [((r 0), .inr (3, mf_D r th 0 0 0 0))]) hD hS hA [0] rfl
      refine va_calli (va_runV (As := [.int 1]) (rest := []) (C := R_D) ⟨hx, hb, hml, hown, hts⟩ (mc_D_fails l s0 dC dI cI cR cL cZ r th 0 0 0 0 _ 1) ⟨(mr_cB 1 (hts (Cond.code y_D_fails b_D_fails 2 (some .int)) mw_183) (hts (Cond.initialized y_D_fails.cls) mw_184) (hts (Cond.methodLink "MeasureRowsModel" 97 y_D_fails) mw_185) rfl rfl (by decide +kernel) ⟨Nat.le_of_ble_eq_true rfl, Nat.le_of_ble_eq_true rfl⟩), (hts (Cond.instanceMethod y_D_fails) mw_186), (hts (Cond.selects "MeasureRowsModel" y_D_fails y_D_fails) mw_187)⟩ (mr_preCV hBH hK hPc (hDc.weaken (fun _ _ _ h => hA0 _ h)) (ci := 3) (q0 := 0) rfl rfl) rfl rfl hl.1 rfl (lv_room (Nat.le_of_ble_eq_true rfl)) d_D_scan_23 ⟨Nat.le_of_ble_eq_true rfl, Nat.le_of_ble_eq_true rfl⟩) hS (fun q _ h => hFc q h) hFc (fun r_9 u_10 t H1 locs ht hvm hw hB1 hz1 hk1 hS => ?_)
      obtain ⟨hP1, hK1, hD1⟩ := hB1
      rw [ht] at hP1
      obtain ⟨hP, hD⟩ := va_join (wr := []) (w1 := [((r 0), .inr (3, mf_D r 1 0 0 0 0))]) hP hD [0] [] rfl rfl (by decide) (by decide) hk1 hFc hP1 hD1
      clear hK1 hk1 hPc hDc hFc
      generalize H1 = H at hP hS ht ⊢
      have hP : va_P (dC, dI) mr_cl [((r 0), .inr (3, mf_D r 1 0 0 0 0))] H := hP
      have hD : va_D A [((r 0), .inr (3, mf_D r 1 0 0 0 0))] := hD
      have hBH := hB.at hS hA0
      obtain rfl : r_9 = 0 := hw
      have hP9 := hP.sub (ws' := [((r 0), .inr (3, mf_D r 1 0 0 0 0))]) [0] rfl
      have hD9 := hD.sub (ws' := [((r 0), .inr (3, mf_D r 1 0 0 0 0))]) [0] (by decide) rfl
      exact W.iret (v := 0) hx hb hr (fun t ht hW => ⟨⟨_, 1, rfl, ⟨by unfold mv_D_scan0; rw [if_neg c_3, if_pos c_8], by unfold mt_D_scan0; rw [if_neg c_3, if_pos c_8]⟩, 0, 0, 0, 0, by rw [ht]; exact hP9, va_K.moved hW.alike hK, hD9⟩, hS.F ht⟩) hS.2.2 d_D_scan_26
    · refine lv_iload_n hx hb d_D_scan_14 rfl (lv_at hl 3 rfl) ?_
      refine vp_callSi (va_Run.run (va_runS (As := [.int a2]) (rest := []) ⟨hx, hb, hml, hown, hts⟩ (mc_D_isDay l s0 a2) ⟨(mr_cB 1 (hts (Cond.code y_D_isDay b_D_isDay 1 (some .boolean)) mw_194) (hts (Cond.initialized y_D_isDay.cls) mw_195) (hts (Cond.methodLink "MeasureRowsModel" 94 y_D_isDay) mw_196) rfl rfl (by decide +kernel) ⟨Nat.le_of_ble_eq_true rfl, Nat.le_of_ble_eq_true rfl⟩), (hts (Cond.static y_D_isDay) mw_197)⟩ (mr_pre0 hBH) rfl rfl hl.1 rfl (lv_room (Nat.le_of_ble_eq_true rfl)) d_D_scan_15 ⟨Nat.le_of_ble_eq_true rfl, Nat.le_of_ble_eq_true rfl⟩)) (fun r_11 h_12 => ?_)
      subst h_12
      refine lv_if_ne (tgt := 27) hx hb d_D_scan_18 (by decide) (fun c_13 => ?_) (fun c_13 => ?_)
      · refine lv_aload_n hx hb d_D_scan_27 rfl (lv_at hl 0 rfl) ?_
        refine lv_iconst (v := 0) hx hb d_D_scan_28 (by decide) ?_
        refine va_put (D := (dC, dI)) (ci := 3) (v := .int 0) (ty := .int) (C := R_D) (T := T_D) (N := 19) hx hb hts ti_D t_D to_D tn_D hown hK hP hD hS 0 rfl rfl 0 (by decide) (hts (Cond.fieldLink "MeasureRowsModel" 53 "MeasureRowsModel" "thrown" "I") mw_162) (fun _ h9 => h9) rfl (by decide +kernel) rfl rfl (Nat.le_of_ble_eq_true rfl) d_D_scan_29 (fun H locs hP hD hS => ?_)
        have hP : va_P (dC, dI) mr_cl [((r 0), .inr (3, mf_D r 0 0 0 0 0))] H := hP
        have hD : va_D A [((r 0), .inr (3, mf_D r 0 0 0 0 0))] := hD
        have hBH := hB.at hS hA0
        refine lv_aload_n hx hb d_D_scan_32 rfl (lv_at hl 0 rfl) ?_
        refine lv_iconst (v := 0) hx hb d_D_scan_33 (by decide) ?_
        refine va_put (D := (dC, dI)) (ci := 3) (v := .int 0) (ty := .int) (C := R_D) (T := T_D) (N := 19) hx hb hts ti_D t_D to_D tn_D hown hK hP hD hS 0 rfl rfl 17 (by decide) (hts (Cond.fieldLink "MeasureRowsModel" 124 "MeasureRowsModel" "listed" "I") mw_198) (fun _ h9 => h9) rfl (by decide +kernel) rfl rfl (Nat.le_of_ble_eq_true rfl) d_D_scan_34 (fun H locs hP hD hS => ?_)
        have hP : va_P (dC, dI) mr_cl [((r 0), .inr (3, mf_D r 0 0 0 0 0))] H := hP
        have hD : va_D A [((r 0), .inr (3, mf_D r 0 0 0 0 0))] := hD
        have hBH := hB.at hS hA0
        refine lv_iconst (v := 1) hx hb d_D_scan_37 (by decide) ?_
        refine lv_istore (lv' := [(4, .int 1), (0, .ref (r 0)), (1, .int a0), (2, .int a1), (3, .int a2)]) hx hb d_D_scan_38 hl (by decide) rfl (fun ls hl => ?_)
        refine lv_iload hx hb d_D_scan_40 (lv_at hl 0 rfl) ?_
        refine lv_aload_n hx hb d_D_scan_42 rfl (lv_at hl 1 rfl) ?_
        refine va_get (D := (dC, dI)) (ci := 3) (v := .int 0) (C := R_D) (T := T_D) (N := 19) hx hb hts ti_D hown hK hP 0 rfl rfl 2 (by decide) (hts (Cond.fieldLink "MeasureRowsModel" 81 "MeasureRowsModel" "rows" "I") mw_163) (fun _ h9 => h9) rfl d_D_scan_43 ?_
        refine lv_icmp_gt (tgt := 92) hx hb d_D_scan_46 (by decide) (fun _ => ?_) (fun c_14 => absurd c_14 (by decide))
        refine lv_aload_n hx hb d_D_scan_92 rfl (lv_at hl 1 rfl) ?_
        refine va_get (D := (dC, dI)) (ci := 3) (v := .int 0) (C := R_D) (T := T_D) (N := 19) hx hb hts ti_D hown hK hP 0 rfl rfl 17 (by decide) (hts (Cond.fieldLink "MeasureRowsModel" 124 "MeasureRowsModel" "listed" "I") mw_198) (fun _ h9 => h9) rfl d_D_scan_93 ?_
        have hP9 := hP.sub (ws' := [((r 0), .inr (3, mf_D r 0 0 0 0 0))]) [0] rfl
        have hD9 := hD.sub (ws' := [((r 0), .inr (3, mf_D r 0 0 0 0 0))]) [0] (by decide) rfl
        exact W.iret (v := 0) hx hb hr (fun t ht hW => ⟨⟨_, 0, rfl, ⟨by unfold mv_D_scan0; rw [if_neg c_3, if_neg c_8, if_neg c_13], by unfold mt_D_scan0; rw [if_neg c_3, if_neg c_8, if_neg c_13]⟩, 0, 0, 0, 0, by rw [ht]; exact hP9, va_K.moved hW.alike hK, hD9⟩, hS.F ht⟩) hS.2.2 d_D_scan_96
      · refine lv_aload_n hx hb d_D_scan_21 rfl (lv_at hl 0 rfl) ?_
        refine lv_iconst (v := 1) hx hb d_D_scan_22 (by decide) ?_
        have hPc := hP.sub (ws' := [((r 0), .inr (3, mf_D r th 0 0 0 0))]) [0] rfl
        have hDc := hD.sub (ws' := [((r 0), .inr (3, mf_D r th 0 0 0 0))]) [0] (by decide) rfl
        have hFc := va_free (wc := [((r 0), .inr (3, mf_D r th 0 0 0 0))]) hD hS hA [0] rfl
        refine va_calli (va_runV (As := [.int 1]) (rest := []) (C := R_D) ⟨hx, hb, hml, hown, hts⟩ (mc_D_fails l s0 dC dI cI cR cL cZ r th 0 0 0 0 _ 1) ⟨(mr_cB 1 (hts (Cond.code y_D_fails b_D_fails 2 (some .int)) mw_183) (hts (Cond.initialized y_D_fails.cls) mw_184) (hts (Cond.methodLink "MeasureRowsModel" 97 y_D_fails) mw_185) rfl rfl (by decide +kernel) ⟨Nat.le_of_ble_eq_true rfl, Nat.le_of_ble_eq_true rfl⟩), (hts (Cond.instanceMethod y_D_fails) mw_186), (hts (Cond.selects "MeasureRowsModel" y_D_fails y_D_fails) mw_187)⟩ (mr_preCV hBH hK hPc (hDc.weaken (fun _ _ _ h => hA0 _ h)) (ci := 3) (q0 := 0) rfl rfl) rfl rfl hl.1 rfl (lv_room (Nat.le_of_ble_eq_true rfl)) d_D_scan_23 ⟨Nat.le_of_ble_eq_true rfl, Nat.le_of_ble_eq_true rfl⟩) hS (fun q _ h => hFc q h) hFc (fun r_15 u_16 t H1 locs ht hvm hw hB1 hz1 hk1 hS => ?_)
        obtain ⟨hP1, hK1, hD1⟩ := hB1
        rw [ht] at hP1
        obtain ⟨hP, hD⟩ := va_join (wr := []) (w1 := [((r 0), .inr (3, mf_D r 1 0 0 0 0))]) hP hD [0] [] rfl rfl (by decide) (by decide) hk1 hFc hP1 hD1
        clear hK1 hk1 hPc hDc hFc
        generalize H1 = H at hP hS ht ⊢
        have hP : va_P (dC, dI) mr_cl [((r 0), .inr (3, mf_D r 1 0 0 0 0))] H := hP
        have hD : va_D A [((r 0), .inr (3, mf_D r 1 0 0 0 0))] := hD
        have hBH := hB.at hS hA0
        obtain rfl : r_15 = 0 := hw
        have hP9 := hP.sub (ws' := [((r 0), .inr (3, mf_D r 1 0 0 0 0))]) [0] rfl
        have hD9 := hD.sub (ws' := [((r 0), .inr (3, mf_D r 1 0 0 0 0))]) [0] (by decide) rfl
        exact W.iret (v := 0) hx hb hr (fun t ht hW => ⟨⟨_, 1, rfl, ⟨by unfold mv_D_scan0; rw [if_neg c_3, if_neg c_8, if_pos c_13], by unfold mt_D_scan0; rw [if_neg c_3, if_neg c_8, if_pos c_13]⟩, 0, 0, 0, 0, by rw [ht]; exact hP9, va_K.moved hW.alike hK, hD9⟩, hS.F ht⟩) hS.2.2 d_D_scan_26
def mv_D_change0 (a0 : Int32) (a1 : Int32) (a2 : Int32) : Int32 := if (mv_D_isDay a0) = 0 then 0 else if (mv_D_isDay a1) = 0 then 0 else (-1)
def mt_D_change0 (a0 : Int32) (a1 : Int32) (a2 : Int32) : Int32 := if (mv_D_isDay a0) = 0 then 1 else if (mv_D_isDay a1) = 0 then 1 else 0
set_option maxHeartbeats 4000000 in
set_option maxRecDepth 100000 in
theorem mc_D_change (l : Launch) (s0 : State) (dC : Nat → ClassId) (dI : Nat → Nat → Nat) (cI cR cL cZ : ClassId) (r : Nat → Nat) (th : Int32) (sz : Nat) (a0 : Int32) (a1 : Int32) (a2 : Int32) : Met l y_D_change [Cond.code y_D_change b_D_change 6 (some .int)] ({ frames := 2, cells := 0, slots := 0, locals := 42 }) (mr_PC s0 (dC, dI) [(cI, .int), (cR, .object "MeasureRows$Row"), (cL, .long), (cZ, .boolean)] [.ref (r 0), .int a0, .int a1, .int a2] [((r 0), .inr (3, mf_D r th 0 0 0 0))] sz) (va_Qi (fun rr u => rr = mv_D_change0  a0 a1 a2 ∧ u = mt_D_change0  a0 a1 a2) (fun (u : Int32) t => ∃ rw nw pb lc : Int32, mr_W (dC, dI) [(cI, .int), (cR, .object "MeasureRows$Row"), (cL, .long), (cZ, .boolean)] (va_A [((r 0), .inr (3, mf_D r th 0 0 0 0))] sz) [((r 0), .inr (3, mf_D r u rw nw pb lc))] t) (va_A [((r 0), .inr (3, mf_D r th 0 0 0 0))] sz)) 0 0 (va_A [((r 0), .inr (3, mf_D r th 0 0 0 0))] sz) := by
  refine Met.ofW (cc := b_D_change) (maxL := 6) (ret := (some .int)) (by decide) rfl ?_
  intro p e s m args below meth c s₁ B hml hv
  obtain ⟨rfl, hsz, hB, hK, hP, hD0⟩ := hv
  subst hsz
  have hA0 := mr_A hB hD0
  have hD := hD0.self (sz := s.heap.size)
  generalize hAe : va_A [((r 0), .inr (3, mf_D r th 0 0 0 0))] s.heap.size = A at hD hA0 ⊢
  have hA : ∀ q : Nat, s.heap.size ≤ q → A q := fun q h => by rw [← hAe]; exact Or.inr h
  have hS : va_S A s.heap s.heap [] := va_S.rf
  have hP : va_P (dC, dI) mr_cl [((r 0), .inr (3, mf_D r th 0 0 0 0))] s.heap := hP
  have hBH := hB.at hS hA0
  have hx := B.exec
  have hb := B.bytes
  have hr := B.returns
  have hlocks := B.notSynchronized
  have hts : ∀ w ∈ lw_tbl, w.before [.ref (r 0), .int a0, .int a1, .int a2].toArray s = true := hB.hts _
  have hown : s.vm.findClass "MeasureRowsModel" = some m.cls := findClass_of_methodNamed B.named
  have hl := lv_entry ([.ref (r 0), .int a0, .int a1, .int a2]) (n := 6) (Nat.le_of_ble_eq_true rfl)
  rw [lg_entry_eq]
  generalize (lg_sl ([.ref (r 0), .int a0, .int a1, .int a2]) ++ List.replicate (6 - (lg_sl ([.ref (r 0), .int a0, .int a1, .int a2])).length) Slot.unset).toArray = ls at hl ⊢
  have hl : lv_has ls 6 [(0, .ref (r 0)), (1, .int a0), (2, .int a1), (3, .int a2)] := hl
  refine lv_iload_n hx hb d_D_change_0 rfl (lv_at hl 1 rfl) ?_
  refine vp_callSi (va_Run.run (va_runS (As := [.int a0]) (rest := []) ⟨hx, hb, hml, hown, hts⟩ (mc_D_isDay l s0 a0) ⟨(mr_cB 1 (hts (Cond.code y_D_isDay b_D_isDay 1 (some .boolean)) mw_194) (hts (Cond.initialized y_D_isDay.cls) mw_195) (hts (Cond.methodLink "MeasureRowsModel" 94 y_D_isDay) mw_196) rfl rfl (by decide +kernel) ⟨Nat.le_of_ble_eq_true rfl, Nat.le_of_ble_eq_true rfl⟩), (hts (Cond.static y_D_isDay) mw_197)⟩ (mr_pre0 hBH) rfl rfl hl.1 rfl (lv_room (Nat.le_of_ble_eq_true rfl)) d_D_change_1 ⟨Nat.le_of_ble_eq_true rfl, Nat.le_of_ble_eq_true rfl⟩)) (fun r_1 h_2 => ?_)
  subst h_2
  refine lv_if_eq (tgt := 14) hx hb d_D_change_4 (by decide) (fun c_3 => ?_) (fun c_3 => ?_)
  · refine lv_aload_n hx hb d_D_change_14 rfl (lv_at hl 0 rfl) ?_
    refine lv_iconst (v := 1) hx hb d_D_change_15 (by decide) ?_
    have hPc := hP.sub (ws' := [((r 0), .inr (3, mf_D r th 0 0 0 0))]) [0] rfl
    have hDc := hD.sub (ws' := [((r 0), .inr (3, mf_D r th 0 0 0 0))]) [0] (by decide) rfl
    have hFc := va_free (wc := [((r 0), .inr (3, mf_D r th 0 0 0 0))]) hD hS hA [0] rfl
    refine va_calli (va_runV (As := [.int 1]) (rest := []) (C := R_D) ⟨hx, hb, hml, hown, hts⟩ (mc_D_fails l s0 dC dI cI cR cL cZ r th 0 0 0 0 _ 1) ⟨(mr_cB 1 (hts (Cond.code y_D_fails b_D_fails 2 (some .int)) mw_183) (hts (Cond.initialized y_D_fails.cls) mw_184) (hts (Cond.methodLink "MeasureRowsModel" 97 y_D_fails) mw_185) rfl rfl (by decide +kernel) ⟨Nat.le_of_ble_eq_true rfl, Nat.le_of_ble_eq_true rfl⟩), (hts (Cond.instanceMethod y_D_fails) mw_186), (hts (Cond.selects "MeasureRowsModel" y_D_fails y_D_fails) mw_187)⟩ (mr_preCV hBH hK hPc (hDc.weaken (fun _ _ _ h => hA0 _ h)) (ci := 3) (q0 := 0) rfl rfl) rfl rfl hl.1 rfl (lv_room (Nat.le_of_ble_eq_true rfl)) d_D_change_16 ⟨Nat.le_of_ble_eq_true rfl, Nat.le_of_ble_eq_true rfl⟩) hS (fun q _ h => hFc q h) hFc (fun r_4 u_5 t H1 locs ht hvm hw hB1 hz1 hk1 hS => ?_)
    obtain ⟨hP1, hK1, hD1⟩ := hB1
    rw [ht] at hP1
    obtain ⟨hP, hD⟩ := va_join (wr := []) (w1 := [((r 0), .inr (3, mf_D r 1 0 0 0 0))]) hP hD [0] [] rfl rfl (by decide) (by decide) hk1 hFc hP1 hD1
    clear hK1 hk1 hPc hDc hFc
    generalize H1 = H at hP hS ht ⊢
    have hP : va_P (dC, dI) mr_cl [((r 0), .inr (3, mf_D r 1 0 0 0 0))] H := hP
    have hD : va_D A [((r 0), .inr (3, mf_D r 1 0 0 0 0))] := hD
    have hBH := hB.at hS hA0
    obtain rfl : r_4 = 0 := hw
    have hP9 := hP.sub (ws' := [((r 0), .inr (3, mf_D r 1 0 0 0 0))]) [0] rfl
    have hD9 := hD.sub (ws' := [((r 0), .inr (3, mf_D r 1 0 0 0 0))]) [0] (by decide) rfl
    exact W.iret (v := 0) hx hb hr (fun t ht hW => ⟨⟨_, 1, rfl, ⟨by unfold mv_D_change0; rw [if_pos c_3], by unfold mt_D_change0; rw [if_pos c_3]⟩, 0, 0, 0, 0, by rw [ht]; exact hP9, va_K.moved hW.alike hK, hD9⟩, hS.F ht⟩) hS.2.2 d_D_change_19
  · refine lv_iload_n hx hb d_D_change_7 rfl (lv_at hl 2 rfl) ?_
    refine vp_callSi (va_Run.run (va_runS (As := [.int a1]) (rest := []) ⟨hx, hb, hml, hown, hts⟩ (mc_D_isDay l s0 a1) ⟨(mr_cB 1 (hts (Cond.code y_D_isDay b_D_isDay 1 (some .boolean)) mw_194) (hts (Cond.initialized y_D_isDay.cls) mw_195) (hts (Cond.methodLink "MeasureRowsModel" 94 y_D_isDay) mw_196) rfl rfl (by decide +kernel) ⟨Nat.le_of_ble_eq_true rfl, Nat.le_of_ble_eq_true rfl⟩), (hts (Cond.static y_D_isDay) mw_197)⟩ (mr_pre0 hBH) rfl rfl hl.1 rfl (lv_room (Nat.le_of_ble_eq_true rfl)) d_D_change_8 ⟨Nat.le_of_ble_eq_true rfl, Nat.le_of_ble_eq_true rfl⟩)) (fun r_6 h_7 => ?_)
    subst h_7
    refine lv_if_ne (tgt := 20) hx hb d_D_change_11 (by decide) (fun c_8 => ?_) (fun c_8 => ?_)
    · refine lv_aload_n hx hb d_D_change_20 rfl (lv_at hl 0 rfl) ?_
      refine lv_iconst (v := 0) hx hb d_D_change_21 (by decide) ?_
      refine va_put (D := (dC, dI)) (ci := 3) (v := .int 0) (ty := .int) (C := R_D) (T := T_D) (N := 19) hx hb hts ti_D t_D to_D tn_D hown hK hP hD hS 0 rfl rfl 0 (by decide) (hts (Cond.fieldLink "MeasureRowsModel" 53 "MeasureRowsModel" "thrown" "I") mw_162) (fun _ h9 => h9) rfl (by decide +kernel) rfl rfl (Nat.le_of_ble_eq_true rfl) d_D_change_22 (fun H locs hP hD hS => ?_)
      have hP : va_P (dC, dI) mr_cl [((r 0), .inr (3, mf_D r 0 0 0 0 0))] H := hP
      have hD : va_D A [((r 0), .inr (3, mf_D r 0 0 0 0 0))] := hD
      have hBH := hB.at hS hA0
      refine lv_iconst (v := 0) hx hb d_D_change_25 (by decide) ?_
      refine lv_istore (lv' := [(4, .int 0), (0, .ref (r 0)), (1, .int a0), (2, .int a1), (3, .int a2)]) hx hb d_D_change_26 hl (by decide) rfl (fun ls hl => ?_)
      refine lv_iconst (v := 1) hx hb d_D_change_28 (by decide) ?_
      refine lv_istore (lv' := [(5, .int 1), (4, .int 0), (0, .ref (r 0)), (1, .int a0), (2, .int a1), (3, .int a2)]) hx hb d_D_change_29 hl (by decide) rfl (fun ls hl => ?_)
      refine lv_iload hx hb d_D_change_31 (lv_at hl 0 rfl) ?_
      refine lv_aload_n hx hb d_D_change_33 rfl (lv_at hl 2 rfl) ?_
      refine va_get (D := (dC, dI)) (ci := 3) (v := .int 0) (C := R_D) (T := T_D) (N := 19) hx hb hts ti_D hown hK hP 0 rfl rfl 2 (by decide) (hts (Cond.fieldLink "MeasureRowsModel" 81 "MeasureRowsModel" "rows" "I") mw_163) (fun _ h9 => h9) rfl d_D_change_34 ?_
      refine lv_icmp_gt (tgt := 83) hx hb d_D_change_37 (by decide) (fun _ => ?_) (fun c_9 => absurd c_9 (by decide))
      refine lv_iconst (v := (-1)) hx hb d_D_change_83 (by decide) ?_
      have hP9 := hP.sub (ws' := [((r 0), .inr (3, mf_D r 0 0 0 0 0))]) [0] rfl
      have hD9 := hD.sub (ws' := [((r 0), .inr (3, mf_D r 0 0 0 0 0))]) [0] (by decide) rfl
      exact W.iret (v := (-1)) hx hb hr (fun t ht hW => ⟨⟨_, 0, rfl, ⟨by unfold mv_D_change0; rw [if_neg c_3, if_neg c_8], by unfold mt_D_change0; rw [if_neg c_3, if_neg c_8]⟩, 0, 0, 0, 0, by rw [ht]; exact hP9, va_K.moved hW.alike hK, hD9⟩, hS.F ht⟩) hS.2.2 d_D_change_84
    · refine lv_aload_n hx hb d_D_change_14 rfl (lv_at hl 0 rfl) ?_
      refine lv_iconst (v := 1) hx hb d_D_change_15 (by decide) ?_
      have hPc := hP.sub (ws' := [((r 0), .inr (3, mf_D r th 0 0 0 0))]) [0] rfl
      have hDc := hD.sub (ws' := [((r 0), .inr (3, mf_D r th 0 0 0 0))]) [0] (by decide) rfl
      have hFc := va_free (wc := [((r 0), .inr (3, mf_D r th 0 0 0 0))]) hD hS hA [0] rfl
      refine va_calli (va_runV (As := [.int 1]) (rest := []) (C := R_D) ⟨hx, hb, hml, hown, hts⟩ (mc_D_fails l s0 dC dI cI cR cL cZ r th 0 0 0 0 _ 1) ⟨(mr_cB 1 (hts (Cond.code y_D_fails b_D_fails 2 (some .int)) mw_183) (hts (Cond.initialized y_D_fails.cls) mw_184) (hts (Cond.methodLink "MeasureRowsModel" 97 y_D_fails) mw_185) rfl rfl (by decide +kernel) ⟨Nat.le_of_ble_eq_true rfl, Nat.le_of_ble_eq_true rfl⟩), (hts (Cond.instanceMethod y_D_fails) mw_186), (hts (Cond.selects "MeasureRowsModel" y_D_fails y_D_fails) mw_187)⟩ (mr_preCV hBH hK hPc (hDc.weaken (fun _ _ _ h => hA0 _ h)) (ci := 3) (q0 := 0) rfl rfl) rfl rfl hl.1 rfl (lv_room (Nat.le_of_ble_eq_true rfl)) d_D_change_16 ⟨Nat.le_of_ble_eq_true rfl, Nat.le_of_ble_eq_true rfl⟩) hS (fun q _ h => hFc q h) hFc (fun r_10 u_11 t H1 locs ht hvm hw hB1 hz1 hk1 hS => ?_)
      obtain ⟨hP1, hK1, hD1⟩ := hB1
      rw [ht] at hP1
      obtain ⟨hP, hD⟩ := va_join (wr := []) (w1 := [((r 0), .inr (3, mf_D r 1 0 0 0 0))]) hP hD [0] [] rfl rfl (by decide) (by decide) hk1 hFc hP1 hD1
      clear hK1 hk1 hPc hDc hFc
      generalize H1 = H at hP hS ht ⊢
      have hP : va_P (dC, dI) mr_cl [((r 0), .inr (3, mf_D r 1 0 0 0 0))] H := hP
      have hD : va_D A [((r 0), .inr (3, mf_D r 1 0 0 0 0))] := hD
      have hBH := hB.at hS hA0
      obtain rfl : r_10 = 0 := hw
      have hP9 := hP.sub (ws' := [((r 0), .inr (3, mf_D r 1 0 0 0 0))]) [0] rfl
      have hD9 := hD.sub (ws' := [((r 0), .inr (3, mf_D r 1 0 0 0 0))]) [0] (by decide) rfl
      exact W.iret (v := 0) hx hb hr (fun t ht hW => ⟨⟨_, 1, rfl, ⟨by unfold mv_D_change0; rw [if_neg c_3, if_pos c_8], by unfold mt_D_change0; rw [if_neg c_3, if_pos c_8]⟩, 0, 0, 0, 0, by rw [ht]; exact hP9, va_K.moved hW.alike hK, hD9⟩, hS.F ht⟩) hS.2.2 d_D_change_19
def mv_D_look0 (a0 : Int32) (a1 : Int32) : Int32 := 0
def mt_D_look0 (a0 : Int32) (a1 : Int32) : Int32 := 1
set_option maxHeartbeats 4000000 in
set_option maxRecDepth 100000 in
theorem mc_D_look (l : Launch) (s0 : State) (dC : Nat → ClassId) (dI : Nat → Nat → Nat) (cI cR cL cZ : ClassId) (r : Nat → Nat) (th : Int32) (sz : Nat) (a0 : Int32) (a1 : Int32) : Met l y_D_look [Cond.code y_D_look b_D_look 3 (some .int)] ({ frames := 1, cells := 0, slots := 0, locals := 21 }) (mr_PC s0 (dC, dI) [(cI, .int), (cR, .object "MeasureRows$Row"), (cL, .long), (cZ, .boolean)] [.ref (r 0), .int a0, .int a1] [((r 0), .inr (3, mf_D r th 0 0 0 0))] sz) (va_Qi (fun rr u => rr = mv_D_look0  a0 a1 ∧ u = mt_D_look0  a0 a1) (fun (u : Int32) t => ∃ rw nw pb lc : Int32, mr_W (dC, dI) [(cI, .int), (cR, .object "MeasureRows$Row"), (cL, .long), (cZ, .boolean)] (va_A [((r 0), .inr (3, mf_D r th 0 0 0 0))] sz) [((r 0), .inr (3, mf_D r u rw nw pb lc))] t) (va_A [((r 0), .inr (3, mf_D r th 0 0 0 0))] sz)) 0 0 (va_A [((r 0), .inr (3, mf_D r th 0 0 0 0))] sz) := by
  refine Met.ofW (cc := b_D_look) (maxL := 3) (ret := (some .int)) (by decide) rfl ?_
  intro p e s m args below meth c s₁ B hml hv
  obtain ⟨rfl, hsz, hB, hK, hP, hD0⟩ := hv
  subst hsz
  have hA0 := mr_A hB hD0
  have hD := hD0.self (sz := s.heap.size)
  generalize hAe : va_A [((r 0), .inr (3, mf_D r th 0 0 0 0))] s.heap.size = A at hD hA0 ⊢
  have hA : ∀ q : Nat, s.heap.size ≤ q → A q := fun q h => by rw [← hAe]; exact Or.inr h
  have hS : va_S A s.heap s.heap [] := va_S.rf
  have hP : va_P (dC, dI) mr_cl [((r 0), .inr (3, mf_D r th 0 0 0 0))] s.heap := hP
  have hBH := hB.at hS hA0
  have hx := B.exec
  have hb := B.bytes
  have hr := B.returns
  have hlocks := B.notSynchronized
  have hts : ∀ w ∈ lw_tbl, w.before [.ref (r 0), .int a0, .int a1].toArray s = true := hB.hts _
  have hown : s.vm.findClass "MeasureRowsModel" = some m.cls := findClass_of_methodNamed B.named
  have hl := lv_entry ([.ref (r 0), .int a0, .int a1]) (n := 3) (Nat.le_of_ble_eq_true rfl)
  rw [lg_entry_eq]
  generalize (lg_sl ([.ref (r 0), .int a0, .int a1]) ++ List.replicate (3 - (lg_sl ([.ref (r 0), .int a0, .int a1])).length) Slot.unset).toArray = ls at hl ⊢
  have hl : lv_has ls 3 [(0, .ref (r 0)), (1, .int a0), (2, .int a1)] := hl
  refine lv_aload_n hx hb d_D_look_0 rfl (lv_at hl 0 rfl) ?_
  refine lv_iload_n hx hb d_D_look_1 rfl (lv_at hl 1 rfl) ?_
  refine vp_callSi (va_Run.run (va_runV (As := [.int a0]) (rest := []) (C := R_D) ⟨hx, hb, hml, hown, hts⟩ (mc_D_isRow l s0 dC dI cI cR cL cZ r th 0 0 0 a0) ⟨(mr_cB 1 (hts (Cond.code y_D_isRow b_D_isRow 2 (some .boolean)) mw_178) (hts (Cond.initialized y_D_isRow.cls) mw_179) (hts (Cond.methodLink "MeasureRowsModel" 104 y_D_isRow) mw_180) rfl rfl (by decide +kernel) ⟨Nat.le_of_ble_eq_true rfl, Nat.le_of_ble_eq_true rfl⟩), (hts (Cond.instanceMethod y_D_isRow) mw_181), (hts (Cond.selects "MeasureRowsModel" y_D_isRow y_D_isRow) mw_182)⟩ (mr_preV hBH hK (hP.sub (ws' := [((r 0), .inr (3, mf_D r th 0 0 0 0))]) [0] rfl) (ci := 3) (q0 := 0) rfl rfl) rfl rfl hl.1 rfl (lv_room (Nat.le_of_ble_eq_true rfl)) d_D_look_2 ⟨Nat.le_of_ble_eq_true rfl, Nat.le_of_ble_eq_true rfl⟩)) (fun r_1 h_2 => ?_)
  subst h_2
  refine mr_top (mv_isRow0 _) ?_
  refine lv_if_eq (tgt := 18) hx hb d_D_look_5 (by decide) (fun _ => ?_) (fun c_3 => absurd c_3 (by decide))
  refine lv_aload_n hx hb d_D_look_18 rfl (lv_at hl 0 rfl) ?_
  refine lv_iconst (v := 1) hx hb d_D_look_19 (by decide) ?_
  have hPc := hP.sub (ws' := [((r 0), .inr (3, mf_D r th 0 0 0 0))]) [0] rfl
  have hDc := hD.sub (ws' := [((r 0), .inr (3, mf_D r th 0 0 0 0))]) [0] (by decide) rfl
  have hFc := va_free (wc := [((r 0), .inr (3, mf_D r th 0 0 0 0))]) hD hS hA [0] rfl
  refine va_calli (va_runV (As := [.int 1]) (rest := []) (C := R_D) ⟨hx, hb, hml, hown, hts⟩ (mc_D_fails l s0 dC dI cI cR cL cZ r th 0 0 0 0 _ 1) ⟨(mr_cB 1 (hts (Cond.code y_D_fails b_D_fails 2 (some .int)) mw_183) (hts (Cond.initialized y_D_fails.cls) mw_184) (hts (Cond.methodLink "MeasureRowsModel" 97 y_D_fails) mw_185) rfl rfl (by decide +kernel) ⟨Nat.le_of_ble_eq_true rfl, Nat.le_of_ble_eq_true rfl⟩), (hts (Cond.instanceMethod y_D_fails) mw_186), (hts (Cond.selects "MeasureRowsModel" y_D_fails y_D_fails) mw_187)⟩ (mr_preCV hBH hK hPc (hDc.weaken (fun _ _ _ h => hA0 _ h)) (ci := 3) (q0 := 0) rfl rfl) rfl rfl hl.1 rfl (lv_room (Nat.le_of_ble_eq_true rfl)) d_D_look_20 ⟨Nat.le_of_ble_eq_true rfl, Nat.le_of_ble_eq_true rfl⟩) hS (fun q _ h => hFc q h) hFc (fun r_4 u_5 t H1 locs ht hvm hw hB1 hz1 hk1 hS => ?_)
  obtain ⟨hP1, hK1, hD1⟩ := hB1
  rw [ht] at hP1
  obtain ⟨hP, hD⟩ := va_join (wr := []) (w1 := [((r 0), .inr (3, mf_D r 1 0 0 0 0))]) hP hD [0] [] rfl rfl (by decide) (by decide) hk1 hFc hP1 hD1
  clear hK1 hk1 hPc hDc hFc
  generalize H1 = H at hP hS ht ⊢
  have hP : va_P (dC, dI) mr_cl [((r 0), .inr (3, mf_D r 1 0 0 0 0))] H := hP
  have hD : va_D A [((r 0), .inr (3, mf_D r 1 0 0 0 0))] := hD
  have hBH := hB.at hS hA0
  obtain rfl : r_4 = 0 := hw
  have hP9 := hP.sub (ws' := [((r 0), .inr (3, mf_D r 1 0 0 0 0))]) [0] rfl
  have hD9 := hD.sub (ws' := [((r 0), .inr (3, mf_D r 1 0 0 0 0))]) [0] (by decide) rfl
  exact W.iret (v := 0) hx hb hr (fun t ht hW => ⟨⟨_, 1, rfl, ⟨rfl, rfl⟩, 0, 0, 0, 0, by rw [ht]; exact hP9, va_K.moved hW.alike hK, hD9⟩, hS.F ht⟩) hS.2.2 d_D_look_23
