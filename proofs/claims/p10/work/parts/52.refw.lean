theorem mw_274 : Cond.fieldLink "MeasureRowsModel" 28 "MeasureRowsModel" "known" "[I" ∈ lw_tbl := by decide +kernel
theorem mw_275 : Cond.code y_D_isUnder b_D_isUnder 3 (some .boolean) ∈ lw_tbl := by decide +kernel
theorem mw_276 : Cond.initialized y_D_isUnder.cls ∈ lw_tbl := by decide +kernel
theorem mw_277 : Cond.methodLink "MeasureRowsModel" 114 y_D_isUnder ∈ lw_tbl := by decide +kernel
theorem mw_278 : Cond.static y_D_isUnder ∈ lw_tbl := by decide +kernel
theorem mw_279 : Cond.code y_D_isIn b_D_isIn 3 (some .boolean) ∈ lw_tbl := by decide +kernel
theorem mw_280 : Cond.initialized y_D_isIn.cls ∈ lw_tbl := by decide +kernel
theorem mw_281 : Cond.methodLink "MeasureRowsModel" 78 y_D_isIn ∈ lw_tbl := by decide +kernel
theorem mw_282 : Cond.instanceMethod y_D_isIn ∈ lw_tbl := by decide +kernel
theorem mw_283 : Cond.selects "MeasureRowsModel" y_D_isIn y_D_isIn ∈ lw_tbl := by decide +kernel
theorem mw_284 : Cond.fieldLink "MeasureRowsModel" 31 "MeasureRowsModel" "lands" "[I" ∈ lw_tbl := by decide +kernel
theorem mw_285 : Cond.code y_D_lasts b_D_lasts 4 (some .boolean) ∈ lw_tbl := by decide +kernel
theorem mw_286 : Cond.initialized y_D_lasts.cls ∈ lw_tbl := by decide +kernel
theorem mw_287 : Cond.methodLink "MeasureRowsModel" 117 y_D_lasts ∈ lw_tbl := by decide +kernel
theorem mw_288 : Cond.instanceMethod y_D_lasts ∈ lw_tbl := by decide +kernel
theorem mw_289 : Cond.selects "MeasureRowsModel" y_D_lasts y_D_lasts ∈ lw_tbl := by decide +kernel
theorem mw_290 : Cond.code y_D_digits b_D_digits 1 (some .int) ∈ lw_tbl := by decide +kernel
theorem mw_291 : Cond.initialized y_D_digits.cls ∈ lw_tbl := by decide +kernel
theorem mw_292 : Cond.methodLink "MeasureRowsModel" 91 y_D_digits ∈ lw_tbl := by decide +kernel
theorem mw_293 : Cond.static y_D_digits ∈ lw_tbl := by decide +kernel
theorem mw_294 : Cond.fieldLink "MeasureRowsModel" 81 "MeasureRowsModel" "rows" "I" ∈ lw_tbl := by decide +kernel
theorem mw_295 : Cond.fieldLink "MeasureRowsModel" 53 "MeasureRowsModel" "thrown" "I" ∈ lw_tbl := by decide +kernel
theorem mw_296 : Cond.code y_D_isRow b_D_isRow 2 (some .boolean) ∈ lw_tbl := by decide +kernel
theorem mw_297 : Cond.initialized y_D_isRow.cls ∈ lw_tbl := by decide +kernel
theorem mw_298 : Cond.methodLink "MeasureRowsModel" 104 y_D_isRow ∈ lw_tbl := by decide +kernel
theorem mw_299 : Cond.instanceMethod y_D_isRow ∈ lw_tbl := by decide +kernel
theorem mw_300 : Cond.selects "MeasureRowsModel" y_D_isRow y_D_isRow ∈ lw_tbl := by decide +kernel
theorem mw_301 : Cond.code y_D_isLand b_D_isLand 1 (some .boolean) ∈ lw_tbl := by decide +kernel
theorem mw_302 : Cond.initialized y_D_isLand.cls ∈ lw_tbl := by decide +kernel
theorem mw_303 : Cond.methodLink "MeasureRowsModel" 71 y_D_isLand ∈ lw_tbl := by decide +kernel
theorem mw_304 : Cond.static y_D_isLand ∈ lw_tbl := by decide +kernel
theorem mw_305 : Cond.code y_D_bits b_D_bits 3 (some .int) ∈ lw_tbl := by decide +kernel
theorem mw_306 : Cond.initialized y_D_bits.cls ∈ lw_tbl := by decide +kernel
theorem mw_307 : Cond.methodLink "MeasureRowsModel" 107 y_D_bits ∈ lw_tbl := by decide +kernel
theorem mw_308 : Cond.static y_D_bits ∈ lw_tbl := by decide +kernel
theorem mw_309 : Cond.fieldLink "MeasureRowsModel" 34 "MeasureRowsModel" "papers" "[I" ∈ lw_tbl := by decide +kernel
def mv_D_isRow (n : Nat) (a0 : Int32) : Int32 := if a0 < 1 then 0 else if (nI n) < a0 then 0 else 1
theorem mv_D_isRow_b (n : Nat) (a0 : Int32) : mr_b01 (mv_D_isRow n a0) := (mr_bi mr_b0 (mr_bi mr_b0 mr_b1))
set_option maxHeartbeats 4000000 in
set_option maxRecDepth 100000 in
theorem mc_D_isRow (l : Launch) (s0 : State) (dC : Nat → ClassId) (dI : Nat → Nat → Nat) (cI cR cL cZ : ClassId) (r : Nat → Nat) (th nw pb lc : Int32) (n : Nat) (a0 : Int32) : Met l y_D_isRow [Cond.code y_D_isRow b_D_isRow 2 (some .boolean)] ({ frames := 0, cells := 0, slots := 0, locals := 0 }) (mr_PW s0 (dC, dI) [(cI, .int), (cR, .object "MeasureRows$Row"), (cL, .long), (cZ, .boolean)] [.ref (r 0), .int a0] [((r 0), .inr (3, mf_D r th (nI n) nw pb lc))]) (vp_Si (fun r => r = mv_D_isRow n a0)) 0 0 (fun _ => False) := by
  refine Met.ofW (cc := b_D_isRow) (maxL := 2) (ret := (some .boolean)) (by decide) rfl ?_
  intro p e s m args below meth c s₁ B hml hv
  obtain ⟨rfl, hB, hK, hP⟩ := hv
  have hBH := hB.here
  have hx := B.exec
  have hb := B.bytes
  have hr := B.returns
  have hlocks := B.notSynchronized
  have hts : ∀ w ∈ lw_tbl, w.before [.ref (r 0), .int a0].toArray s = true := hB.hts _
  have hown : s.vm.findClass "MeasureRowsModel" = some m.cls := findClass_of_methodNamed B.named
  have hl := lv_entry ([.ref (r 0), .int a0]) (n := 2) (Nat.le_of_ble_eq_true rfl)
  rw [lg_entry_eq]
  generalize (lg_sl ([.ref (r 0), .int a0]) ++ List.replicate (2 - (lg_sl ([.ref (r 0), .int a0])).length) Slot.unset).toArray = ls at hl ⊢
  have hl : lv_has ls 2 [(0, .ref (r 0)), (1, .int a0)] := hl
  refine lv_iload_n hx hb d_D_isRow_0 rfl (lv_at hl 1 rfl) ?_
  refine lv_iconst (v := 1) hx hb d_D_isRow_1 (by decide) ?_
  refine lv_icmp_lt (tgt := 17) hx hb d_D_isRow_2 (by decide) (fun c_1 => ?_) (fun c_1 => ?_)
  · refine lv_iconst (v := 0) hx hb d_D_isRow_17 (by decide) ?_
    exact W.zret (v := 0) hx hb hr (mr_narz mr_b0) (fun t ht _ => ⟨_, rfl, by unfold mv_D_isRow; rw [if_pos c_1], ht⟩) (fun _ h => nomatch h) d_D_isRow_18
  · refine lv_iload_n hx hb d_D_isRow_5 rfl (lv_at hl 1 rfl) ?_
    refine lv_aload_n hx hb d_D_isRow_6 rfl (lv_at hl 0 rfl) ?_
    refine va_get (D := (dC, dI)) (ci := 3) (v := .int (nI n)) (C := R_D) (T := T_D) (N := 19) hx hb hts ti_D hown hK hP 0 rfl rfl 2 (by decide) (hts (Cond.fieldLink "MeasureRowsModel" 81 "MeasureRowsModel" "rows" "I") mw_294) (fun _ h9 => h9) rfl d_D_isRow_7 ?_
    refine lv_icmp_gt (tgt := 17) hx hb d_D_isRow_10 (by decide) (fun c_2 => ?_) (fun c_2 => ?_)
    · refine lv_iconst (v := 0) hx hb d_D_isRow_17 (by decide) ?_
      exact W.zret (v := 0) hx hb hr (mr_narz mr_b0) (fun t ht _ => ⟨_, rfl, by unfold mv_D_isRow; rw [if_neg c_1, if_pos c_2], ht⟩) (fun _ h => nomatch h) d_D_isRow_18
    · refine lv_iconst (v := 1) hx hb d_D_isRow_13 (by decide) ?_
      refine lv_goto (tgt := 18) hx hb d_D_isRow_14 (by decide) ?_
      exact W.zret (v := 1) hx hb hr (mr_narz mr_b1) (fun t ht _ => ⟨_, rfl, by unfold mv_D_isRow; rw [if_neg c_1, if_neg c_2], ht⟩) (fun _ h => nomatch h) d_D_isRow_18
theorem mv_isRow_y {n i : Nat} (h1 : 1 ≤ i) (hn : i ≤ n) (h8 : n ≤ 80) : mv_D_isRow n (nI i) = 1 := by
  unfold mv_D_isRow
  rw [if_neg (show ¬ nI i < 1 from nI_nlt (b := 1) h1 (by omega)), if_neg (nI_nlt hn (by omega))]
theorem mv_isRow_c {n : Nat} (h8 : n ≤ 80) (x : Int32) : mv_D_isRow n x = 0 ∨ ∃ i, 1 ≤ i ∧ i ≤ n ∧ x = nI i := by
  unfold mv_D_isRow
  by_cases h1 : x < 1
  · rw [if_pos h1]; exact Or.inl rfl
  · rw [if_neg h1]
    by_cases h2 : nI n < x
    · rw [if_pos h2]; exact Or.inl rfl
    · obtain ⟨i, hi, rfl⟩ := mr_fi h8 h1 h2
      exact Or.inr ⟨i + 1, by omega, by omega, rfl⟩
set_option maxHeartbeats 4000000 in
set_option maxRecDepth 100000 in
theorem mc_D_fails (l : Launch) (s0 : State) (dC : Nat → ClassId) (dI : Nat → Nat → Nat) (cI cR cL cZ : ClassId) (r : Nat → Nat) (th rw nw pb lc : Int32) (sz : Nat) (a0 : Int32)  : Met l y_D_fails [Cond.code y_D_fails b_D_fails 2 (some .int)] ({ frames := 0, cells := 0, slots := 0, locals := 0 }) (mr_PC s0 (dC, dI) [(cI, .int), (cR, .object "MeasureRows$Row"), (cL, .long), (cZ, .boolean)] [.ref (r 0), .int a0] [((r 0), .inr (3, mf_D r th rw nw pb lc))] sz) (va_Qi (fun rr _ => rr = 0) (fun (u : Unit) t => mr_W (dC, dI) [(cI, .int), (cR, .object "MeasureRows$Row"), (cL, .long), (cZ, .boolean)] (va_A [((r 0), .inr (3, mf_D r th rw nw pb lc))] sz) [((r 0), .inr (3, mf_D r a0 rw nw pb lc))] t) (va_A [((r 0), .inr (3, mf_D r th rw nw pb lc))] sz)) 0 0 (va_A [((r 0), .inr (3, mf_D r th rw nw pb lc))] sz) := by
  refine Met.ofW (cc := b_D_fails) (maxL := 2) (ret := (some .int)) (by decide) rfl ?_
  intro p e s m args below meth c s₁ B hml hv
  obtain ⟨rfl, hsz, hB, hK, hP, hD0⟩ := hv
  subst hsz
  have hA0 := mr_A hB hD0
  have hD := hD0.self (sz := s.heap.size)
  generalize hAe : va_A [((r 0), .inr (3, mf_D r th rw nw pb lc))] s.heap.size = A at hD hA0 ⊢
  have hA : ∀ q : Nat, s.heap.size ≤ q → A q := fun q h => by rw [← hAe]; exact Or.inr h
  have hS : va_S A s.heap s.heap [] := va_S.rf
  have hP : va_P (dC, dI) mr_cl [((r 0), .inr (3, mf_D r th rw nw pb lc))] s.heap := hP
  have hBH := hB.at hS hA0
  have hx := B.exec
  have hb := B.bytes
  have hr := B.returns
  have hlocks := B.notSynchronized
  have hts : ∀ w ∈ lw_tbl, w.before [.ref (r 0), .int a0].toArray s = true := hB.hts _
  have hown : s.vm.findClass "MeasureRowsModel" = some m.cls := findClass_of_methodNamed B.named
  have hl := lv_entry ([.ref (r 0), .int a0]) (n := 2) (Nat.le_of_ble_eq_true rfl)
  rw [lg_entry_eq]
  generalize (lg_sl ([.ref (r 0), .int a0]) ++ List.replicate (2 - (lg_sl ([.ref (r 0), .int a0])).length) Slot.unset).toArray = ls at hl ⊢
  have hl : lv_has ls 2 [(0, .ref (r 0)), (1, .int a0)] := hl
  refine lv_aload_n hx hb d_D_fails_0 rfl (lv_at hl 0 rfl) ?_
  refine lv_iload_n hx hb d_D_fails_1 rfl (lv_at hl 1 rfl) ?_
  refine va_put (D := (dC, dI)) (ci := 3) (v := .int a0) (ty := .int) (C := R_D) (T := T_D) (N := 19) hx hb hts ti_D t_D to_D tn_D hown hK hP hD hS 0 rfl rfl 0 (by decide) (hts (Cond.fieldLink "MeasureRowsModel" 53 "MeasureRowsModel" "thrown" "I") mw_295) (fun _ h9 => h9) rfl (by decide +kernel) rfl rfl (Nat.le_of_ble_eq_true rfl) d_D_fails_2 (fun H locs hP hD hS => ?_)
  have hP : va_P (dC, dI) mr_cl [((r 0), .inr (3, mf_D r a0 rw nw pb lc))] H := hP
  have hD : va_D A [((r 0), .inr (3, mf_D r a0 rw nw pb lc))] := hD
  have hBH := hB.at hS hA0
  refine lv_iconst (v := 0) hx hb d_D_fails_5 (by decide) ?_
  have hP9 := hP.sub (ws' := [((r 0), .inr (3, mf_D r a0 rw nw pb lc))]) [0] rfl
  have hD9 := hD.sub (ws' := [((r 0), .inr (3, mf_D r a0 rw nw pb lc))]) [0] (by decide) rfl
  exact W.iret (v := 0) hx hb hr (fun t ht hW => ⟨⟨_, (), rfl, rfl, by rw [ht]; exact hP9, va_K.moved hW.alike hK, hD9⟩, hS.F ht⟩) hS.2.2 d_D_fails_6
