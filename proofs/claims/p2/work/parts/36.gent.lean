theorem mr_t8 {t : Nat} (h : ¬ 8 ≤ nI t) (h8 : t ≤ 8) : t < 8 := by
  rcases Nat.lt_or_ge t 8 with q | q
  · exact q
  · exact absurd (nI_le (a := 8) q (by omega)) h
theorem mw_184 : Cond.code y_M_isLastDay b_M_isLastDay 1 (some .boolean) ∈ lw_tbl := by decide +kernel
theorem mw_185 : Cond.initialized y_M_isLastDay.cls ∈ lw_tbl := by decide +kernel
theorem mw_186 : Cond.methodLink "MeasureRows" 86 y_M_isLastDay ∈ lw_tbl := by decide +kernel
theorem mw_187 : Cond.static y_M_isLastDay ∈ lw_tbl := by decide +kernel
theorem mw_188 : Cond.code y_R_tell b_R_tell 3 none ∈ lw_tbl := by decide +kernel
theorem mw_189 : Cond.initialized y_R_tell.cls ∈ lw_tbl := by decide +kernel
theorem mw_190 : Cond.methodLink "MeasureRows" 131 y_R_tell ∈ lw_tbl := by decide +kernel
theorem mw_191 : Cond.instanceMethod y_R_tell ∈ lw_tbl := by decide +kernel
theorem mw_192 : Cond.selects "MeasureRows$Row" y_R_tell y_R_tell ∈ lw_tbl := by decide +kernel
theorem mw_193 : Cond.methodLink "MeasureRows" 105 Lib.Math.max.name ∈ lw_tbl := by decide +kernel
theorem mw_194 : Cond.static Lib.Math.max.name ∈ lw_tbl := by decide +kernel
theorem mw_195 : Cond.initialized "java/lang/Math" ∈ lw_tbl := by decide +kernel
theorem mw_196 : Cond.code Lib.Math.max.name Lib.Math.max.code 2 (some .int) ∈ lw_tbl := by decide +kernel
theorem mw_197 : Cond.stringRef "MeasureRows" 126 "no room for another last day" ∈ lw_tbl := by decide +kernel
theorem mw_198 : Cond.classLink "MeasureRows" 93 mr_ise ∈ lw_tbl := by decide +kernel
theorem mw_199 : Cond.initialized mr_ise ∈ lw_tbl := by decide +kernel
set_option maxHeartbeats 4000000 in
set_option maxRecDepth 100000 in
theorem mc_R_tell (l : Launch) (s0 : State) (dC : Nat → ClassId) (dI : Nat → Nat → Nat) (cI cR cL cZ : ClassId) (q ql qk : Nat) (vc vp vf vk vr vn ve vw : Int32) (tn : Nat) (ld kd : Nat → Int32) (sz : Nat) (a0 : Int32) (a1 : Int32) (hto : tn ≤ 8) (ho : 1 ≤ tn) : Met l y_R_tell [Cond.code y_R_tell b_R_tell 3 none] ({ frames := 0, cells := 0, slots := 0, locals := 0 }) (mr_PC s0 (dC, dI) [(cI, .int), (cR, .object "MeasureRows$Row"), (cL, .long), (cZ, .boolean)] [.ref q, .int a0, .int a1] [(q, .inr (2, [.int vc, .int vp, .int vf, .int vk, .int vr, .int vn, .int ve, .int vw, .int (nI tn), .ref ql, .ref qk])), (ql, .inl (cI, 8, .inl ld)), (qk, .inl (cI, 8, .inl kd))] sz) (va_Qv (fun u => u.1 ≤ 8 ∧ 1 ≤ u.1) (fun (u : Nat × (Nat → Int32) × (Nat → Int32)) t => mr_W (dC, dI) [(cI, .int), (cR, .object "MeasureRows$Row"), (cL, .long), (cZ, .boolean)] (va_A [(q, .inr (2, [.int vc, .int vp, .int vf, .int vk, .int vr, .int vn, .int ve, .int vw, .int (nI tn), .ref ql, .ref qk])), (ql, .inl (cI, 8, .inl ld)), (qk, .inl (cI, 8, .inl kd))] sz) [(q, .inr (2, [.int vc, .int vp, .int vf, .int vk, .int vr, .int vn, .int ve, .int vw, .int (nI u.1), .ref ql, .ref qk])), (ql, .inl (cI, 8, .inl u.2.1)), (qk, .inl (cI, 8, .inl u.2.2))] t) (va_A [(q, .inr (2, [.int vc, .int vp, .int vf, .int vk, .int vr, .int vn, .int ve, .int vw, .int (nI tn), .ref ql, .ref qk])), (ql, .inl (cI, 8, .inl ld)), (qk, .inl (cI, 8, .inl kd))] sz)) 0 0 (va_A [(q, .inr (2, [.int vc, .int vp, .int vf, .int vk, .int vr, .int vn, .int ve, .int vw, .int (nI tn), .ref ql, .ref qk])), (ql, .inl (cI, 8, .inl ld)), (qk, .inl (cI, 8, .inl kd))] sz) := by
  refine Met.ofW (cc := b_R_tell) (maxL := 3) (ret := none) (by decide) rfl ?_
  intro p e s m args below meth c s₁ B hml hv
  obtain ⟨rfl, hsz, hB, hK, hP, hD0⟩ := hv
  subst hsz
  have hA0 := mr_A hB hD0
  have hD := hD0.self (sz := s.heap.size)
  generalize hAe : va_A [(q, .inr (2, [.int vc, .int vp, .int vf, .int vk, .int vr, .int vn, .int ve, .int vw, .int (nI tn), .ref ql, .ref qk])), (ql, .inl (cI, 8, .inl ld)), (qk, .inl (cI, 8, .inl kd))] s.heap.size = A at hD hA0 ⊢
  have hA : ∀ q : Nat, s.heap.size ≤ q → A q := fun q h => by rw [← hAe]; exact Or.inr h
  have hS : va_S A s.heap s.heap [] := va_S.rf
  have hP : va_P (dC, dI) mr_cl [(q, .inr (2, [.int vc, .int vp, .int vf, .int vk, .int vr, .int vn, .int ve, .int vw, .int (nI tn), .ref ql, .ref qk])), (ql, .inl (cI, 8, .inl ld)), (qk, .inl (cI, 8, .inl kd))] s.heap := hP
  have hBH := hB.at hS hA0
  have hx := B.exec
  have hb := B.bytes
  have hr := B.returns
  have hlocks := B.notSynchronized
  have hts : ∀ w ∈ lw_tbl, w.before [.ref q, .int a0, .int a1].toArray s = true := hB.hts _
  have hown : s.vm.findClass "MeasureRows$Row" = some m.cls := findClass_of_methodNamed B.named
  have hl := lv_entry ([.ref q, .int a0, .int a1]) (n := 3) (Nat.le_of_ble_eq_true rfl)
  rw [lg_entry_eq]
  generalize (lg_sl ([.ref q, .int a0, .int a1]) ++ List.replicate (3 - (lg_sl ([.ref q, .int a0, .int a1])).length) Slot.unset).toArray = ls at hl ⊢
  have hl : lv_has ls 3 [(0, .ref q), (1, .int a0), (2, .int a1)] := hl
  refine lv_aload_n hx hb d_R_tell_0 rfl (lv_at hl 0 rfl) ?_
  refine va_get (D := (dC, dI)) (ci := 2) (v := .int (nI tn)) (C := R_R) (T := T_R) (N := 11) hx hb hts ti_R hown hK hP 0 rfl rfl 8 (by decide) (hts (Cond.fieldLink "MeasureRows$Row" 43 "MeasureRows$Row" "told" "I") mw_75) (fun _ h9 => h9) rfl d_R_tell_1 ?_
  refine lv_bipush (v := 8) hx hb d_R_tell_4 (by decide) ?_
  refine lv_icmp_ge (tgt := 39) hx hb d_R_tell_6 (by decide) (fun c_1 => ?_) (fun c_1 => ?_)
  · have hP9 := hP.sub (ws' := [(q, .inr (2, [.int vc, .int vp, .int vf, .int vk, .int vr, .int vn, .int ve, .int vw, .int (nI tn), .ref ql, .ref qk])), (ql, .inl (cI, 8, .inl ld)), (qk, .inl (cI, 8, .inl kd))]) [0, 1, 2] rfl
    have hD9 := hD.sub (ws' := [(q, .inr (2, [.int vc, .int vp, .int vf, .int vk, .int vr, .int vn, .int ve, .int vw, .int (nI tn), .ref ql, .ref qk])), (ql, .inl (cI, 8, .inl ld)), (qk, .inl (cI, 8, .inl kd))]) [0, 1, 2] (by decide) rfl
    exact W.vret hx hb hr (fun t ht hW => ⟨⟨(tn, ld, kd), rfl, ⟨hto, ho⟩, by rw [ht]; exact hP9, va_K.moved hW.alike hK, hD9⟩, hS.F ht⟩) hS.2.2 d_R_tell_39
  · refine lv_aload_n hx hb d_R_tell_9 rfl (lv_at hl 0 rfl) ?_
    refine va_get (D := (dC, dI)) (ci := 2) (v := .ref ql) (C := R_R) (T := T_R) (N := 11) hx hb hts ti_R hown hK hP 0 rfl rfl 9 (by decide) (hts (Cond.fieldLink "MeasureRows$Row" 36 "MeasureRows$Row" "lastDays" "[I") mw_73) (fun _ h9 => h9) rfl d_R_tell_10 ?_
    refine lv_aload_n hx hb d_R_tell_13 rfl (lv_at hl 0 rfl) ?_
    refine va_get (D := (dC, dI)) (ci := 2) (v := .int (nI tn)) (C := R_R) (T := T_R) (N := 11) hx hb hts ti_R hown hK hP 0 rfl rfl 8 (by decide) (hts (Cond.fieldLink "MeasureRows$Row" 43 "MeasureRows$Row" "told" "I") mw_75) (fun _ h9 => h9) rfl d_R_tell_14 ?_
    refine lv_iload_n hx hb d_R_tell_17 rfl (lv_at hl 1 rfl) ?_
    refine va_iast (D := (dC, dI)) hx hb hK hP hD hS 1 0 rfl rfl (i := (nI tn)) (nI_in (mr_t8 c_1 hto) (by decide)) d_R_tell_18 (fun H locs hP hD hS => ?_)
    have hP : va_P (dC, dI) mr_cl [(q, .inr (2, [.int vc, .int vp, .int vf, .int vk, .int vr, .int vn, .int ve, .int vw, .int (nI tn), .ref ql, .ref qk])), (ql, .inl (cI, 8, .inl (upd ld (nI tn).toNatClampNeg a0))), (qk, .inl (cI, 8, .inl kd))] H := hP
    have hD : va_D A [(q, .inr (2, [.int vc, .int vp, .int vf, .int vk, .int vr, .int vn, .int ve, .int vw, .int (nI tn), .ref ql, .ref qk])), (ql, .inl (cI, 8, .inl (upd ld (nI tn).toNatClampNeg a0))), (qk, .inl (cI, 8, .inl kd))] := hD
    have hBH := hB.at hS hA0
    refine lv_aload_n hx hb d_R_tell_19 rfl (lv_at hl 0 rfl) ?_
    refine va_get (D := (dC, dI)) (ci := 2) (v := .ref qk) (C := R_R) (T := T_R) (N := 11) hx hb hts ti_R hown hK hP 0 rfl rfl 10 (by decide) (hts (Cond.fieldLink "MeasureRows$Row" 40 "MeasureRows$Row" "knownDays" "[I") mw_74) (fun _ h9 => h9) rfl d_R_tell_20 ?_
    refine lv_aload_n hx hb d_R_tell_23 rfl (lv_at hl 0 rfl) ?_
    refine va_get (D := (dC, dI)) (ci := 2) (v := .int (nI tn)) (C := R_R) (T := T_R) (N := 11) hx hb hts ti_R hown hK hP 0 rfl rfl 8 (by decide) (hts (Cond.fieldLink "MeasureRows$Row" 43 "MeasureRows$Row" "told" "I") mw_75) (fun _ h9 => h9) rfl d_R_tell_24 ?_
    refine lv_iload_n hx hb d_R_tell_27 rfl (lv_at hl 2 rfl) ?_
    refine va_iast (D := (dC, dI)) hx hb hK hP hD hS 2 0 rfl rfl (i := (nI tn)) (nI_in (mr_t8 c_1 hto) (by decide)) d_R_tell_28 (fun H locs hP hD hS => ?_)
    have hP : va_P (dC, dI) mr_cl [(q, .inr (2, [.int vc, .int vp, .int vf, .int vk, .int vr, .int vn, .int ve, .int vw, .int (nI tn), .ref ql, .ref qk])), (ql, .inl (cI, 8, .inl (upd ld (nI tn).toNatClampNeg a0))), (qk, .inl (cI, 8, .inl (upd kd (nI tn).toNatClampNeg a1)))] H := hP
    have hD : va_D A [(q, .inr (2, [.int vc, .int vp, .int vf, .int vk, .int vr, .int vn, .int ve, .int vw, .int (nI tn), .ref ql, .ref qk])), (ql, .inl (cI, 8, .inl (upd ld (nI tn).toNatClampNeg a0))), (qk, .inl (cI, 8, .inl (upd kd (nI tn).toNatClampNeg a1)))] := hD
    have hBH := hB.at hS hA0
    refine lv_aload_n hx hb d_R_tell_29 rfl (lv_at hl 0 rfl) ?_
    refine lv_dup hx hb d_R_tell_30 rfl ?_
    refine va_get (D := (dC, dI)) (ci := 2) (v := .int (nI tn)) (C := R_R) (T := T_R) (N := 11) hx hb hts ti_R hown hK hP 0 rfl rfl 8 (by decide) (hts (Cond.fieldLink "MeasureRows$Row" 43 "MeasureRows$Row" "told" "I") mw_75) (fun _ h9 => h9) rfl d_R_tell_31 ?_
    refine lv_iconst (v := 1) hx hb d_R_tell_34 (by decide) ?_
    refine lv_iadd hx hb d_R_tell_35 ?_
    refine mr_top (nI_1 tn) ?_
    refine va_put (D := (dC, dI)) (ci := 2) (v := .int (nI (tn + 1))) (ty := .int) (C := R_R) (T := T_R) (N := 11) hx hb hts ti_R t_R to_R tn_R hown hK hP hD hS 0 rfl rfl 8 (by decide) (hts (Cond.fieldLink "MeasureRows$Row" 43 "MeasureRows$Row" "told" "I") mw_75) (fun _ h9 => h9) rfl (by decide +kernel) rfl rfl (Nat.le_of_ble_eq_true rfl) d_R_tell_36 (fun H locs hP hD hS => ?_)
    have hP : va_P (dC, dI) mr_cl [(q, .inr (2, [.int vc, .int vp, .int vf, .int vk, .int vr, .int vn, .int ve, .int vw, .int (nI (tn + 1)), .ref ql, .ref qk])), (ql, .inl (cI, 8, .inl (upd ld (nI tn).toNatClampNeg a0))), (qk, .inl (cI, 8, .inl (upd kd (nI tn).toNatClampNeg a1)))] H := hP
    have hD : va_D A [(q, .inr (2, [.int vc, .int vp, .int vf, .int vk, .int vr, .int vn, .int ve, .int vw, .int (nI (tn + 1)), .ref ql, .ref qk])), (ql, .inl (cI, 8, .inl (upd ld (nI tn).toNatClampNeg a0))), (qk, .inl (cI, 8, .inl (upd kd (nI tn).toNatClampNeg a1)))] := hD
    have hBH := hB.at hS hA0
    have hP9 := hP.sub (ws' := [(q, .inr (2, [.int vc, .int vp, .int vf, .int vk, .int vr, .int vn, .int ve, .int vw, .int (nI (tn + 1)), .ref ql, .ref qk])), (ql, .inl (cI, 8, .inl (upd ld (nI tn).toNatClampNeg a0))), (qk, .inl (cI, 8, .inl (upd kd (nI tn).toNatClampNeg a1)))]) [0, 1, 2] rfl
    have hD9 := hD.sub (ws' := [(q, .inr (2, [.int vc, .int vp, .int vf, .int vk, .int vr, .int vn, .int ve, .int vw, .int (nI (tn + 1)), .ref ql, .ref qk])), (ql, .inl (cI, 8, .inl (upd ld (nI tn).toNatClampNeg a0))), (qk, .inl (cI, 8, .inl (upd kd (nI tn).toNatClampNeg a1)))]) [0, 1, 2] (by decide) rfl
    exact W.vret hx hb hr (fun t ht hW => ⟨⟨((tn + 1), (upd ld (nI tn).toNatClampNeg a0), (upd kd (nI tn).toNatClampNeg a1)), rfl, ⟨mr_t8 c_1 hto, by show 1 ≤ tn + 1; omega⟩, by rw [ht]; exact hP9, va_K.moved hW.alike hK, hD9⟩, hS.F ht⟩) hS.2.2 d_R_tell_39
set_option maxHeartbeats 4000000 in
set_option maxRecDepth 100000 in
theorem mc_M_end (l : Launch) (hlt : l.stackTraces = false) (s0 : State) (dC : Nat → ClassId) (dI : Nat → Nat → Nat) (cI cR cL cZ : ClassId) (r : Nat → Nat) (n : Nat) (nw pb lc : Int32) (fm fi : Nat → Int32) (fr : Nat → Option Nat) (fl fc fg : Nat → Int32) (L : List Nat) (f : Nat → va_E) (sz : Nat) (a0 : Int32) (a1 : Int32) (a2 : Int32) (hR : mr_RI cI n L f fr) : mr_Met l y_M_end [Cond.code y_M_end b_M_end 5 (some .int)] ({ frames := 6, cells := 1, slots := 6, locals := 92 }) (mr_PC s0 (dC, dI) [(cI, .int), (cR, .object "MeasureRows$Row"), (cL, .long), (cZ, .boolean)] [.ref (r 0), .int a0, .int a1, .int a2] ([((r 0), .inr (0, mf_M r (nI n) nw pb lc)), ((r 1), .inr (1, [.ref (r 2), .ref (r 3)])), ((r 2), .inl (cI, 8, .inl fm)), ((r 3), .inl (cI, 8, .inl fi)), ((r 4), .inl (cR, 80, .inr (.inr (.inr (.inr fr))))), ((r 5), .inl (cI, 80, .inl fl)), ((r 6), .inl (cI, 80, .inl fc)), ((r 7), .inl (cI, 8, .inl fg))] ++ va_pl L f) sz) (va_Qi (fun _ _ => True) (fun (u : Int32 × (Nat → va_E)) t => mr_RI cI n L u.2 fr ∧ mr_W (dC, dI) [(cI, .int), (cR, .object "MeasureRows$Row"), (cL, .long), (cZ, .boolean)] (va_A ([((r 0), .inr (0, mf_M r (nI n) nw pb lc)), ((r 1), .inr (1, [.ref (r 2), .ref (r 3)])), ((r 2), .inl (cI, 8, .inl fm)), ((r 3), .inl (cI, 8, .inl fi)), ((r 4), .inl (cR, 80, .inr (.inr (.inr (.inr fr))))), ((r 5), .inl (cI, 80, .inl fl)), ((r 6), .inl (cI, 80, .inl fc)), ((r 7), .inl (cI, 8, .inl fg))] ++ va_pl L f) sz) ([((r 0), .inr (0, mf_M r (nI n) u.1 pb lc)), ((r 1), .inr (1, [.ref (r 2), .ref (r 3)])), ((r 2), .inl (cI, 8, .inl fm)), ((r 3), .inl (cI, 8, .inl fi)), ((r 4), .inl (cR, 80, .inr (.inr (.inr (.inr fr))))), ((r 5), .inl (cI, 80, .inl fl)), ((r 6), .inl (cI, 80, .inl fc)), ((r 7), .inl (cI, 8, .inl fg))] ++ va_pl L u.2) t) (va_A ([((r 0), .inr (0, mf_M r (nI n) nw pb lc)), ((r 1), .inr (1, [.ref (r 2), .ref (r 3)])), ((r 2), .inl (cI, 8, .inl fm)), ((r 3), .inl (cI, 8, .inl fi)), ((r 4), .inl (cR, 80, .inr (.inr (.inr (.inr fr))))), ((r 5), .inl (cI, 80, .inl fl)), ((r 6), .inl (cI, 80, .inl fc)), ((r 7), .inl (cI, 8, .inl fg))] ++ va_pl L f) sz)) (fun E => E = mr_iob ∨ E = mr_iae ∨ E = mr_ise) 1 6 (va_A ([((r 0), .inr (0, mf_M r (nI n) nw pb lc)), ((r 1), .inr (1, [.ref (r 2), .ref (r 3)])), ((r 2), .inl (cI, 8, .inl fm)), ((r 3), .inl (cI, 8, .inl fi)), ((r 4), .inl (cR, 80, .inr (.inr (.inr (.inr fr))))), ((r 5), .inl (cI, 80, .inl fl)), ((r 6), .inl (cI, 80, .inl fc)), ((r 7), .inl (cI, 8, .inl fg))] ++ va_pl L f) sz) := by
  refine mr_of (cc := b_M_end) (maxL := 5) (ret := (some .int)) (by decide) rfl ?_
  intro p e s m args below meth c s₁ B hml hno hv
  obtain ⟨rfl, hsz, hB, hK, hP, hD0⟩ := hv
  subst hsz
  have hA0 := mr_A hB hD0
  have hD := hD0.self (sz := s.heap.size)
  generalize hAe : va_A ([((r 0), .inr (0, mf_M r (nI n) nw pb lc)), ((r 1), .inr (1, [.ref (r 2), .ref (r 3)])), ((r 2), .inl (cI, 8, .inl fm)), ((r 3), .inl (cI, 8, .inl fi)), ((r 4), .inl (cR, 80, .inr (.inr (.inr (.inr fr))))), ((r 5), .inl (cI, 80, .inl fl)), ((r 6), .inl (cI, 80, .inl fc)), ((r 7), .inl (cI, 8, .inl fg))] ++ va_pl L f) s.heap.size = A at hD hA0 ⊢
  have hA : ∀ q : Nat, s.heap.size ≤ q → A q := fun q h => by rw [← hAe]; exact Or.inr h
  have hS : va_S A s.heap s.heap [] := va_S.rf
  have hP : va_P (dC, dI) mr_cl ([((r 0), .inr (0, mf_M r (nI n) nw pb lc)), ((r 1), .inr (1, [.ref (r 2), .ref (r 3)])), ((r 2), .inl (cI, 8, .inl fm)), ((r 3), .inl (cI, 8, .inl fi)), ((r 4), .inl (cR, 80, .inr (.inr (.inr (.inr fr))))), ((r 5), .inl (cI, 80, .inl fl)), ((r 6), .inl (cI, 80, .inl fc)), ((r 7), .inl (cI, 8, .inl fg))] ++ va_pl L f) s.heap := hP
  have hBH := hB.at hS hA0
  have hx := B.exec
  have hb := B.bytes
  have hr := B.returns
  have hlocks := B.notSynchronized
  have hts : ∀ w ∈ lw_tbl, w.before [.ref (r 0), .int a0, .int a1, .int a2].toArray s = true := hB.hts _
  have hown : s.vm.findClass "MeasureRows" = some m.cls := findClass_of_methodNamed B.named
  have hl := lv_entry ([.ref (r 0), .int a0, .int a1, .int a2]) (n := 5) (Nat.le_of_ble_eq_true rfl)
  rw [lg_entry_eq]
  generalize (lg_sl ([.ref (r 0), .int a0, .int a1, .int a2]) ++ List.replicate (5 - (lg_sl ([.ref (r 0), .int a0, .int a1, .int a2])).length) Slot.unset).toArray = ls at hl ⊢
  have hl : lv_has ls 5 [(0, .ref (r 0)), (1, .int a0), (2, .int a1), (3, .int a2)] := hl
  refine lv_aload_n hx hb d_M_end_0 rfl (lv_at hl 0 rfl) ?_
  refine lv_iload_n hx hb d_M_end_1 rfl (lv_at hl 1 rfl) ?_
  refine va_csq (va_Run.run (va_runV (As := [.int a0]) (rest := []) (C := R_M) ⟨hx, hb, hml, hown, hts⟩ (mc_M_find l s0 dC dI cI cR cL cZ r n nw pb lc fr a0 hR.1) ⟨(mr_cB 1 (hts (Cond.code y_M_find b_M_find 2 (some (.object "MeasureRows$Row"))) mw_117) (hts (Cond.initialized y_M_find.cls) mw_118) (hts (Cond.methodLink "MeasureRows" 111 y_M_find) mw_119) rfl rfl (by decide +kernel) ⟨Nat.le_of_ble_eq_true rfl, Nat.le_of_ble_eq_true rfl⟩), (hts (Cond.instanceMethod y_M_find) mw_120), (hts (Cond.selects "MeasureRows" y_M_find y_M_find) mw_121)⟩ (mr_preV hBH hK (hP.sub (ws' := [((r 0), .inr (0, mf_M r (nI n) nw pb lc)), ((r 4), .inl (cR, 80, .inr (.inr (.inr (.inr fr)))))]) [0, 4] rfl) (ci := 0) (q0 := 0) rfl rfl) rfl rfl hl.1 rfl (lv_room (Nat.le_of_ble_eq_true rfl)) d_M_end_2 ⟨Nat.le_of_ble_eq_true rfl, Nat.le_of_ble_eq_true rfl⟩)) (fun r_1 h_2 => ?_)
  subst h_2
  rcases mr_fc hR a0 with hf_6 | ⟨i_6, hi_6, hxe_6, a_6, ql_6, qk_6, v0_6, v1_6, v2_6, v4_6, v5_6, v6_6, v7_6, k_6, t_6, ld_6, kd_6, hf_6, hfi_6, m1_6, m2_6, m3_6, e1_6, e2_6, e3_6, hk_6, ht_6, ho_6, hne_6⟩
  · refine mr_topv (show va_rf (mv_M_find n fr a0) = .null by rw [hf_6]; rfl) ?_
    refine lv_astoreN (lv' := [(4, .null), (0, .ref (r 0)), (1, .int a0), (2, .int a1), (3, .int a2)]) hx hb d_M_end_5 hl (by decide) rfl (fun ls hl => ?_)
    refine lv_aloadN hx hb d_M_end_7 (lv_at hl 0 rfl) ?_
    refine lv_ifnonnullN hx hb d_M_end_9 ?_
    obtain ⟨sa, hstr⟩ := mr_str (hts (Cond.stringRef "MeasureRows" 121 "no such row") mw_146) hown
    exact mr_throw (names := mr_up) hx hb hlt hown (by decide +kernel) (by decide +kernel) (hts (Cond.classLink "MeasureRows" 56 mr_iob) mw_129) (hts (Cond.initialized mr_iob) mw_130) hstr (hB.own _ mr_a_iob) (hl.1.trans hml.symm) d_M_end_12 d_M_end_15 d_M_end_16 d_M_end_18 d_M_end_21 hno (Nat.le_of_ble_eq_true rfl) (Nat.le_of_ble_eq_true rfl) (Nat.le_of_ble_eq_true rfl) (Nat.le_of_ble_eq_true rfl) hlocks (Or.inl rfl) (Nat.le_of_ble_eq_true rfl) (Nat.le_of_ble_eq_true rfl)
  · refine mr_topv (show va_rf (mv_M_find n fr a0) = .ref a_6 by rw [hf_6]; rfl) ?_
    have hPr_6 := mr_row3 (X := [((r 0), .inr (0, mf_M r (nI n) nw pb lc)), ((r 1), .inr (1, [.ref (r 2), .ref (r 3)])), ((r 2), .inl (cI, 8, .inl fm)), ((r 3), .inl (cI, 8, .inl fi)), ((r 4), .inl (cR, 80, .inr (.inr (.inr (.inr fr))))), ((r 5), .inl (cI, 80, .inl fl)), ((r 6), .inl (cI, 80, .inl fc)), ((r 7), .inl (cI, 8, .inl fg))]) hP m1_6 m2_6 m3_6 e1_6 e2_6 e3_6
    refine lv_astore (lv' := [(4, .ref a_6), (0, .ref (r 0)), (1, .int a0), (2, .int a1), (3, .int a2)]) hx hb d_M_end_5 hl (by decide) rfl (fun ls hl => ?_)
    refine lv_aload hx hb d_M_end_7 (lv_at hl 0 rfl) ?_
    refine lv_ifnonnull (tgt := 22) hx hb d_M_end_9 (by decide) ?_
    refine lv_iload_n hx hb d_M_end_22 rfl (lv_at hl 3 rfl) ?_
    refine vp_callSi (va_Run.run (va_runS (As := [.int a1]) (rest := []) ⟨hx, hb, hml, hown, hts⟩ (mc_M_isLastDay l s0 a1) ⟨(mr_cB 1 (hts (Cond.code y_M_isLastDay b_M_isLastDay 1 (some .boolean)) mw_184) (hts (Cond.initialized y_M_isLastDay.cls) mw_185) (hts (Cond.methodLink "MeasureRows" 86 y_M_isLastDay) mw_186) rfl rfl (by decide +kernel) ⟨Nat.le_of_ble_eq_true rfl, Nat.le_of_ble_eq_true rfl⟩), (hts (Cond.static y_M_isLastDay) mw_187)⟩ (mr_pre0 hBH) rfl rfl hl.1 rfl (lv_room (Nat.le_of_ble_eq_true rfl)) d_M_end_23 ⟨Nat.le_of_ble_eq_true rfl, Nat.le_of_ble_eq_true rfl⟩)) (fun r_3 h_4 => ?_)
    subst h_4
    refine lv_if_eq (tgt := 36) hx hb d_M_end_26 (by decide) (fun c_5 => ?_) (fun c_5 => ?_)
    · obtain ⟨sa, hstr⟩ := mr_str (hts (Cond.stringRef "MeasureRows" 89 "no such days") mw_138) hown
      exact mr_throw (names := mr_up) hx hb hlt hown (by decide +kernel) (by decide +kernel) (hts (Cond.classLink "MeasureRows" 78 mr_iae) mw_139) (hts (Cond.initialized mr_iae) mw_140) hstr (hB.own _ mr_a_iae) (hl.1.trans hml.symm) d_M_end_36 d_M_end_39 d_M_end_40 d_M_end_42 d_M_end_45 hno (Nat.le_of_ble_eq_true rfl) (Nat.le_of_ble_eq_true rfl) (Nat.le_of_ble_eq_true rfl) (Nat.le_of_ble_eq_true rfl) hlocks (Or.inr (Or.inl rfl)) (Nat.le_of_ble_eq_true rfl) (Nat.le_of_ble_eq_true rfl)
    · refine lv_iload_n hx hb d_M_end_29 rfl (lv_at hl 4 rfl) ?_
      refine vp_callSi (va_Run.run (va_runS (As := [.int a2]) (rest := []) ⟨hx, hb, hml, hown, hts⟩ (mc_M_isDay l s0 a2) ⟨(mr_cB 1 (hts (Cond.code y_M_isDay b_M_isDay 1 (some .boolean)) mw_9) (hts (Cond.initialized y_M_isDay.cls) mw_10) (hts (Cond.methodLink "MeasureRows" 83 y_M_isDay) mw_11) rfl rfl (by decide +kernel) ⟨Nat.le_of_ble_eq_true rfl, Nat.le_of_ble_eq_true rfl⟩), (hts (Cond.static y_M_isDay) mw_12)⟩ (mr_pre0 hBH) rfl rfl hl.1 rfl (lv_room (Nat.le_of_ble_eq_true rfl)) d_M_end_30 ⟨Nat.le_of_ble_eq_true rfl, Nat.le_of_ble_eq_true rfl⟩)) (fun r_6 h_7 => ?_)
      subst h_7
      refine lv_if_ne (tgt := 46) hx hb d_M_end_33 (by decide) (fun c_8 => ?_) (fun c_8 => ?_)
      · refine lv_aload hx hb d_M_end_46 (lv_at hl 0 rfl) ?_
        refine va_get (D := (dC, dI)) (ci := 2) (v := .int (nI t_6)) (C := R_R) (T := T_R) (N := 11) hx hb hts ti_R hown hK hPr_6 0 rfl rfl 8 (by decide) (hts (Cond.fieldLink "MeasureRows" 123 "MeasureRows$Row" "told" "I") mw_154) (fun _ h9 => h9) rfl d_M_end_48 ?_
        refine lv_bipush (v := 8) hx hb d_M_end_51 (by decide) ?_
        refine lv_icmp_lt (tgt := 66) hx hb d_M_end_53 (by decide) (fun c_9 => ?_) (fun c_9 => ?_)
        · refine lv_iload_n hx hb d_M_end_66 rfl (lv_at hl 3 rfl) ?_
          refine lv_aload hx hb d_M_end_67 (lv_at hl 0 rfl) ?_
          refine va_get (D := (dC, dI)) (ci := 2) (v := .int v2_6) (C := R_R) (T := T_R) (N := 11) hx hb hts ti_R hown hK hPr_6 0 rfl rfl 2 (by decide) (hts (Cond.fieldLink "MeasureRows" 128 "MeasureRows$Row" "first" "I") mw_149) (fun _ h9 => h9) rfl d_M_end_69 ?_
          refine lv_icmp_ge (tgt := 77) hx hb d_M_end_72 (by decide) (fun c_10 => ?_) (fun c_10 => ?_)
          · refine lv_aload hx hb d_M_end_77 (lv_at hl 0 rfl) ?_
            refine lv_iload_n hx hb d_M_end_79 rfl (lv_at hl 3 rfl) ?_
            refine lv_iload_n hx hb d_M_end_80 rfl (lv_at hl 4 rfl) ?_
            have hPc := hPr_6.sub (ws' := [(a_6, .inr (2, [.int v0_6, .int v1_6, .int v2_6, .int (nI k_6), .int v4_6, .int v5_6, .int v6_6, .int v7_6, .int (nI t_6), .ref ql_6, .ref qk_6])), (ql_6, .inl (cI, 8, .inl ld_6)), (qk_6, .inl (cI, 8, .inl kd_6))]) [0, 1, 2] rfl
            have hin9 := mr_in3 (L := L) (e1 := .inr (2, [.int v0_6, .int v1_6, .int v2_6, .int (nI k_6), .int v4_6, .int v5_6, .int v6_6, .int v7_6, .int (nI t_6), .ref ql_6, .ref qk_6])) (e2 := .inl (cI, 8, .inl ld_6)) (e3 := .inl (cI, 8, .inl kd_6)) m1_6 m2_6 m3_6
            have hDc : va_D A [(a_6, .inr (2, [.int v0_6, .int v1_6, .int v2_6, .int (nI k_6), .int v4_6, .int v5_6, .int v6_6, .int v7_6, .int (nI t_6), .ref ql_6, .ref qk_6])), (ql_6, .inl (cI, 8, .inl ld_6)), (qk_6, .inl (cI, 8, .inl kd_6))] := mr_D3 (mr_plA (X := [((r 0), .inr (0, mf_M r (nI n) nw pb lc)), ((r 1), .inr (1, [.ref (r 2), .ref (r 3)])), ((r 2), .inl (cI, 8, .inl fm)), ((r 3), .inl (cI, 8, .inl fi)), ((r 4), .inl (cR, 80, .inr (.inr (.inr (.inr fr))))), ((r 5), .inl (cI, 80, .inl fl)), ((r 6), .inl (cI, 80, .inl fc)), ((r 7), .inl (cI, 8, .inl fg))]) hD m1_6) (mr_plA (X := [((r 0), .inr (0, mf_M r (nI n) nw pb lc)), ((r 1), .inr (1, [.ref (r 2), .ref (r 3)])), ((r 2), .inl (cI, 8, .inl fm)), ((r 3), .inl (cI, 8, .inl fi)), ((r 4), .inl (cR, 80, .inr (.inr (.inr (.inr fr))))), ((r 5), .inl (cI, 80, .inl fl)), ((r 6), .inl (cI, 80, .inl fc)), ((r 7), .inl (cI, 8, .inl fg))]) hD m2_6) (mr_plA (X := [((r 0), .inr (0, mf_M r (nI n) nw pb lc)), ((r 1), .inr (1, [.ref (r 2), .ref (r 3)])), ((r 2), .inl (cI, 8, .inl fm)), ((r 3), .inl (cI, 8, .inl fi)), ((r 4), .inl (cR, 80, .inr (.inr (.inr (.inr fr))))), ((r 5), .inl (cI, 80, .inl fl)), ((r 6), .inl (cI, 80, .inl fc)), ((r 7), .inl (cI, 8, .inl fg))]) hD m3_6) (mr_ne3 e1_6 e2_6 e3_6 hne_6)
            have hFc := mr_plfree (X := [((r 0), .inr (0, mf_M r (nI n) nw pb lc)), ((r 1), .inr (1, [.ref (r 2), .ref (r 3)])), ((r 2), .inl (cI, 8, .inl fm)), ((r 3), .inl (cI, 8, .inl fi)), ((r 4), .inl (cR, 80, .inr (.inr (.inr (.inr fr))))), ((r 5), .inl (cI, 80, .inl fl)), ((r 6), .inl (cI, 80, .inl fc)), ((r 7), .inl (cI, 8, .inl fg))]) (wc := [(a_6, .inr (2, [.int v0_6, .int v1_6, .int v2_6, .int (nI k_6), .int v4_6, .int v5_6, .int v6_6, .int v7_6, .int (nI t_6), .ref ql_6, .ref qk_6])), (ql_6, .inl (cI, 8, .inl ld_6)), (qk_6, .inl (cI, 8, .inl kd_6))]) hD hS hA hin9
            refine va_callv (va_runV (As := [.int a1, .int a2]) (rest := []) (C := R_R) ⟨hx, hb, hml, hown, hts⟩ (mc_R_tell l s0 dC dI cI cR cL cZ a_6 ql_6 qk_6 v0_6 v1_6 v2_6 (nI k_6) v4_6 v5_6 v6_6 v7_6 t_6 ld_6 kd_6 _ a1 a2 ht_6 ho_6) ⟨(mr_cB 2 (hts (Cond.code y_R_tell b_R_tell 3 none) mw_188) (hts (Cond.initialized y_R_tell.cls) mw_189) (hts (Cond.methodLink "MeasureRows" 131 y_R_tell) mw_190) rfl rfl (by decide +kernel) ⟨Nat.le_of_ble_eq_true rfl, Nat.le_of_ble_eq_true rfl⟩), (hts (Cond.instanceMethod y_R_tell) mw_191), (hts (Cond.selects "MeasureRows$Row" y_R_tell y_R_tell) mw_192)⟩ (mr_preCV hBH hK hPc (hDc.weaken (fun _ _ _ h => hA0 _ h)) (ci := 2) (q0 := 0) rfl rfl) rfl rfl hl.1 rfl (lv_room (Nat.le_of_ble_eq_true rfl)) d_M_end_81 ⟨Nat.le_of_ble_eq_true rfl, Nat.le_of_ble_eq_true rfl⟩) hS (fun q _ h => hFc q h) hFc (fun u_12 t9 H1 locs ht9 hvm hw hB1 hz1 hk1 hS => ?_)
            obtain ⟨tt_13, lb_14, kb_15⟩ := u_12
            obtain ⟨hP1, hK1, hD1⟩ := hB1
            rw [ht9] at hP1
            have hn3 := mr_ne3 e1_6 e2_6 e3_6 hne_6
            obtain ⟨hP, hD⟩ := mr_plset (X := [((r 0), .inr (0, mf_M r (nI n) nw pb lc)), ((r 1), .inr (1, [.ref (r 2), .ref (r 3)])), ((r 2), .inl (cI, 8, .inl fm)), ((r 3), .inl (cI, 8, .inl fi)), ((r 4), .inl (cR, 80, .inr (.inr (.inr (.inr fr))))), ((r 5), .inl (cI, 80, .inl fl)), ((r 6), .inl (cI, 80, .inl fc)), ((r 7), .inl (cI, 8, .inl fg))]) (f' := va_up (va_up (va_up f a_6 (.inr (2, [.int v0_6, .int v1_6, .int v2_6, .int (nI k_6), .int v4_6, .int v5_6, .int v6_6, .int v7_6, .int (nI tt_13), .ref ql_6, .ref qk_6]))) ql_6 (.inl (cI, 8, .inl lb_14))) qk_6 (.inl (cI, 8, .inl kb_15))) hP hD hin9 hk1 (mr_new3 hP1 hn3) mr_old3
            have hR := mr_upR (w0 := v0_6) (w1 := v1_6) (w2 := v2_6) (w4 := v4_6) (w5 := v5_6) (w6 := v6_6) (w7 := v7_6) hR e1_6 m2_6 m3_6 e2_6 e3_6 hk_6 hw.1 hw.2 hne_6
            have hR := mr_upA (b := ql_6) (g0 := ld_6) (g1 := lb_14) hR (by simp [va_up, hn3.1.symm, e2_6])
            have hR := mr_upA (b := qk_6) (g0 := kd_6) (g1 := kb_15) hR (by simp [va_up, hn3.2.1.symm, hn3.2.2.symm, e3_6])
            have e1_6 : (va_up (va_up (va_up f a_6 (.inr (2, [.int v0_6, .int v1_6, .int v2_6, .int (nI k_6), .int v4_6, .int v5_6, .int v6_6, .int v7_6, .int (nI tt_13), .ref ql_6, .ref qk_6]))) ql_6 (.inl (cI, 8, .inl lb_14))) qk_6 (.inl (cI, 8, .inl kb_15))) a_6 = .inr (2, [.int v0_6, .int v1_6, .int v2_6, .int (nI k_6), .int v4_6, .int v5_6, .int v6_6, .int v7_6, .int (nI tt_13), .ref ql_6, .ref qk_6]) := by simp [va_up, hn3.1, hn3.2.1]
            have e2_6 : (va_up (va_up (va_up f a_6 (.inr (2, [.int v0_6, .int v1_6, .int v2_6, .int (nI k_6), .int v4_6, .int v5_6, .int v6_6, .int v7_6, .int (nI tt_13), .ref ql_6, .ref qk_6]))) ql_6 (.inl (cI, 8, .inl lb_14))) qk_6 (.inl (cI, 8, .inl kb_15))) ql_6 = .inl (cI, 8, .inl lb_14) := by simp [va_up, hn3.2.2]
            have e3_6 : (va_up (va_up (va_up f a_6 (.inr (2, [.int v0_6, .int v1_6, .int v2_6, .int (nI k_6), .int v4_6, .int v5_6, .int v6_6, .int v7_6, .int (nI tt_13), .ref ql_6, .ref qk_6]))) ql_6 (.inl (cI, 8, .inl lb_14))) qk_6 (.inl (cI, 8, .inl kb_15))) qk_6 = .inl (cI, 8, .inl kb_15) := by simp [va_up]
            clear hK1 hk1 hPc hDc hFc hin9
            generalize va_up (va_up (va_up f a_6 (.inr (2, [.int v0_6, .int v1_6, .int v2_6, .int (nI k_6), .int v4_6, .int v5_6, .int v6_6, .int v7_6, .int (nI tt_13), .ref ql_6, .ref qk_6]))) ql_6 (.inl (cI, 8, .inl lb_14))) qk_6 (.inl (cI, 8, .inl kb_15)) = f at hP hD hR e1_6 e2_6 e3_6
            generalize H1 = H at hP hS ⊢
            have hP : va_P (dC, dI) mr_cl ([((r 0), .inr (0, mf_M r (nI n) nw pb lc)), ((r 1), .inr (1, [.ref (r 2), .ref (r 3)])), ((r 2), .inl (cI, 8, .inl fm)), ((r 3), .inl (cI, 8, .inl fi)), ((r 4), .inl (cR, 80, .inr (.inr (.inr (.inr fr))))), ((r 5), .inl (cI, 80, .inl fl)), ((r 6), .inl (cI, 80, .inl fc)), ((r 7), .inl (cI, 8, .inl fg))] ++ va_pl L f) H := hP
            have hD : va_D A ([((r 0), .inr (0, mf_M r (nI n) nw pb lc)), ((r 1), .inr (1, [.ref (r 2), .ref (r 3)])), ((r 2), .inl (cI, 8, .inl fm)), ((r 3), .inl (cI, 8, .inl fi)), ((r 4), .inl (cR, 80, .inr (.inr (.inr (.inr fr))))), ((r 5), .inl (cI, 80, .inl fl)), ((r 6), .inl (cI, 80, .inl fc)), ((r 7), .inl (cI, 8, .inl fg))] ++ va_pl L f) := hD
            have hBH := hB.at hS hA0
            have hPr_6 := mr_row3 (X := [((r 0), .inr (0, mf_M r (nI n) nw pb lc)), ((r 1), .inr (1, [.ref (r 2), .ref (r 3)])), ((r 2), .inl (cI, 8, .inl fm)), ((r 3), .inl (cI, 8, .inl fi)), ((r 4), .inl (cR, 80, .inr (.inr (.inr (.inr fr))))), ((r 5), .inl (cI, 80, .inl fl)), ((r 6), .inl (cI, 80, .inl fc)), ((r 7), .inl (cI, 8, .inl fg))]) hP m1_6 m2_6 m3_6 e1_6 e2_6 e3_6
            refine lv_aload_n hx hb d_M_end_84 rfl (lv_at hl 1 rfl) ?_
            refine lv_aload_n hx hb d_M_end_85 rfl (lv_at hl 1 rfl) ?_
            refine va_get (D := (dC, dI)) (ci := 0) (v := .int nw) (C := R_M) (T := T_M) (N := 9) hx hb hts ti_M hown hK hP 0 rfl rfl 3 (by decide) (hts (Cond.fieldLink "MeasureRows" 26 "MeasureRows" "now" "I") mw_58) (fun _ h9 => h9) rfl d_M_end_86 ?_
            refine lv_iload_n hx hb d_M_end_89 rfl (lv_at hl 4 rfl) ?_
            refine va_mmax hx hb (hml.trans hl.1.symm) hown (hts (Cond.methodLink "MeasureRows" 105 Lib.Math.max.name) mw_193) (hts (Cond.static Lib.Math.max.name) mw_194) (hts (Cond.initialized "java/lang/Math") mw_195) (hts (Cond.code Lib.Math.max.name Lib.Math.max.code 2 (some .int)) mw_196) (Nat.le_of_ble_eq_true rfl) (Nat.le_of_ble_eq_true rfl) (Nat.le_of_ble_eq_true rfl) (Nat.le_of_ble_eq_true rfl) d_M_end_90 ?_
            refine va_put (D := (dC, dI)) (ci := 0) (v := .int (if nw < a2 then a2 else nw)) (ty := .int) (C := R_M) (T := T_M) (N := 9) hx hb hts ti_M t_M to_M tn_M hown hK hP hD hS 0 rfl rfl 3 (by decide) (hts (Cond.fieldLink "MeasureRows" 26 "MeasureRows" "now" "I") mw_58) (fun _ h9 => h9) rfl (by decide +kernel) rfl rfl (Nat.le_of_ble_eq_true rfl) d_M_end_93 (fun H locs hP hD hS => ?_)
            have hP : va_P (dC, dI) mr_cl ([((r 0), .inr (0, mf_M r (nI n) (if nw < a2 then a2 else nw) pb lc)), ((r 1), .inr (1, [.ref (r 2), .ref (r 3)])), ((r 2), .inl (cI, 8, .inl fm)), ((r 3), .inl (cI, 8, .inl fi)), ((r 4), .inl (cR, 80, .inr (.inr (.inr (.inr fr))))), ((r 5), .inl (cI, 80, .inl fl)), ((r 6), .inl (cI, 80, .inl fc)), ((r 7), .inl (cI, 8, .inl fg))] ++ va_pl L f) H := hP
            have hD : va_D A ([((r 0), .inr (0, mf_M r (nI n) (if nw < a2 then a2 else nw) pb lc)), ((r 1), .inr (1, [.ref (r 2), .ref (r 3)])), ((r 2), .inl (cI, 8, .inl fm)), ((r 3), .inl (cI, 8, .inl fi)), ((r 4), .inl (cR, 80, .inr (.inr (.inr (.inr fr))))), ((r 5), .inl (cI, 80, .inl fl)), ((r 6), .inl (cI, 80, .inl fc)), ((r 7), .inl (cI, 8, .inl fg))] ++ va_pl L f) := hD
            have hBH := hB.at hS hA0
            have hPr_6 := mr_row3 (X := [((r 0), .inr (0, mf_M r (nI n) (if nw < a2 then a2 else nw) pb lc)), ((r 1), .inr (1, [.ref (r 2), .ref (r 3)])), ((r 2), .inl (cI, 8, .inl fm)), ((r 3), .inl (cI, 8, .inl fi)), ((r 4), .inl (cR, 80, .inr (.inr (.inr (.inr fr))))), ((r 5), .inl (cI, 80, .inl fl)), ((r 6), .inl (cI, 80, .inl fc)), ((r 7), .inl (cI, 8, .inl fg))]) hP m1_6 m2_6 m3_6 e1_6 e2_6 e3_6
            refine lv_aload hx hb d_M_end_96 (lv_at hl 0 rfl) ?_
            refine va_get (D := (dC, dI)) (ci := 2) (v := .int (nI tt_13)) (C := R_R) (T := T_R) (N := 11) hx hb hts ti_R hown hK hPr_6 0 rfl rfl 8 (by decide) (hts (Cond.fieldLink "MeasureRows" 123 "MeasureRows$Row" "told" "I") mw_154) (fun _ h9 => h9) rfl d_M_end_98 ?_
            have hP9 := hP
            have hD9 := hD
            refine mr_ret ?_
            refine W.widen (k := 1) (n := 6) (by omega) (by omega) ?_
            exact W.iret (v := nI tt_13) hx hb hr (fun t ht hW => ⟨⟨_, ((if nw < a2 then a2 else nw), f), rfl, trivial, hR, by rw [ht]; exact hP9, va_K.moved hW.alike hK, hD9⟩, hS.F ht⟩) hS.2.2 d_M_end_101
          · refine lv_iconst (v := 0) hx hb d_M_end_75 (by decide) ?_
            have hP9 := hP
            have hD9 := hD
            refine mr_ret ?_
            refine W.widen (k := 1) (n := 6) (by omega) (by omega) ?_
            exact W.iret (v := 0) hx hb hr (fun t ht hW => ⟨⟨_, (nw, f), rfl, trivial, hR, by rw [ht]; exact hP9, va_K.moved hW.alike hK, hD9⟩, hS.F ht⟩) hS.2.2 d_M_end_76
        · obtain ⟨sa, hstr⟩ := mr_str (hts (Cond.stringRef "MeasureRows" 126 "no room for another last day") mw_197) hown
          exact mr_throw (names := mr_up) hx hb hlt hown (by decide +kernel) (by decide +kernel) (hts (Cond.classLink "MeasureRows" 93 mr_ise) mw_198) (hts (Cond.initialized mr_ise) mw_199) hstr (hB.own _ mr_a_ise) (hl.1.trans hml.symm) d_M_end_56 d_M_end_59 d_M_end_60 d_M_end_62 d_M_end_65 hno (Nat.le_of_ble_eq_true rfl) (Nat.le_of_ble_eq_true rfl) (Nat.le_of_ble_eq_true rfl) (Nat.le_of_ble_eq_true rfl) hlocks (Or.inr (Or.inr rfl)) (Nat.le_of_ble_eq_true rfl) (Nat.le_of_ble_eq_true rfl)
      · obtain ⟨sa, hstr⟩ := mr_str (hts (Cond.stringRef "MeasureRows" 89 "no such days") mw_138) hown
        exact mr_throw (names := mr_up) hx hb hlt hown (by decide +kernel) (by decide +kernel) (hts (Cond.classLink "MeasureRows" 78 mr_iae) mw_139) (hts (Cond.initialized mr_iae) mw_140) hstr (hB.own _ mr_a_iae) (hl.1.trans hml.symm) d_M_end_36 d_M_end_39 d_M_end_40 d_M_end_42 d_M_end_45 hno (Nat.le_of_ble_eq_true rfl) (Nat.le_of_ble_eq_true rfl) (Nat.le_of_ble_eq_true rfl) (Nat.le_of_ble_eq_true rfl) hlocks (Or.inr (Or.inl rfl)) (Nat.le_of_ble_eq_true rfl) (Nat.le_of_ble_eq_true rfl)
