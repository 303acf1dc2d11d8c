section TL
variable {cI : ClassId} {f : Nat → va_E} {n i i' t k a ql qk : Nat} {nw x y : Int32} {fco fla ffi fki fra fkn cls cpa fe fa fk ld kd : Nat → Int32}
theorem mr_tl8 (hN : mr_NX n nw fco fki fra fkn fe fk) (h1 : 1 ≤ i') (h2 : i' ≤ n) (h : i' ≠ i) (ht : t < 8) : ∀ j, j < (fe i').toNatClampNeg → upd fa (8 * i + t) x (8 * i' + j) = fa (8 * i' + j) ∧ upd fk (8 * i + t) y (8 * i' + j) = fk (8 * i' + j) := fun j hj => by
  obtain ⟨⟨t', e, -, t8, -⟩, -⟩ := hN.2 i' h1 h2
  rw [e, nI_clamp (by omega)] at hj
  have hne : 8 * i' + j ≠ 8 * i + t := by omega
  simp [upd, hne]
theorem mr_row1t (hn3 : a ≠ ql ∧ a ≠ qk ∧ ql ≠ qk) (hke : fki i = nI k) (ht : t < 8) (hld : ∀ j, j < t → ld j = fa (8 * i + j) ∧ kd j = fk (8 * i + j)) :
    mr_row1 cI (va_up (va_up (va_up f a (.inr (2, [.int (fco i), .int (fla i), .int (ffi i), .int (nI k), .int (fra i), .int (fkn i), .int (cls i), .int (cpa i), .int (nI (t + 1)), .ref ql, .ref qk]))) ql (.inl (cI, 8, .inl (upd ld t x)))) qk (.inl (cI, 8, .inl (upd kd t y)))) a ql qk fco fla ffi fki fra fkn cls cpa (upd fe i (nI (t + 1))) (upd fa (8 * i + t) x) (upd fk (8 * i + t) y) i := by
  refine ⟨by rw [hke]; simp [va_up, upd, hn3.1, hn3.2.1], upd ld t x, upd kd t y, by simp [va_up, hn3.2.2], by simp [va_up], fun j hj => ?_⟩
  have e : upd fe i (nI (t + 1)) i = nI (t + 1) := by simp [upd]
  rw [e, nI_clamp (by omega)] at hj
  by_cases h : j = t
  · subst h; simp [upd]
  · have h1 : 8 * i + j ≠ 8 * i + t := by omega
    have := hld j (by omega)
    simp [upd, h, h1, this]
end TL
def mk_M_end_y (fe : Nat → Int32) (i : Nat) (a1 a2 : Int32) : Int32 := if (mv_M_isLastDay a1) = 0 then 2 else if (mv_M_isDay a2) = 0 then 2 else if fe i < 8 then 0 else 3
def mv_M_end_y (ffi fe : Nat → Int32) (i : Nat) (a1 : Int32) : Int32 := if ffi i ≤ a1 then fe i + 1 else 0
def mN_M_end_nw (ffi : Nat → Int32) (nw : Int32) (i : Nat) (a1 a2 : Int32) : Int32 := if ffi i ≤ a1 then (if nw < a2 then a2 else nw) else nw
def mN_M_end_fe (ffi fe : Nat → Int32) (i : Nat) (a1 : Int32) : Nat → Int32 := if ffi i ≤ a1 then upd fe i (fe i + 1) else fe
def mN_M_end_fa (ffi fe fa : Nat → Int32) (i : Nat) (a1 : Int32) : Nat → Int32 := if ffi i ≤ a1 then upd fa (8 * i + (fe i).toNatClampNeg) a1 else fa
def mN_M_end_fk (ffi fe fk : Nat → Int32) (i : Nat) (a1 a2 : Int32) : Nat → Int32 := if ffi i ≤ a1 then upd fk (8 * i + (fe i).toNatClampNeg) a2 else fk

set_option maxHeartbeats 4000000 in
set_option maxRecDepth 100000 in
theorem mc_R_tellX (l : Launch) (s0 : State) (dC : Nat → ClassId) (dI : Nat → Nat → Nat) (cI cR cL cZ : ClassId) (q ql qk : Nat) (vc vp vf vk vr vn ve vw : Int32) (tn : Nat) (ld kd : Nat → Int32) (sz : Nat) (a0 : Int32) (a1 : Int32) (hto : tn < 8) : Met l y_R_tell [Cond.code y_R_tell b_R_tell 3 none] ({ frames := 0, cells := 0, slots := 0, locals := 0 }) (mr_PC s0 (dC, dI) [(cI, .int), (cR, .object "MeasureRows$Row"), (cL, .long), (cZ, .boolean)] [.ref q, .int a0, .int a1] [(q, .inr (2, [.int vc, .int vp, .int vf, .int vk, .int vr, .int vn, .int ve, .int vw, .int (nI tn), .ref ql, .ref qk])), (ql, .inl (cI, 8, .inl ld)), (qk, .inl (cI, 8, .inl kd))] sz) (va_Qv (fun u => u.1 = tn + 1 ∧ u.2.1 = upd ld tn a0 ∧ u.2.2 = upd kd tn a1) (fun (u : Nat × (Nat → Int32) × (Nat → Int32)) t => mr_W (dC, dI) [(cI, .int), (cR, .object "MeasureRows$Row"), (cL, .long), (cZ, .boolean)] (va_A [(q, .inr (2, [.int vc, .int vp, .int vf, .int vk, .int vr, .int vn, .int ve, .int vw, .int (nI tn), .ref ql, .ref qk])), (ql, .inl (cI, 8, .inl ld)), (qk, .inl (cI, 8, .inl kd))] sz) [(q, .inr (2, [.int vc, .int vp, .int vf, .int vk, .int vr, .int vn, .int ve, .int vw, .int (nI u.1), .ref ql, .ref qk])), (ql, .inl (cI, 8, .inl u.2.1)), (qk, .inl (cI, 8, .inl u.2.2))] t) (va_A [(q, .inr (2, [.int vc, .int vp, .int vf, .int vk, .int vr, .int vn, .int ve, .int vw, .int (nI tn), .ref ql, .ref qk])), (ql, .inl (cI, 8, .inl ld)), (qk, .inl (cI, 8, .inl kd))] sz)) 0 0 (va_A [(q, .inr (2, [.int vc, .int vp, .int vf, .int vk, .int vr, .int vn, .int ve, .int vw, .int (nI tn), .ref ql, .ref qk])), (ql, .inl (cI, 8, .inl ld)), (qk, .inl (cI, 8, .inl kd))] sz) := by
  refine Met.ofW (cc := b_R_tell) (maxL := 3) (ret := none) (by decide) rfl ?_
  intro p e s m args below meth c s₁ B hml hv
  obtain ⟨rfl, hsz, hB, hK, hP, hD0⟩ := hv
  subst hsz
  have hA0 := mr_A hB hD0
  have hD := hD0.self (sz := s.heap.size)
  generalize hAe : va_A [(q, .inr (2, [.int vc, .int vp, .int vf, .int vk, .int vr, .int vn, .int ve, .int vw, .int (nI tn), .ref ql, .ref qk])), (ql, .inl (cI, 8, .inl ld)), (qk, .inl (cI, 8, .inl kd))] s.heap.size = A at hD hA0 ⊢
  have hA : ∀ q : Nat, s.heap.size ≤ q → A q := fun q h => by rw [← hAe]; exact Or.inr h
  have hS : va_S A s.heap s.heap [] := va_S.rf
  have hP : va_P (dC, dI) mr_cl [(q, .inr (2, [.int vc, .int vp, .int vf, .int vk, .int vr, .int vn, .int ve, .int vw, .int (nI tn), .ref ql, .ref qk])), (ql, .inl (cI, 8, .inl ld)), (qk, .inl (cI, 8, .inl kd))] s.heap := hP
  have hBH := hB.at hS hA0
  have hx := B.exec
  have hb := B.bytes
  have hr := B.returns
  have hlocks := B.notSynchronized
  have hts : ∀ w ∈ lw_tbl, w.before [.ref q, .int a0, .int a1].toArray s = true := hB.hts _
  have hown : s.vm.findClass "MeasureRows$Row" = some m.cls := findClass_of_methodNamed B.named
  have hl := lv_entry ([.ref q, .int a0, .int a1]) (n := 3) (Nat.le_of_ble_eq_true rfl)
  rw [lg_entry_eq]
  generalize (lg_sl ([.ref q, .int a0, .int a1]) ++ List.replicate (3 - (lg_sl ([.ref q, .int a0, .int a1])).length) Slot.unset).toArray = ls at hl ⊢
  have hl : lv_has ls 3 [(0, .ref q), (1, .int a0), (2, .int a1)] := hl
  refine lv_aload_n hx hb d_R_tell_0 rfl (lv_at hl 0 rfl) ?_
  refine va_get (D := (dC, dI)) (ci := 2) (v := .int (nI tn)) (C := R_R) (T := T_R) (N := 11) hx hb hts ti_R hown hK hP 0 rfl rfl 8 (by decide) (hts (Cond.fieldLink "MeasureRows$Row" 43 "MeasureRows$Row" "told" "I") mw_75) (fun _ h9 => h9) rfl d_R_tell_1 ?_
  refine lv_bipush (v := 8) hx hb d_R_tell_4 (by decide) ?_
  refine lv_icmp_ge (tgt := 39) hx hb d_R_tell_6 (by decide) (fun c_1 => absurd c_1 (nI_ge (b := 8) hto (by decide))) (fun _ => ?_)
  refine lv_aload_n hx hb d_R_tell_9 rfl (lv_at hl 0 rfl) ?_
  refine va_get (D := (dC, dI)) (ci := 2) (v := .ref ql) (C := R_R) (T := T_R) (N := 11) hx hb hts ti_R hown hK hP 0 rfl rfl 9 (by decide) (hts (Cond.fieldLink "MeasureRows$Row" 36 "MeasureRows$Row" "lastDays" "[I") mw_73) (fun _ h9 => h9) rfl d_R_tell_10 ?_
  refine lv_aload_n hx hb d_R_tell_13 rfl (lv_at hl 0 rfl) ?_
  refine va_get (D := (dC, dI)) (ci := 2) (v := .int (nI tn)) (C := R_R) (T := T_R) (N := 11) hx hb hts ti_R hown hK hP 0 rfl rfl 8 (by decide) (hts (Cond.fieldLink "MeasureRows$Row" 43 "MeasureRows$Row" "told" "I") mw_75) (fun _ h9 => h9) rfl d_R_tell_14 ?_
  refine lv_iload_n hx hb d_R_tell_17 rfl (lv_at hl 1 rfl) ?_
  refine va_iast (D := (dC, dI)) hx hb hK hP hD hS 1 0 rfl rfl (i := (nI tn)) (nI_in hto (by decide)) d_R_tell_18 (fun H locs hP hD hS => ?_)
  have hP : va_P (dC, dI) mr_cl [(q, .inr (2, [.int vc, .int vp, .int vf, .int vk, .int vr, .int vn, .int ve, .int vw, .int (nI tn), .ref ql, .ref qk])), (ql, .inl (cI, 8, .inl (upd ld (nI tn).toNatClampNeg a0))), (qk, .inl (cI, 8, .inl kd))] H := hP
  have hD : va_D A [(q, .inr (2, [.int vc, .int vp, .int vf, .int vk, .int vr, .int vn, .int ve, .int vw, .int (nI tn), .ref ql, .ref qk])), (ql, .inl (cI, 8, .inl (upd ld (nI tn).toNatClampNeg a0))), (qk, .inl (cI, 8, .inl kd))] := hD
  have hBH := hB.at hS hA0
  refine lv_aload_n hx hb d_R_tell_19 rfl (lv_at hl 0 rfl) ?_
  refine va_get (D := (dC, dI)) (ci := 2) (v := .ref qk) (C := R_R) (T := T_R) (N := 11) hx hb hts ti_R hown hK hP 0 rfl rfl 10 (by decide) (hts (Cond.fieldLink "MeasureRows$Row" 40 "MeasureRows$Row" "knownDays" "[I") mw_74) (fun _ h9 => h9) rfl d_R_tell_20 ?_
  refine lv_aload_n hx hb d_R_tell_23 rfl (lv_at hl 0 rfl) ?_
  refine va_get (D := (dC, dI)) (ci := 2) (v := .int (nI tn)) (C := R_R) (T := T_R) (N := 11) hx hb hts ti_R hown hK hP 0 rfl rfl 8 (by decide) (hts (Cond.fieldLink "MeasureRows$Row" 43 "MeasureRows$Row" "told" "I") mw_75) (fun _ h9 => h9) rfl d_R_tell_24 ?_
  refine lv_iload_n hx hb d_R_tell_27 rfl (lv_at hl 2 rfl) ?_
  refine va_iast (D := (dC, dI)) hx hb hK hP hD hS 2 0 rfl rfl (i := (nI tn)) (nI_in hto (by decide)) d_R_tell_28 (fun H locs hP hD hS => ?_)
  have hP : va_P (dC, dI) mr_cl [(q, .inr (2, [.int vc, .int vp, .int vf, .int vk, .int vr, .int vn, .int ve, .int vw, .int (nI tn), .ref ql, .ref qk])), (ql, .inl (cI, 8, .inl (upd ld (nI tn).toNatClampNeg a0))), (qk, .inl (cI, 8, .inl (upd kd (nI tn).toNatClampNeg a1)))] H := hP
  have hD : va_D A [(q, .inr (2, [.int vc, .int vp, .int vf, .int vk, .int vr, .int vn, .int ve, .int vw, .int (nI tn), .ref ql, .ref qk])), (ql, .inl (cI, 8, .inl (upd ld (nI tn).toNatClampNeg a0))), (qk, .inl (cI, 8, .inl (upd kd (nI tn).toNatClampNeg a1)))] := hD
  have hBH := hB.at hS hA0
  refine lv_aload_n hx hb d_R_tell_29 rfl (lv_at hl 0 rfl) ?_
  refine lv_dup hx hb d_R_tell_30 rfl ?_
  refine va_get (D := (dC, dI)) (ci := 2) (v := .int (nI tn)) (C := R_R) (T := T_R) (N := 11) hx hb hts ti_R hown hK hP 0 rfl rfl 8 (by decide) (hts (Cond.fieldLink "MeasureRows$Row" 43 "MeasureRows$Row" "told" "I") mw_75) (fun _ h9 => h9) rfl d_R_tell_31 ?_
  refine lv_iconst (v := 1) hx hb d_R_tell_34 (by decide) ?_
  refine lv_iadd hx hb d_R_tell_35 ?_
  refine mr_top (nI_1 tn) ?_
  refine va_put (D := (dC, dI)) (ci := 2) (v := .int (nI (tn + 1))) (ty := .int) (C := R_R) (T := T_R) (N := 11) hx hb hts ti_R t_R to_R tn_R hown hK hP hD hS 0 rfl rfl 8 (by decide) (hts (Cond.fieldLink "MeasureRows$Row" 43 "MeasureRows$Row" "told" "I") mw_75) (fun _ h9 => h9) rfl (by decide +kernel) rfl rfl (Nat.le_of_ble_eq_true rfl) d_R_tell_36 (fun H locs hP hD hS => ?_)
  have hP : va_P (dC, dI) mr_cl [(q, .inr (2, [.int vc, .int vp, .int vf, .int vk, .int vr, .int vn, .int ve, .int vw, .int (nI (tn + 1)), .ref ql, .ref qk])), (ql, .inl (cI, 8, .inl (upd ld (nI tn).toNatClampNeg a0))), (qk, .inl (cI, 8, .inl (upd kd (nI tn).toNatClampNeg a1)))] H := hP
  have hD : va_D A [(q, .inr (2, [.int vc, .int vp, .int vf, .int vk, .int vr, .int vn, .int ve, .int vw, .int (nI (tn + 1)), .ref ql, .ref qk])), (ql, .inl (cI, 8, .inl (upd ld (nI tn).toNatClampNeg a0))), (qk, .inl (cI, 8, .inl (upd kd (nI tn).toNatClampNeg a1)))] := hD
  have hBH := hB.at hS hA0
  have hP9 := hP.sub (ws' := [(q, .inr (2, [.int vc, .int vp, .int vf, .int vk, .int vr, .int vn, .int ve, .int vw, .int (nI (tn + 1)), .ref ql, .ref qk])), (ql, .inl (cI, 8, .inl (upd ld (nI tn).toNatClampNeg a0))), (qk, .inl (cI, 8, .inl (upd kd (nI tn).toNatClampNeg a1)))]) [0, 1, 2] rfl
  have hD9 := hD.sub (ws' := [(q, .inr (2, [.int vc, .int vp, .int vf, .int vk, .int vr, .int vn, .int ve, .int vw, .int (nI (tn + 1)), .ref ql, .ref qk])), (ql, .inl (cI, 8, .inl (upd ld (nI tn).toNatClampNeg a0))), (qk, .inl (cI, 8, .inl (upd kd (nI tn).toNatClampNeg a1)))]) [0, 1, 2] (by decide) rfl
  exact W.vret hx hb hr (fun t ht hW => ⟨⟨((tn + 1), (upd ld (nI tn).toNatClampNeg a0), (upd kd (nI tn).toNatClampNeg a1)), rfl, ⟨rfl, by rw [nI_clamp (by omega)], by rw [nI_clamp (by omega)]⟩, by rw [ht]; exact hP9, va_K.moved hW.alike hK, hD9⟩, hS.F ht⟩) hS.2.2 d_R_tell_39
set_option maxHeartbeats 4000000 in
set_option maxRecDepth 100000 in
theorem mc_M_end_yX (l : Launch) (hlt : l.stackTraces = false) (s0 : State) (dC : Nat → ClassId) (dI : Nat → Nat → Nat) (cI cR cL cZ : ClassId) (r : Nat → Nat) (n : Nat) (nw pb lc : Int32) (fm fi : Nat → Int32) (fr : Nat → Option Nat) (fl fc fg : Nat → Int32) (L : List Nat) (f : Nat → va_E) (fco fla ffi fki fra fkn cls cpa fe fa fk : Nat → Int32) (i : Nat) (sz : Nat) (a1 : Int32) (a2 : Int32) (hi1 : 1 ≤ i) (hin : i ≤ n) (hX : mr_RX cI n L f fr fco fla ffi fki fra fkn cls cpa fe fa fk) (hN : mr_NX n nw fco fki fra fkn fe fk) : mr_Met l y_M_end [Cond.code y_M_end b_M_end 5 (some .int)] ({ frames := 6, cells := 1, slots := 6, locals := 92 }) (mr_PC s0 (dC, dI) [(cI, .int), (cR, .object "MeasureRows$Row"), (cL, .long), (cZ, .boolean)] [.ref (r 0), .int (nI i), .int a1, .int a2] (([((r 0), .inr (0, mf_M r (nI n) nw pb lc)), ((r 1), .inr (1, [.ref (r 2), .ref (r 3)])), ((r 2), .inl (cI, 8, .inl fm)), ((r 3), .inl (cI, 8, .inl fi)), ((r 4), .inl (cR, 80, .inr (.inr (.inr (.inr fr))))), ((r 5), .inl (cI, 80, .inl fl)), ((r 6), .inl (cI, 80, .inl fc)), ((r 7), .inl (cI, 8, .inl fg))] : va_W) ++ va_pl L f) sz) (va_Qi (fun rr _ => mk_M_end_y fe i a1 a2 = 0 ∧ rr = mv_M_end_y ffi fe i a1) (fun (u : Nat → va_E) t => ∃ (nw9 : Int32) (fe9 fa9 fk9 : Nat → Int32), mr_RX cI n L u fr fco fla ffi fki fra fkn cls cpa fe9 fa9 fk9 ∧ mr_W (dC, dI) [(cI, .int), (cR, .object "MeasureRows$Row"), (cL, .long), (cZ, .boolean)] (va_A (([((r 0), .inr (0, mf_M r (nI n) nw pb lc)), ((r 1), .inr (1, [.ref (r 2), .ref (r 3)])), ((r 2), .inl (cI, 8, .inl fm)), ((r 3), .inl (cI, 8, .inl fi)), ((r 4), .inl (cR, 80, .inr (.inr (.inr (.inr fr))))), ((r 5), .inl (cI, 80, .inl fl)), ((r 6), .inl (cI, 80, .inl fc)), ((r 7), .inl (cI, 8, .inl fg))] : va_W) ++ va_pl L f) sz) (([((r 0), .inr (0, mf_M r (nI n) nw9 pb lc)), ((r 1), .inr (1, [.ref (r 2), .ref (r 3)])), ((r 2), .inl (cI, 8, .inl fm)), ((r 3), .inl (cI, 8, .inl fi)), ((r 4), .inl (cR, 80, .inr (.inr (.inr (.inr fr))))), ((r 5), .inl (cI, 80, .inl fl)), ((r 6), .inl (cI, 80, .inl fc)), ((r 7), .inl (cI, 8, .inl fg))] : va_W) ++ va_pl L u) t ∧ nw9 = mN_M_end_nw ffi nw i a1 a2 ∧ fe9 = mN_M_end_fe ffi fe i a1 ∧ fa9 = mN_M_end_fa ffi fe fa i a1 ∧ fk9 = mN_M_end_fk ffi fe fk i a1 a2) (va_A (([((r 0), .inr (0, mf_M r (nI n) nw pb lc)), ((r 1), .inr (1, [.ref (r 2), .ref (r 3)])), ((r 2), .inl (cI, 8, .inl fm)), ((r 3), .inl (cI, 8, .inl fi)), ((r 4), .inl (cR, 80, .inr (.inr (.inr (.inr fr))))), ((r 5), .inl (cI, 80, .inl fl)), ((r 6), .inl (cI, 80, .inl fc)), ((r 7), .inl (cI, 8, .inl fg))] : va_W) ++ va_pl L f) sz)) (fun E => (E = mr_iae ∧ mk_M_end_y fe i a1 a2 = 2) ∨ (E = mr_ise ∧ mk_M_end_y fe i a1 a2 = 3)) 1 6 (va_A (([((r 0), .inr (0, mf_M r (nI n) nw pb lc)), ((r 1), .inr (1, [.ref (r 2), .ref (r 3)])), ((r 2), .inl (cI, 8, .inl fm)), ((r 3), .inl (cI, 8, .inl fi)), ((r 4), .inl (cR, 80, .inr (.inr (.inr (.inr fr))))), ((r 5), .inl (cI, 80, .inl fl)), ((r 6), .inl (cI, 80, .inl fc)), ((r 7), .inl (cI, 8, .inl fg))] : va_W) ++ va_pl L f) sz) := by
  refine mr_of (cc := b_M_end) (maxL := 5) (ret := (some .int)) (by decide) rfl ?_
  intro p e s m args below meth c s₁ B hml hno hv
  obtain ⟨rfl, hsz, hB, hK, hP, hD0⟩ := hv
  subst hsz
  have hA0 := mr_A hB hD0
  have hD := hD0.self (sz := s.heap.size)
  generalize hAe : va_A (([((r 0), .inr (0, mf_M r (nI n) nw pb lc)), ((r 1), .inr (1, [.ref (r 2), .ref (r 3)])), ((r 2), .inl (cI, 8, .inl fm)), ((r 3), .inl (cI, 8, .inl fi)), ((r 4), .inl (cR, 80, .inr (.inr (.inr (.inr fr))))), ((r 5), .inl (cI, 80, .inl fl)), ((r 6), .inl (cI, 80, .inl fc)), ((r 7), .inl (cI, 8, .inl fg))] : va_W) ++ va_pl L f) s.heap.size = A at hD hA0 ⊢
  have hA : ∀ q : Nat, s.heap.size ≤ q → A q := fun q h => by rw [← hAe]; exact Or.inr h
  have hS : va_S A s.heap s.heap [] := va_S.rf
  have hP : va_P (dC, dI) mr_cl (([((r 0), .inr (0, mf_M r (nI n) nw pb lc)), ((r 1), .inr (1, [.ref (r 2), .ref (r 3)])), ((r 2), .inl (cI, 8, .inl fm)), ((r 3), .inl (cI, 8, .inl fi)), ((r 4), .inl (cR, 80, .inr (.inr (.inr (.inr fr))))), ((r 5), .inl (cI, 80, .inl fl)), ((r 6), .inl (cI, 80, .inl fc)), ((r 7), .inl (cI, 8, .inl fg))] : va_W) ++ va_pl L f) s.heap := hP
  have hBH := hB.at hS hA0
  have hx := B.exec
  have hb := B.bytes
  have hr := B.returns
  have hlocks := B.notSynchronized
  have hts : ∀ w ∈ lw_tbl, w.before [.ref (r 0), .int (nI i), .int a1, .int a2].toArray s = true := hB.hts _
  have hown : s.vm.findClass "MeasureRows" = some m.cls := findClass_of_methodNamed B.named
  have hl := lv_entry ([.ref (r 0), .int (nI i), .int a1, .int a2]) (n := 5) (Nat.le_of_ble_eq_true rfl)
  rw [lg_entry_eq]
  generalize (lg_sl ([.ref (r 0), .int (nI i), .int a1, .int a2]) ++ List.replicate (5 - (lg_sl ([.ref (r 0), .int (nI i), .int a1, .int a2])).length) Slot.unset).toArray = ls at hl ⊢
  have hl : lv_has ls 5 [(0, .ref (r 0)), (1, .int (nI i)), (2, .int a1), (3, .int a2)] := hl
  refine lv_aload_n hx hb d_M_end_0 rfl (lv_at hl 0 rfl) ?_
  refine lv_iload_n hx hb d_M_end_1 rfl (lv_at hl 1 rfl) ?_
  refine va_csq (va_Run.run (va_runV (As := [.int (nI i)]) (rest := []) (C := R_M) ⟨hx, hb, hml, hown, hts⟩ (mc_M_find l s0 dC dI cI cR cL cZ r n nw pb lc fr (nI i) hX.1) ⟨(mr_cB 1 (hts (Cond.code y_M_find b_M_find 2 (some (.object "MeasureRows$Row"))) mw_117) (hts (Cond.initialized y_M_find.cls) mw_118) (hts (Cond.methodLink "MeasureRows" 111 y_M_find) mw_119) rfl rfl (by decide +kernel) ⟨Nat.le_of_ble_eq_true rfl, Nat.le_of_ble_eq_true rfl⟩), (hts (Cond.instanceMethod y_M_find) mw_120), (hts (Cond.selects "MeasureRows" y_M_find y_M_find) mw_121)⟩ (mr_preV hBH hK (hP.sub (ws' := [((r 0), .inr (0, mf_M r (nI n) nw pb lc)), ((r 4), .inl (cR, 80, .inr (.inr (.inr (.inr fr)))))]) [0, 4] rfl) (ci := 0) (q0 := 0) rfl rfl) rfl rfl hl.1 rfl (lv_room (Nat.le_of_ble_eq_true rfl)) d_M_end_2 ⟨Nat.le_of_ble_eq_true rfl, Nat.le_of_ble_eq_true rfl⟩)) (fun r_1 h_2 => ?_)
  subst h_2
  obtain ⟨a_17, ql_17, qk_17, k_17, t_17, ld_17, kd_17, hf_17, hfi_17, m1_17, m2_17, m3_17, e1_17, e2_17, e3_17, hke_17, hte_17, hk_17, ht_17, ho_17, hne_17, hld_17⟩ := mr_fy hX hN (i := i) (by omega) (by omega)
  refine mr_topv (show va_rf (mv_M_find n fr (nI i)) = .ref a_17 by rw [hf_17]; rfl) ?_
  have hPr_17 := mr_row3 (X := [((r 0), .inr (0, mf_M r (nI n) nw pb lc)), ((r 1), .inr (1, [.ref (r 2), .ref (r 3)])), ((r 2), .inl (cI, 8, .inl fm)), ((r 3), .inl (cI, 8, .inl fi)), ((r 4), .inl (cR, 80, .inr (.inr (.inr (.inr fr))))), ((r 5), .inl (cI, 80, .inl fl)), ((r 6), .inl (cI, 80, .inl fc)), ((r 7), .inl (cI, 8, .inl fg))]) hP m1_17 m2_17 m3_17 e1_17 e2_17 e3_17
  refine lv_astore (lv' := [(4, .ref a_17), (0, .ref (r 0)), (1, .int (nI i)), (2, .int a1), (3, .int a2)]) hx hb d_M_end_5 hl (by decide) rfl (fun ls hl => ?_)
  refine lv_aload hx hb d_M_end_7 (lv_at hl 0 rfl) ?_
  refine lv_ifnonnull (tgt := 22) hx hb d_M_end_9 (by decide) ?_
  refine lv_iload_n hx hb d_M_end_22 rfl (lv_at hl 3 rfl) ?_
  refine vp_callSi (va_Run.run (va_runS (As := [.int a1]) (rest := []) ⟨hx, hb, hml, hown, hts⟩ (mc_M_isLastDay l s0 a1) ⟨(mr_cB 1 (hts (Cond.code y_M_isLastDay b_M_isLastDay 1 (some .boolean)) mw_184) (hts (Cond.initialized y_M_isLastDay.cls) mw_185) (hts (Cond.methodLink "MeasureRows" 86 y_M_isLastDay) mw_186) rfl rfl (by decide +kernel) ⟨Nat.le_of_ble_eq_true rfl, Nat.le_of_ble_eq_true rfl⟩), (hts (Cond.static y_M_isLastDay) mw_187)⟩ (mr_pre0 hBH) rfl rfl hl.1 rfl (lv_room (Nat.le_of_ble_eq_true rfl)) d_M_end_23 ⟨Nat.le_of_ble_eq_true rfl, Nat.le_of_ble_eq_true rfl⟩)) (fun r_3 h_4 => ?_)
  subst h_4
  refine lv_if_eq (tgt := 36) hx hb d_M_end_26 (by decide) (fun c_5 => ?_) (fun c_5 => ?_)
  · obtain ⟨sa, hstr⟩ := mr_str (hts (Cond.stringRef "MeasureRows" 89 "no such days") mw_138) hown
    exact mr_throw (names := mr_up) hx hb hlt hown (by decide +kernel) (by decide +kernel) (hts (Cond.classLink "MeasureRows" 78 mr_iae) mw_139) (hts (Cond.initialized mr_iae) mw_140) hstr (hB.own _ mr_a_iae) (hl.1.trans hml.symm) d_M_end_36 d_M_end_39 d_M_end_40 d_M_end_42 d_M_end_45 hno (Nat.le_of_ble_eq_true rfl) (Nat.le_of_ble_eq_true rfl) (Nat.le_of_ble_eq_true rfl) (Nat.le_of_ble_eq_true rfl) hlocks (Or.inl ⟨rfl, by unfold mk_M_end_y; rw [if_pos c_5]⟩) (Nat.le_of_ble_eq_true rfl) (Nat.le_of_ble_eq_true rfl)
  · refine lv_iload_n hx hb d_M_end_29 rfl (lv_at hl 4 rfl) ?_
    refine vp_callSi (va_Run.run (va_runS (As := [.int a2]) (rest := []) ⟨hx, hb, hml, hown, hts⟩ (mc_M_isDay l s0 a2) ⟨(mr_cB 1 (hts (Cond.code y_M_isDay b_M_isDay 1 (some .boolean)) mw_9) (hts (Cond.initialized y_M_isDay.cls) mw_10) (hts (Cond.methodLink "MeasureRows" 83 y_M_isDay) mw_11) rfl rfl (by decide +kernel) ⟨Nat.le_of_ble_eq_true rfl, Nat.le_of_ble_eq_true rfl⟩), (hts (Cond.static y_M_isDay) mw_12)⟩ (mr_pre0 hBH) rfl rfl hl.1 rfl (lv_room (Nat.le_of_ble_eq_true rfl)) d_M_end_30 ⟨Nat.le_of_ble_eq_true rfl, Nat.le_of_ble_eq_true rfl⟩)) (fun r_6 h_7 => ?_)
    subst h_7
    refine lv_if_ne (tgt := 46) hx hb d_M_end_33 (by decide) (fun c_8 => ?_) (fun c_8 => ?_)
    · refine lv_aload hx hb d_M_end_46 (lv_at hl 0 rfl) ?_
      refine va_get (D := (dC, dI)) (ci := 2) (v := .int (nI t_17)) (C := R_R) (T := T_R) (N := 11) hx hb hts ti_R hown hK hPr_17 0 rfl rfl 8 (by decide) (hts (Cond.fieldLink "MeasureRows" 123 "MeasureRows$Row" "told" "I") mw_154) (fun _ h9 => h9) rfl d_M_end_48 ?_
      refine lv_bipush (v := 8) hx hb d_M_end_51 (by decide) ?_
      refine lv_icmp_lt (tgt := 66) hx hb d_M_end_53 (by decide) (fun c_9 => ?_) (fun c_9 => ?_)
      · refine lv_iload_n hx hb d_M_end_66 rfl (lv_at hl 3 rfl) ?_
        refine lv_aload hx hb d_M_end_67 (lv_at hl 0 rfl) ?_
        refine va_get (D := (dC, dI)) (ci := 2) (v := .int (ffi i)) (C := R_R) (T := T_R) (N := 11) hx hb hts ti_R hown hK hPr_17 0 rfl rfl 2 (by decide) (hts (Cond.fieldLink "MeasureRows" 128 "MeasureRows$Row" "first" "I") mw_149) (fun _ h9 => h9) rfl d_M_end_69 ?_
        refine lv_icmp_ge (tgt := 77) hx hb d_M_end_72 (by decide) (fun c_10 => ?_) (fun c_10 => ?_)
        · refine lv_aload hx hb d_M_end_77 (lv_at hl 0 rfl) ?_
          refine lv_iload_n hx hb d_M_end_79 rfl (lv_at hl 3 rfl) ?_
          refine lv_iload_n hx hb d_M_end_80 rfl (lv_at hl 4 rfl) ?_
          have hPc := hPr_17.sub (ws' := [(a_17, .inr (2, [.int (fco i), .int (fla i), .int (ffi i), .int (nI k_17), .int (fra i), .int (fkn i), .int (cls i), .int (cpa i), .int (nI t_17), .ref ql_17, .ref qk_17])), (ql_17, .inl (cI, 8, .inl ld_17)), (qk_17, .inl (cI, 8, .inl kd_17))]) [0, 1, 2] rfl
          have hin9 := mr_in3 (L := L) (e1 := .inr (2, [.int (fco i), .int (fla i), .int (ffi i), .int (nI k_17), .int (fra i), .int (fkn i), .int (cls i), .int (cpa i), .int (nI t_17), .ref ql_17, .ref qk_17])) (e2 := .inl (cI, 8, .inl ld_17)) (e3 := .inl (cI, 8, .inl kd_17)) m1_17 m2_17 m3_17
          have hDc : va_D A [(a_17, .inr (2, [.int (fco i), .int (fla i), .int (ffi i), .int (nI k_17), .int (fra i), .int (fkn i), .int (cls i), .int (cpa i), .int (nI t_17), .ref ql_17, .ref qk_17])), (ql_17, .inl (cI, 8, .inl ld_17)), (qk_17, .inl (cI, 8, .inl kd_17))] := mr_D3 (mr_plA (X := [((r 0), .inr (0, mf_M r (nI n) nw pb lc)), ((r 1), .inr (1, [.ref (r 2), .ref (r 3)])), ((r 2), .inl (cI, 8, .inl fm)), ((r 3), .inl (cI, 8, .inl fi)), ((r 4), .inl (cR, 80, .inr (.inr (.inr (.inr fr))))), ((r 5), .inl (cI, 80, .inl fl)), ((r 6), .inl (cI, 80, .inl fc)), ((r 7), .inl (cI, 8, .inl fg))]) hD m1_17) (mr_plA (X := [((r 0), .inr (0, mf_M r (nI n) nw pb lc)), ((r 1), .inr (1, [.ref (r 2), .ref (r 3)])), ((r 2), .inl (cI, 8, .inl fm)), ((r 3), .inl (cI, 8, .inl fi)), ((r 4), .inl (cR, 80, .inr (.inr (.inr (.inr fr))))), ((r 5), .inl (cI, 80, .inl fl)), ((r 6), .inl (cI, 80, .inl fc)), ((r 7), .inl (cI, 8, .inl fg))]) hD m2_17) (mr_plA (X := [((r 0), .inr (0, mf_M r (nI n) nw pb lc)), ((r 1), .inr (1, [.ref (r 2), .ref (r 3)])), ((r 2), .inl (cI, 8, .inl fm)), ((r 3), .inl (cI, 8, .inl fi)), ((r 4), .inl (cR, 80, .inr (.inr (.inr (.inr fr))))), ((r 5), .inl (cI, 80, .inl fl)), ((r 6), .inl (cI, 80, .inl fc)), ((r 7), .inl (cI, 8, .inl fg))]) hD m3_17) (mr_ne3 e1_17 e2_17 e3_17 hne_17)
          have hFc := mr_plfree (X := [((r 0), .inr (0, mf_M r (nI n) nw pb lc)), ((r 1), .inr (1, [.ref (r 2), .ref (r 3)])), ((r 2), .inl (cI, 8, .inl fm)), ((r 3), .inl (cI, 8, .inl fi)), ((r 4), .inl (cR, 80, .inr (.inr (.inr (.inr fr))))), ((r 5), .inl (cI, 80, .inl fl)), ((r 6), .inl (cI, 80, .inl fc)), ((r 7), .inl (cI, 8, .inl fg))]) (wc := [(a_17, .inr (2, [.int (fco i), .int (fla i), .int (ffi i), .int (nI k_17), .int (fra i), .int (fkn i), .int (cls i), .int (cpa i), .int (nI t_17), .ref ql_17, .ref qk_17])), (ql_17, .inl (cI, 8, .inl ld_17)), (qk_17, .inl (cI, 8, .inl kd_17))]) hD hS hA hin9
          refine va_callv (va_runV (As := [.int a1, .int a2]) (rest := []) (C := R_R) ⟨hx, hb, hml, hown, hts⟩ (mc_R_tellX l s0 dC dI cI cR cL cZ a_17 ql_17 qk_17 (fco i) (fla i) (ffi i) (nI k_17) (fra i) (fkn i) (cls i) (cpa i) t_17 ld_17 kd_17 _ a1 a2 (mr_t8 (Int32.not_le.mpr c_9) ht_17)) ⟨(mr_cB 2 (hts (Cond.code y_R_tell b_R_tell 3 none) mw_188) (hts (Cond.initialized y_R_tell.cls) mw_189) (hts (Cond.methodLink "MeasureRows" 131 y_R_tell) mw_190) rfl rfl (by decide +kernel) ⟨Nat.le_of_ble_eq_true rfl, Nat.le_of_ble_eq_true rfl⟩), (hts (Cond.instanceMethod y_R_tell) mw_191), (hts (Cond.selects "MeasureRows$Row" y_R_tell y_R_tell) mw_192)⟩ (mr_preCV hBH hK hPc (hDc.weaken (fun _ _ _ h => hA0 _ h)) (ci := 2) (q0 := 0) rfl rfl) rfl rfl hl.1 rfl (lv_room (Nat.le_of_ble_eq_true rfl)) d_M_end_81 ⟨Nat.le_of_ble_eq_true rfl, Nat.le_of_ble_eq_true rfl⟩) hS (fun q _ h => hFc q h) hFc (fun u_12 t9 H1 locs ht9 hvm hw hB1 hz1 hk1 hS => ?_)
          obtain ⟨tn, l2, k2⟩ := u_12
          obtain ⟨rfl, rfl, rfl⟩ : tn = t_17 + 1 ∧ l2 = (upd ld_17 t_17 a1) ∧ k2 = (upd kd_17 t_17 a2) := hw
          obtain ⟨hP1, hK1, hD1⟩ := hB1
          rw [ht9] at hP1
          have hn3 := mr_ne3 e1_17 e2_17 e3_17 hne_17
          have ht8 := mr_t8 (Int32.not_le.mpr c_9) ht_17
          obtain ⟨hP, hD⟩ := mr_plset (X := [((r 0), .inr (0, mf_M r (nI n) nw pb lc)), ((r 1), .inr (1, [.ref (r 2), .ref (r 3)])), ((r 2), .inl (cI, 8, .inl fm)), ((r 3), .inl (cI, 8, .inl fi)), ((r 4), .inl (cR, 80, .inr (.inr (.inr (.inr fr))))), ((r 5), .inl (cI, 80, .inl fl)), ((r 6), .inl (cI, 80, .inl fc)), ((r 7), .inl (cI, 8, .inl fg))]) (f' := va_up (va_up (va_up f a_17 (.inr (2, [.int (fco i), .int (fla i), .int (ffi i), .int (nI k_17), .int (fra i), .int (fkn i), .int (cls i), .int (cpa i), .int (nI (t_17 + 1)), .ref ql_17, .ref qk_17]))) ql_17 (.inl (cI, 8, .inl (upd ld_17 t_17 a1)))) qk_17 (.inl (cI, 8, .inl (upd kd_17 t_17 a2)))) hP hD hin9 hk1 (mr_new3 hP1 hn3) mr_old3
          have hX := mr_RXset (f' := va_up (va_up (va_up f a_17 (.inr (2, [.int (fco i), .int (fla i), .int (ffi i), .int (nI k_17), .int (fra i), .int (fkn i), .int (cls i), .int (cpa i), .int (nI (t_17 + 1)), .ref ql_17, .ref qk_17]))) ql_17 (.inl (cI, 8, .inl (upd ld_17 t_17 a1)))) qk_17 (.inl (cI, 8, .inl (upd kd_17 t_17 a2)))) (fco' := fco) (fla' := fla) (ffi' := ffi) (fki' := fki) (fra' := fra) (fkn' := fkn) (cls' := cls) (cpa' := cpa) (fe' := (upd fe i (nI (t_17 + 1)))) (fa' := (upd fa (8 * i + t_17) a1)) (fk' := (upd fk (8 * i + t_17) a2)) hX (i := i) (by omega) (by omega) hfi_17 e1_17 (fun x h1 h2 h3 => by simp [va_up, h1, h2, h3]) (fun i' q1 q2 h => ⟨rfl, rfl, rfl, rfl, rfl, rfl, rfl, rfl, by simp [upd, h], mr_tl8 hN q1 q2 h ht8⟩) (mr_row1t hn3 hke_17 ht8 hld_17)
          have e1_17 : (va_up (va_up (va_up f a_17 (.inr (2, [.int (fco i), .int (fla i), .int (ffi i), .int (nI k_17), .int (fra i), .int (fkn i), .int (cls i), .int (cpa i), .int (nI (t_17 + 1)), .ref ql_17, .ref qk_17]))) ql_17 (.inl (cI, 8, .inl (upd ld_17 t_17 a1)))) qk_17 (.inl (cI, 8, .inl (upd kd_17 t_17 a2)))) a_17 = .inr (2, [.int (fco i), .int (fla i), .int (ffi i), .int (nI k_17), .int (fra i), .int (fkn i), .int (cls i), .int (cpa i), .int (nI (t_17 + 1)), .ref ql_17, .ref qk_17]) := by simp [va_up, hn3.1, hn3.2.1]
          have e2_17 : (va_up (va_up (va_up f a_17 (.inr (2, [.int (fco i), .int (fla i), .int (ffi i), .int (nI k_17), .int (fra i), .int (fkn i), .int (cls i), .int (cpa i), .int (nI (t_17 + 1)), .ref ql_17, .ref qk_17]))) ql_17 (.inl (cI, 8, .inl (upd ld_17 t_17 a1)))) qk_17 (.inl (cI, 8, .inl (upd kd_17 t_17 a2)))) ql_17 = .inl (cI, 8, .inl (upd ld_17 t_17 a1)) := by simp [va_up, hn3.2.2]
          have e3_17 : (va_up (va_up (va_up f a_17 (.inr (2, [.int (fco i), .int (fla i), .int (ffi i), .int (nI k_17), .int (fra i), .int (fkn i), .int (cls i), .int (cpa i), .int (nI (t_17 + 1)), .ref ql_17, .ref qk_17]))) ql_17 (.inl (cI, 8, .inl (upd ld_17 t_17 a1)))) qk_17 (.inl (cI, 8, .inl (upd kd_17 t_17 a2)))) qk_17 = .inl (cI, 8, .inl (upd kd_17 t_17 a2)) := by simp [va_up]
          clear hK1 hk1 hPc hDc hFc hin9
          generalize va_up (va_up (va_up f a_17 (.inr (2, [.int (fco i), .int (fla i), .int (ffi i), .int (nI k_17), .int (fra i), .int (fkn i), .int (cls i), .int (cpa i), .int (nI (t_17 + 1)), .ref ql_17, .ref qk_17]))) ql_17 (.inl (cI, 8, .inl (upd ld_17 t_17 a1)))) qk_17 (.inl (cI, 8, .inl (upd kd_17 t_17 a2))) = f at hP hD hX e1_17 e2_17 e3_17
          generalize H1 = H at hP hS ⊢
          have hP : va_P (dC, dI) mr_cl (([((r 0), .inr (0, mf_M r (nI n) nw pb lc)), ((r 1), .inr (1, [.ref (r 2), .ref (r 3)])), ((r 2), .inl (cI, 8, .inl fm)), ((r 3), .inl (cI, 8, .inl fi)), ((r 4), .inl (cR, 80, .inr (.inr (.inr (.inr fr))))), ((r 5), .inl (cI, 80, .inl fl)), ((r 6), .inl (cI, 80, .inl fc)), ((r 7), .inl (cI, 8, .inl fg))] : va_W) ++ va_pl L f) H := hP
          have hD : va_D A (([((r 0), .inr (0, mf_M r (nI n) nw pb lc)), ((r 1), .inr (1, [.ref (r 2), .ref (r 3)])), ((r 2), .inl (cI, 8, .inl fm)), ((r 3), .inl (cI, 8, .inl fi)), ((r 4), .inl (cR, 80, .inr (.inr (.inr (.inr fr))))), ((r 5), .inl (cI, 80, .inl fl)), ((r 6), .inl (cI, 80, .inl fc)), ((r 7), .inl (cI, 8, .inl fg))] : va_W) ++ va_pl L f) := hD
          have hBH := hB.at hS hA0
          have hPr_17 := mr_row3 (X := [((r 0), .inr (0, mf_M r (nI n) nw pb lc)), ((r 1), .inr (1, [.ref (r 2), .ref (r 3)])), ((r 2), .inl (cI, 8, .inl fm)), ((r 3), .inl (cI, 8, .inl fi)), ((r 4), .inl (cR, 80, .inr (.inr (.inr (.inr fr))))), ((r 5), .inl (cI, 80, .inl fl)), ((r 6), .inl (cI, 80, .inl fc)), ((r 7), .inl (cI, 8, .inl fg))]) hP m1_17 m2_17 m3_17 e1_17 e2_17 e3_17
          refine lv_aload_n hx hb d_M_end_84 rfl (lv_at hl 1 rfl) ?_
          refine lv_aload_n hx hb d_M_end_85 rfl (lv_at hl 1 rfl) ?_
          refine va_get (D := (dC, dI)) (ci := 0) (v := .int nw) (C := R_M) (T := T_M) (N := 9) hx hb hts ti_M hown hK hP 0 rfl rfl 3 (by decide) (hts (Cond.fieldLink "MeasureRows" 26 "MeasureRows" "now" "I") mw_58) (fun _ h9 => h9) rfl d_M_end_86 ?_
          refine lv_iload_n hx hb d_M_end_89 rfl (lv_at hl 4 rfl) ?_
          refine va_mmax hx hb (hml.trans hl.1.symm) hown (hts (Cond.methodLink "MeasureRows" 105 Lib.Math.max.name) mw_193) (hts (Cond.static Lib.Math.max.name) mw_194) (hts (Cond.initialized "java/lang/Math") mw_195) (hts (Cond.code Lib.Math.max.name Lib.Math.max.code 2 (some .int)) mw_196) (Nat.le_of_ble_eq_true rfl) (Nat.le_of_ble_eq_true rfl) (Nat.le_of_ble_eq_true rfl) (Nat.le_of_ble_eq_true rfl) d_M_end_90 ?_
          refine va_put (D := (dC, dI)) (ci := 0) (v := .int (if nw < a2 then a2 else nw)) (ty := .int) (C := R_M) (T := T_M) (N := 9) hx hb hts ti_M t_M to_M tn_M hown hK hP hD hS 0 rfl rfl 3 (by decide) (hts (Cond.fieldLink "MeasureRows" 26 "MeasureRows" "now" "I") mw_58) (fun _ h9 => h9) rfl (by decide +kernel) rfl rfl (Nat.le_of_ble_eq_true rfl) d_M_end_93 (fun H locs hP hD hS => ?_)
          have hP : va_P (dC, dI) mr_cl (([((r 0), .inr (0, mf_M r (nI n) (if nw < a2 then a2 else nw) pb lc)), ((r 1), .inr (1, [.ref (r 2), .ref (r 3)])), ((r 2), .inl (cI, 8, .inl fm)), ((r 3), .inl (cI, 8, .inl fi)), ((r 4), .inl (cR, 80, .inr (.inr (.inr (.inr fr))))), ((r 5), .inl (cI, 80, .inl fl)), ((r 6), .inl (cI, 80, .inl fc)), ((r 7), .inl (cI, 8, .inl fg))] : va_W) ++ va_pl L f) H := hP
          have hD : va_D A (([((r 0), .inr (0, mf_M r (nI n) (if nw < a2 then a2 else nw) pb lc)), ((r 1), .inr (1, [.ref (r 2), .ref (r 3)])), ((r 2), .inl (cI, 8, .inl fm)), ((r 3), .inl (cI, 8, .inl fi)), ((r 4), .inl (cR, 80, .inr (.inr (.inr (.inr fr))))), ((r 5), .inl (cI, 80, .inl fl)), ((r 6), .inl (cI, 80, .inl fc)), ((r 7), .inl (cI, 8, .inl fg))] : va_W) ++ va_pl L f) := hD
          have hBH := hB.at hS hA0
          have hPr_17 := mr_row3 (X := [((r 0), .inr (0, mf_M r (nI n) (if nw < a2 then a2 else nw) pb lc)), ((r 1), .inr (1, [.ref (r 2), .ref (r 3)])), ((r 2), .inl (cI, 8, .inl fm)), ((r 3), .inl (cI, 8, .inl fi)), ((r 4), .inl (cR, 80, .inr (.inr (.inr (.inr fr))))), ((r 5), .inl (cI, 80, .inl fl)), ((r 6), .inl (cI, 80, .inl fc)), ((r 7), .inl (cI, 8, .inl fg))]) hP m1_17 m2_17 m3_17 e1_17 e2_17 e3_17
          refine lv_aload hx hb d_M_end_96 (lv_at hl 0 rfl) ?_
          refine va_get (D := (dC, dI)) (ci := 2) (v := .int (nI (t_17 + 1))) (C := R_R) (T := T_R) (N := 11) hx hb hts ti_R hown hK hPr_17 0 rfl rfl 8 (by decide) (hts (Cond.fieldLink "MeasureRows" 123 "MeasureRows$Row" "told" "I") mw_154) (fun _ h9 => h9) rfl d_M_end_98 ?_
          refine mr_ret ?_
          refine W.widen (k := 1) (n := 6) (by omega) (by omega) ?_
          exact W.iret (v := nI (t_17 + 1)) hx hb hr (fun t ht hW => ⟨⟨_, f, rfl, ⟨(by unfold mk_M_end_y; rw [hte_17, if_neg c_5, if_neg c_8, if_pos c_9]), (by unfold mv_M_end_y; rw [if_pos c_10]; rw [hte_17, nI_1])⟩, (if nw < a2 then a2 else nw), (upd fe i (nI (t_17 + 1))), (upd fa (8 * i + t_17) a1), (upd fk (8 * i + t_17) a2), hX, ⟨by rw [ht]; exact hP, va_K.moved hW.alike hK, hD⟩, (by unfold mN_M_end_nw; rw [if_pos c_10]), (by unfold mN_M_end_fe; rw [if_pos c_10, hte_17, nI_1]), (by unfold mN_M_end_fa; rw [if_pos c_10, hte_17, nI_clamp (by omega)]), (by unfold mN_M_end_fk; rw [if_pos c_10, hte_17, nI_clamp (by omega)])⟩, hS.F ht⟩) hS.2.2 d_M_end_101
        · refine lv_iconst (v := 0) hx hb d_M_end_75 (by decide) ?_
          refine mr_ret ?_
          refine W.widen (k := 1) (n := 6) (by omega) (by omega) ?_
          exact W.iret (v := 0) hx hb hr (fun t ht hW => ⟨⟨_, f, rfl, ⟨(by unfold mk_M_end_y; rw [hte_17, if_neg c_5, if_neg c_8, if_pos c_9]), (by unfold mv_M_end_y; rw [if_neg c_10])⟩, nw, fe, fa, fk, hX, ⟨by rw [ht]; exact hP, va_K.moved hW.alike hK, hD⟩, (by unfold mN_M_end_nw; rw [if_neg c_10]), (by unfold mN_M_end_fe; rw [if_neg c_10]), (by unfold mN_M_end_fa; rw [if_neg c_10]), (by unfold mN_M_end_fk; rw [if_neg c_10])⟩, hS.F ht⟩) hS.2.2 d_M_end_76
      · obtain ⟨sa, hstr⟩ := mr_str (hts (Cond.stringRef "MeasureRows" 126 "no room for another last day") mw_197) hown
        exact mr_throw (names := mr_up) hx hb hlt hown (by decide +kernel) (by decide +kernel) (hts (Cond.classLink "MeasureRows" 93 mr_ise) mw_198) (hts (Cond.initialized mr_ise) mw_199) hstr (hB.own _ mr_a_ise) (hl.1.trans hml.symm) d_M_end_56 d_M_end_59 d_M_end_60 d_M_end_62 d_M_end_65 hno (Nat.le_of_ble_eq_true rfl) (Nat.le_of_ble_eq_true rfl) (Nat.le_of_ble_eq_true rfl) (Nat.le_of_ble_eq_true rfl) hlocks (Or.inr ⟨rfl, by unfold mk_M_end_y; rw [hte_17, if_neg c_5, if_neg c_8, if_neg c_9]⟩) (Nat.le_of_ble_eq_true rfl) (Nat.le_of_ble_eq_true rfl)
    · obtain ⟨sa, hstr⟩ := mr_str (hts (Cond.stringRef "MeasureRows" 89 "no such days") mw_138) hown
      exact mr_throw (names := mr_up) hx hb hlt hown (by decide +kernel) (by decide +kernel) (hts (Cond.classLink "MeasureRows" 78 mr_iae) mw_139) (hts (Cond.initialized mr_iae) mw_140) hstr (hB.own _ mr_a_iae) (hl.1.trans hml.symm) d_M_end_36 d_M_end_39 d_M_end_40 d_M_end_42 d_M_end_45 hno (Nat.le_of_ble_eq_true rfl) (Nat.le_of_ble_eq_true rfl) (Nat.le_of_ble_eq_true rfl) (Nat.le_of_ble_eq_true rfl) hlocks (Or.inl ⟨rfl, by unfold mk_M_end_y; rw [if_neg c_5, if_pos c_8]⟩) (Nat.le_of_ble_eq_true rfl) (Nat.le_of_ble_eq_true rfl)
set_option maxHeartbeats 4000000 in
set_option maxRecDepth 100000 in
theorem mc_M_end_nX (l : Launch) (hlt : l.stackTraces = false) (s0 : State) (dC : Nat → ClassId) (dI : Nat → Nat → Nat) (cI cR cL cZ : ClassId) (r : Nat → Nat) (n : Nat) (nw pb lc : Int32) (fm fi : Nat → Int32) (fr : Nat → Option Nat) (fl fc fg : Nat → Int32) (L : List Nat) (f : Nat → va_E) (fco fla ffi fki fra fkn cls cpa fe fa fk : Nat → Int32) (sz : Nat) (a0 : Int32) (a1 : Int32) (a2 : Int32) (hnr : mv_D_isRow n a0 = 0) (hX : mr_RX cI n L f fr fco fla ffi fki fra fkn cls cpa fe fa fk) (hN : mr_NX n nw fco fki fra fkn fe fk) : mr_Met l y_M_end [Cond.code y_M_end b_M_end 5 (some .int)] ({ frames := 6, cells := 1, slots := 6, locals := 92 }) (mr_PC s0 (dC, dI) [(cI, .int), (cR, .object "MeasureRows$Row"), (cL, .long), (cZ, .boolean)] [.ref (r 0), .int a0, .int a1, .int a2] (([((r 0), .inr (0, mf_M r (nI n) nw pb lc)), ((r 1), .inr (1, [.ref (r 2), .ref (r 3)])), ((r 2), .inl (cI, 8, .inl fm)), ((r 3), .inl (cI, 8, .inl fi)), ((r 4), .inl (cR, 80, .inr (.inr (.inr (.inr fr))))), ((r 5), .inl (cI, 80, .inl fl)), ((r 6), .inl (cI, 80, .inl fc)), ((r 7), .inl (cI, 8, .inl fg))] : va_W) ++ va_pl L f) sz) (va_Qi (fun _ _ => False) (fun (u : Unit) t => mr_W (dC, dI) [(cI, .int), (cR, .object "MeasureRows$Row"), (cL, .long), (cZ, .boolean)] (va_A (([((r 0), .inr (0, mf_M r (nI n) nw pb lc)), ((r 1), .inr (1, [.ref (r 2), .ref (r 3)])), ((r 2), .inl (cI, 8, .inl fm)), ((r 3), .inl (cI, 8, .inl fi)), ((r 4), .inl (cR, 80, .inr (.inr (.inr (.inr fr))))), ((r 5), .inl (cI, 80, .inl fl)), ((r 6), .inl (cI, 80, .inl fc)), ((r 7), .inl (cI, 8, .inl fg))] : va_W) ++ va_pl L f) sz) (([((r 0), .inr (0, mf_M r (nI n) nw pb lc)), ((r 1), .inr (1, [.ref (r 2), .ref (r 3)])), ((r 2), .inl (cI, 8, .inl fm)), ((r 3), .inl (cI, 8, .inl fi)), ((r 4), .inl (cR, 80, .inr (.inr (.inr (.inr fr))))), ((r 5), .inl (cI, 80, .inl fl)), ((r 6), .inl (cI, 80, .inl fc)), ((r 7), .inl (cI, 8, .inl fg))] : va_W) ++ va_pl L f) t) (va_A (([((r 0), .inr (0, mf_M r (nI n) nw pb lc)), ((r 1), .inr (1, [.ref (r 2), .ref (r 3)])), ((r 2), .inl (cI, 8, .inl fm)), ((r 3), .inl (cI, 8, .inl fi)), ((r 4), .inl (cR, 80, .inr (.inr (.inr (.inr fr))))), ((r 5), .inl (cI, 80, .inl fl)), ((r 6), .inl (cI, 80, .inl fc)), ((r 7), .inl (cI, 8, .inl fg))] : va_W) ++ va_pl L f) sz)) (fun E => E = mr_iob) 1 6 (va_A (([((r 0), .inr (0, mf_M r (nI n) nw pb lc)), ((r 1), .inr (1, [.ref (r 2), .ref (r 3)])), ((r 2), .inl (cI, 8, .inl fm)), ((r 3), .inl (cI, 8, .inl fi)), ((r 4), .inl (cR, 80, .inr (.inr (.inr (.inr fr))))), ((r 5), .inl (cI, 80, .inl fl)), ((r 6), .inl (cI, 80, .inl fc)), ((r 7), .inl (cI, 8, .inl fg))] : va_W) ++ va_pl L f) sz) := by
  refine mr_of (cc := b_M_end) (maxL := 5) (ret := (some .int)) (by decide) rfl ?_
  intro p e s m args below meth c s₁ B hml hno hv
  obtain ⟨rfl, hsz, hB, hK, hP, hD0⟩ := hv
  subst hsz
  have hA0 := mr_A hB hD0
  have hD := hD0.self (sz := s.heap.size)
  generalize hAe : va_A (([((r 0), .inr (0, mf_M r (nI n) nw pb lc)), ((r 1), .inr (1, [.ref (r 2), .ref (r 3)])), ((r 2), .inl (cI, 8, .inl fm)), ((r 3), .inl (cI, 8, .inl fi)), ((r 4), .inl (cR, 80, .inr (.inr (.inr (.inr fr))))), ((r 5), .inl (cI, 80, .inl fl)), ((r 6), .inl (cI, 80, .inl fc)), ((r 7), .inl (cI, 8, .inl fg))] : va_W) ++ va_pl L f) s.heap.size = A at hD hA0 ⊢
  have hA : ∀ q : Nat, s.heap.size ≤ q → A q := fun q h => by rw [← hAe]; exact Or.inr h
  have hS : va_S A s.heap s.heap [] := va_S.rf
  have hP : va_P (dC, dI) mr_cl (([((r 0), .inr (0, mf_M r (nI n) nw pb lc)), ((r 1), .inr (1, [.ref (r 2), .ref (r 3)])), ((r 2), .inl (cI, 8, .inl fm)), ((r 3), .inl (cI, 8, .inl fi)), ((r 4), .inl (cR, 80, .inr (.inr (.inr (.inr fr))))), ((r 5), .inl (cI, 80, .inl fl)), ((r 6), .inl (cI, 80, .inl fc)), ((r 7), .inl (cI, 8, .inl fg))] : va_W) ++ va_pl L f) s.heap := hP
  have hBH := hB.at hS hA0
  have hx := B.exec
  have hb := B.bytes
  have hr := B.returns
  have hlocks := B.notSynchronized
  have hts : ∀ w ∈ lw_tbl, w.before [.ref (r 0), .int a0, .int a1, .int a2].toArray s = true := hB.hts _
  have hown : s.vm.findClass "MeasureRows" = some m.cls := findClass_of_methodNamed B.named
  have hl := lv_entry ([.ref (r 0), .int a0, .int a1, .int a2]) (n := 5) (Nat.le_of_ble_eq_true rfl)
  rw [lg_entry_eq]
  generalize (lg_sl ([.ref (r 0), .int a0, .int a1, .int a2]) ++ List.replicate (5 - (lg_sl ([.ref (r 0), .int a0, .int a1, .int a2])).length) Slot.unset).toArray = ls at hl ⊢
  have hl : lv_has ls 5 [(0, .ref (r 0)), (1, .int a0), (2, .int a1), (3, .int a2)] := hl
  refine lv_aload_n hx hb d_M_end_0 rfl (lv_at hl 0 rfl) ?_
  refine lv_iload_n hx hb d_M_end_1 rfl (lv_at hl 1 rfl) ?_
  refine va_csq (va_Run.run (va_runV (As := [.int a0]) (rest := []) (C := R_M) ⟨hx, hb, hml, hown, hts⟩ (mc_M_find l s0 dC dI cI cR cL cZ r n nw pb lc fr a0 hX.1) ⟨(mr_cB 1 (hts (Cond.code y_M_find b_M_find 2 (some (.object "MeasureRows$Row"))) mw_117) (hts (Cond.initialized y_M_find.cls) mw_118) (hts (Cond.methodLink "MeasureRows" 111 y_M_find) mw_119) rfl rfl (by decide +kernel) ⟨Nat.le_of_ble_eq_true rfl, Nat.le_of_ble_eq_true rfl⟩), (hts (Cond.instanceMethod y_M_find) mw_120), (hts (Cond.selects "MeasureRows" y_M_find y_M_find) mw_121)⟩ (mr_preV hBH hK (hP.sub (ws' := [((r 0), .inr (0, mf_M r (nI n) nw pb lc)), ((r 4), .inl (cR, 80, .inr (.inr (.inr (.inr fr)))))]) [0, 4] rfl) (ci := 0) (q0 := 0) rfl rfl) rfl rfl hl.1 rfl (lv_room (Nat.le_of_ble_eq_true rfl)) d_M_end_2 ⟨Nat.le_of_ble_eq_true rfl, Nat.le_of_ble_eq_true rfl⟩)) (fun r_1 h_2 => ?_)
  subst h_2
  refine mr_topv (show va_rf (mv_M_find n fr a0) = .null by rw [mr_fn _ hnr]; rfl) ?_
  refine lv_astoreN (lv' := [(4, .null), (0, .ref (r 0)), (1, .int a0), (2, .int a1), (3, .int a2)]) hx hb d_M_end_5 hl (by decide) rfl (fun ls hl => ?_)
  refine lv_aloadN hx hb d_M_end_7 (lv_at hl 0 rfl) ?_
  refine lv_ifnonnullN hx hb d_M_end_9 ?_
  obtain ⟨sa, hstr⟩ := mr_str (hts (Cond.stringRef "MeasureRows" 121 "no such row") mw_146) hown
  exact mr_throw (names := mr_up) hx hb hlt hown (by decide +kernel) (by decide +kernel) (hts (Cond.classLink "MeasureRows" 56 mr_iob) mw_129) (hts (Cond.initialized mr_iob) mw_130) hstr (hB.own _ mr_a_iob) (hl.1.trans hml.symm) d_M_end_12 d_M_end_15 d_M_end_16 d_M_end_18 d_M_end_21 hno (Nat.le_of_ble_eq_true rfl) (Nat.le_of_ble_eq_true rfl) (Nat.le_of_ble_eq_true rfl) (Nat.le_of_ble_eq_true rfl) hlocks rfl (Nat.le_of_ble_eq_true rfl) (Nat.le_of_ble_eq_true rfl)
