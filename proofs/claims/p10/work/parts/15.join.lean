/-- inside, with j of the groups gone through -/
def mv_jo (fi : Nat → Int32) (gr br : Int32) (j : Nat) : Nat → Int32 := fun k => if k < j then (if nI k + 16 = gr then fi k ||| br else if mv_M_hasBit (fi k) gr = 0 then fi k else fi k ||| br) else fi k
theorem mv_jo_at (fi : Nat → Int32) (gr br : Int32) (j : Nat) (hj : j < 8) : mv_jo fi gr br j (nI j).toNatClampNeg = fi j := by
  rw [nI_clamp (by omega)]; unfold mv_jo; rw [if_neg (Nat.lt_irrefl j)]
theorem mv_jo_set {fi : Nat → Int32} {gr br : Int32} {j : Nat} (hj : j < 8) (h : nI j + 16 = gr ∨ ¬ mv_M_hasBit (fi j) gr = 0) : upd (mv_jo fi gr br j) (nI j).toNatClampNeg (fi j ||| br) = mv_jo fi gr br (j + 1) := by
  funext k
  rw [nI_clamp (by omega)]
  unfold upd mv_jo
  by_cases hk : k = j
  · subst hk
    rw [if_pos rfl, if_pos (Nat.lt_succ_self k)]
    by_cases h1 : nI k + 16 = gr
    · rw [if_pos h1]
    · rw [if_neg h1, if_neg (h.resolve_left h1)]
  · rw [if_neg hk]
    by_cases h2 : k < j
    · rw [if_pos h2, if_pos (show k < j + 1 by omega)]
    · rw [if_neg h2, if_neg (show ¬ k < j + 1 by omega)]
theorem mv_jo_skip {fi : Nat → Int32} {gr br : Int32} {j : Nat} (h1 : ¬ nI j + 16 = gr) (h : mv_M_hasBit (fi j) gr = 0) : mv_jo fi gr br j = mv_jo fi gr br (j + 1) := by
  funext k
  unfold mv_jo
  by_cases hk : k = j
  · subst hk
    rw [if_neg (Nat.lt_irrefl k), if_pos (Nat.lt_succ_self k), if_neg h1, if_pos h]
  · by_cases h2 : k < j
    · rw [if_pos h2, if_pos (show k < j + 1 by omega)]
    · rw [if_neg h2, if_neg (show ¬ k < j + 1 by omega)]
theorem mv_jo_0 (fi : Nat → Int32) (gr br : Int32) : mv_jo fi gr br 0 = fi := by
  funext k; unfold mv_jo; rw [if_neg (Nat.not_lt_zero k)]
def mv_jbr (fi : Nat → Int32) (b : Int32) : Int32 := (1 <<< (b &&& 31)) ||| (mv_G_insideOf fi b)
def mv_G_join (fm fi : Nat → Int32) (a0 a1 : Int32) : Int32 := if mv_M_isGroup a0 = 0 then 0 else if mv_M_hasBit (fm (a0 - 16).toNatClampNeg) a1 = 0 then (if mv_G_wouldRing fi a0 a1 = 0 then 1 else 0) else 0
theorem mv_G_join_b (fm fi : Nat → Int32) (a0 a1 : Int32) : mr_b01 (mv_G_join fm fi a0 a1) := mr_bi mr_b0 (mr_bi (mr_bi mr_b1 mr_b0) mr_b0)
def mv_G_joinM (fm fi : Nat → Int32) (a0 a1 : Int32) : Nat → Int32 := if mv_G_join fm fi a0 a1 = 0 then fm else upd fm (a0 - 16).toNatClampNeg (fm (a0 - 16).toNatClampNeg ||| (1 <<< (a1 &&& 31)))
def mv_G_joinI (fm fi : Nat → Int32) (a0 a1 : Int32) : Nat → Int32 := if mv_G_join fm fi a0 a1 = 0 then fi else mv_jo fi a0 (mv_jbr fi a1) 8
theorem mw_64 : Cond.methodLink "MeasureRows$Row" 3 objectInit ∈ lw_tbl := by decide +kernel
theorem mw_65 : Cond.fieldLink "MeasureRows$Row" 9 "MeasureRows$Row" "code" "I" ∈ lw_tbl := by decide +kernel
theorem mw_66 : Cond.fieldLink "MeasureRows$Row" 15 "MeasureRows$Row" "place" "I" ∈ lw_tbl := by decide +kernel
theorem mw_67 : Cond.fieldLink "MeasureRows$Row" 18 "MeasureRows$Row" "first" "I" ∈ lw_tbl := by decide +kernel
theorem mw_68 : Cond.fieldLink "MeasureRows$Row" 21 "MeasureRows$Row" "kind" "I" ∈ lw_tbl := by decide +kernel
theorem mw_69 : Cond.fieldLink "MeasureRows$Row" 24 "MeasureRows$Row" "rank" "I" ∈ lw_tbl := by decide +kernel
theorem mw_70 : Cond.fieldLink "MeasureRows$Row" 27 "MeasureRows$Row" "known" "I" ∈ lw_tbl := by decide +kernel
theorem mw_71 : Cond.fieldLink "MeasureRows$Row" 30 "MeasureRows$Row" "excluded" "I" ∈ lw_tbl := by decide +kernel
theorem mw_72 : Cond.fieldLink "MeasureRows$Row" 33 "MeasureRows$Row" "wanted" "I" ∈ lw_tbl := by decide +kernel
theorem mw_73 : Cond.fieldLink "MeasureRows$Row" 36 "MeasureRows$Row" "lastDays" "[I" ∈ lw_tbl := by decide +kernel
theorem mw_74 : Cond.fieldLink "MeasureRows$Row" 40 "MeasureRows$Row" "knownDays" "[I" ∈ lw_tbl := by decide +kernel
theorem mw_75 : Cond.fieldLink "MeasureRows$Row" 43 "MeasureRows$Row" "told" "I" ∈ lw_tbl := by decide +kernel
theorem mw_76 : Cond.code y_G_wouldRing b_G_wouldRing 3 (some .boolean) ∈ lw_tbl := by decide +kernel
theorem mw_77 : Cond.initialized y_G_wouldRing.cls ∈ lw_tbl := by decide +kernel
theorem mw_78 : Cond.methodLink "MeasureRows$Groups" 26 y_G_wouldRing ∈ lw_tbl := by decide +kernel
theorem mw_79 : Cond.instanceMethod y_G_wouldRing ∈ lw_tbl := by decide +kernel
theorem mw_80 : Cond.selects "MeasureRows$Groups" y_G_wouldRing y_G_wouldRing ∈ lw_tbl := by decide +kernel
set_option maxHeartbeats 4000000 in
set_option maxRecDepth 100000 in
theorem mc_R_init (l : Launch) (s0 : State) (dC : Nat → ClassId) (dI : Nat → Nat → Nat) (cI cR cL cZ : ClassId) (q : Nat) (sz : Nat) (a0 : Int32) (a1 : Int32) (a2 : Int32) (a3 : Int32) (a4 : Int32) (a5 : Int32) (a6 : Int32)  : Met l y_R_init [Cond.code y_R_init b_R_init 8 none] ({ frames := 1, cells := 2, slots := 16, locals := 20 }) (mr_PC s0 (dC, dI) [(cI, .int), (cR, .object "MeasureRows$Row"), (cL, .long), (cZ, .boolean)] [.ref q, .int a0, .int a1, .int a2, .int a3, .int a4, .int a5, .int a6] [(q, .inr (2, [.int 0, .int 0, .int 0, .int 0, .int 0, .int 0, .int 0, .int 0, .int 0, .null, .null]))] sz) (va_Qv (fun _ => True) (fun (u : Nat × Nat) t => mr_W (dC, dI) [(cI, .int), (cR, .object "MeasureRows$Row"), (cL, .long), (cZ, .boolean)] (va_A [(q, .inr (2, [.int 0, .int 0, .int 0, .int 0, .int 0, .int 0, .int 0, .int 0, .int 0, .null, .null]))] sz) [(q, .inr (2, [.int a0, .int a1, .int a2, .int a4, .int a5, .int a6, .int 0, .int 0, .int 1, .ref u.1, .ref u.2])), (u.1, .inl (cI, 8, .inl (upd (fun _ => 0) (0 : Int32).toNatClampNeg a3))), (u.2, .inl (cI, 8, .inl (upd (fun _ => 0) (0 : Int32).toNatClampNeg a6)))] t) (va_A [(q, .inr (2, [.int 0, .int 0, .int 0, .int 0, .int 0, .int 0, .int 0, .int 0, .int 0, .null, .null]))] sz)) 2 16 (va_A [(q, .inr (2, [.int 0, .int 0, .int 0, .int 0, .int 0, .int 0, .int 0, .int 0, .int 0, .null, .null]))] sz) := by
  refine Met.ofW (cc := b_R_init) (maxL := 8) (ret := none) (by decide) rfl ?_
  intro p e s m args below meth c s₁ B hml hv
  obtain ⟨rfl, hsz, hB, hK, hP, hD0⟩ := hv
  subst hsz
  have hA0 := mr_A hB hD0
  have hD := hD0.self (sz := s.heap.size)
  generalize hAe : va_A [(q, .inr (2, [.int 0, .int 0, .int 0, .int 0, .int 0, .int 0, .int 0, .int 0, .int 0, .null, .null]))] s.heap.size = A at hD hA0 ⊢
  have hA : ∀ q : Nat, s.heap.size ≤ q → A q := fun q h => by rw [← hAe]; exact Or.inr h
  have hS : va_S A s.heap s.heap [] := va_S.rf
  have hP : va_P (dC, dI) mr_cl [(q, .inr (2, [.int 0, .int 0, .int 0, .int 0, .int 0, .int 0, .int 0, .int 0, .int 0, .null, .null]))] s.heap := hP
  have hBH := hB.at hS hA0
  have hin : meth.name = "<init>" := (name_of_methodNamed B.named B.method).1
  have hx := B.exec
  have hb := B.bytes
  have hr := B.returns
  have hlocks := B.notSynchronized
  have hts : ∀ w ∈ lw_tbl, w.before [.ref q, .int a0, .int a1, .int a2, .int a3, .int a4, .int a5, .int a6].toArray s = true := hB.hts _
  have hown : s.vm.findClass "MeasureRows$Row" = some m.cls := findClass_of_methodNamed B.named
  have hl := lv_entry ([.ref q, .int a0, .int a1, .int a2, .int a3, .int a4, .int a5, .int a6]) (n := 8) (Nat.le_of_ble_eq_true rfl)
  rw [lg_entry_eq]
  generalize (lg_sl ([.ref q, .int a0, .int a1, .int a2, .int a3, .int a4, .int a5, .int a6]) ++ List.replicate (8 - (lg_sl ([.ref q, .int a0, .int a1, .int a2, .int a3, .int a4, .int a5, .int a6])).length) Slot.unset).toArray = ls at hl ⊢
  have hl : lv_has ls 8 [(0, .ref q), (1, .int a0), (2, .int a1), (3, .int a2), (4, .int a3), (5, .int a4), (6, .int a5), (7, .int a6)] := hl
  refine lv_aload_n hx hb d_R_init_0 rfl (lv_at hl 0 rfl) ?_
  refine W.objInit hx hb hown (hts (Cond.methodLink "MeasureRows$Row" 3 objectInit) mw_64) (hts (Cond.instanceMethod objectInit) mw_41) (hts (Cond.code objectInit ⟨#[0xb1]⟩ 1 none) mw_42) rfl (by rw [hml]; exact hl.1) rfl d_R_init_1 (Nat.le_of_ble_eq_true rfl) (Nat.le_of_ble_eq_true rfl) ?_
  refine W.eq (g2 := F0 m 4 ls []) rfl ?_
  refine lv_aload_n hx hb d_R_init_4 rfl (lv_at hl 0 rfl) ?_
  refine lv_iload_n hx hb d_R_init_5 rfl (lv_at hl 1 rfl) ?_
  refine va_putF (D := (dC, dI)) (ci := 2) (v := .int a0) (ty := .int) (C := R_R) (T := T_R) (N := 11) hx hb hts ti_R t_R to_R tn_R hown hK hP hD hS 0 rfl rfl 0 (by decide) (hts (Cond.fieldLink "MeasureRows$Row" 9 "MeasureRows$Row" "code" "I") mw_65) (fun _ h9 => h9) rfl hin rfl (by decide +kernel) rfl rfl (Nat.le_of_ble_eq_true rfl) d_R_init_6 (fun H locs hP hD hS => ?_)
  have hP : va_P (dC, dI) mr_cl [(q, .inr (2, [.int a0, .int 0, .int 0, .int 0, .int 0, .int 0, .int 0, .int 0, .int 0, .null, .null]))] H := hP
  have hD : va_D A [(q, .inr (2, [.int a0, .int 0, .int 0, .int 0, .int 0, .int 0, .int 0, .int 0, .int 0, .null, .null]))] := hD
  have hBH := hB.at hS hA0
  refine lv_aload_n hx hb d_R_init_9 rfl (lv_at hl 0 rfl) ?_
  refine lv_iload_n hx hb d_R_init_10 rfl (lv_at hl 2 rfl) ?_
  refine va_putF (D := (dC, dI)) (ci := 2) (v := .int a1) (ty := .int) (C := R_R) (T := T_R) (N := 11) hx hb hts ti_R t_R to_R tn_R hown hK hP hD hS 0 rfl rfl 1 (by decide) (hts (Cond.fieldLink "MeasureRows$Row" 15 "MeasureRows$Row" "place" "I") mw_66) (fun _ h9 => h9) rfl hin rfl (by decide +kernel) rfl rfl (Nat.le_of_ble_eq_true rfl) d_R_init_11 (fun H locs hP hD hS => ?_)
  have hP : va_P (dC, dI) mr_cl [(q, .inr (2, [.int a0, .int a1, .int 0, .int 0, .int 0, .int 0, .int 0, .int 0, .int 0, .null, .null]))] H := hP
  have hD : va_D A [(q, .inr (2, [.int a0, .int a1, .int 0, .int 0, .int 0, .int 0, .int 0, .int 0, .int 0, .null, .null]))] := hD
  have hBH := hB.at hS hA0
  refine lv_aload_n hx hb d_R_init_14 rfl (lv_at hl 0 rfl) ?_
  refine lv_iload_n hx hb d_R_init_15 rfl (lv_at hl 3 rfl) ?_
  refine va_putF (D := (dC, dI)) (ci := 2) (v := .int a2) (ty := .int) (C := R_R) (T := T_R) (N := 11) hx hb hts ti_R t_R to_R tn_R hown hK hP hD hS 0 rfl rfl 2 (by decide) (hts (Cond.fieldLink "MeasureRows$Row" 18 "MeasureRows$Row" "first" "I") mw_67) (fun _ h9 => h9) rfl hin rfl (by decide +kernel) rfl rfl (Nat.le_of_ble_eq_true rfl) d_R_init_16 (fun H locs hP hD hS => ?_)
  have hP : va_P (dC, dI) mr_cl [(q, .inr (2, [.int a0, .int a1, .int a2, .int 0, .int 0, .int 0, .int 0, .int 0, .int 0, .null, .null]))] H := hP
  have hD : va_D A [(q, .inr (2, [.int a0, .int a1, .int a2, .int 0, .int 0, .int 0, .int 0, .int 0, .int 0, .null, .null]))] := hD
  have hBH := hB.at hS hA0
  refine lv_aload_n hx hb d_R_init_19 rfl (lv_at hl 0 rfl) ?_
  refine lv_iload hx hb d_R_init_20 (lv_at hl 5 rfl) ?_
  refine va_putF (D := (dC, dI)) (ci := 2) (v := .int a4) (ty := .int) (C := R_R) (T := T_R) (N := 11) hx hb hts ti_R t_R to_R tn_R hown hK hP hD hS 0 rfl rfl 3 (by decide) (hts (Cond.fieldLink "MeasureRows$Row" 21 "MeasureRows$Row" "kind" "I") mw_68) (fun _ h9 => h9) rfl hin rfl (by decide +kernel) rfl rfl (Nat.le_of_ble_eq_true rfl) d_R_init_22 (fun H locs hP hD hS => ?_)
  have hP : va_P (dC, dI) mr_cl [(q, .inr (2, [.int a0, .int a1, .int a2, .int a4, .int 0, .int 0, .int 0, .int 0, .int 0, .null, .null]))] H := hP
  have hD : va_D A [(q, .inr (2, [.int a0, .int a1, .int a2, .int a4, .int 0, .int 0, .int 0, .int 0, .int 0, .null, .null]))] := hD
  have hBH := hB.at hS hA0
  refine lv_aload_n hx hb d_R_init_25 rfl (lv_at hl 0 rfl) ?_
  refine lv_iload hx hb d_R_init_26 (lv_at hl 6 rfl) ?_
  refine va_putF (D := (dC, dI)) (ci := 2) (v := .int a5) (ty := .int) (C := R_R) (T := T_R) (N := 11) hx hb hts ti_R t_R to_R tn_R hown hK hP hD hS 0 rfl rfl 4 (by decide) (hts (Cond.fieldLink "MeasureRows$Row" 24 "MeasureRows$Row" "rank" "I") mw_69) (fun _ h9 => h9) rfl hin rfl (by decide +kernel) rfl rfl (Nat.le_of_ble_eq_true rfl) d_R_init_28 (fun H locs hP hD hS => ?_)
  have hP : va_P (dC, dI) mr_cl [(q, .inr (2, [.int a0, .int a1, .int a2, .int a4, .int a5, .int 0, .int 0, .int 0, .int 0, .null, .null]))] H := hP
  have hD : va_D A [(q, .inr (2, [.int a0, .int a1, .int a2, .int a4, .int a5, .int 0, .int 0, .int 0, .int 0, .null, .null]))] := hD
  have hBH := hB.at hS hA0
  refine lv_aload_n hx hb d_R_init_31 rfl (lv_at hl 0 rfl) ?_
  refine lv_iload hx hb d_R_init_32 (lv_at hl 7 rfl) ?_
  refine va_putF (D := (dC, dI)) (ci := 2) (v := .int a6) (ty := .int) (C := R_R) (T := T_R) (N := 11) hx hb hts ti_R t_R to_R tn_R hown hK hP hD hS 0 rfl rfl 5 (by decide) (hts (Cond.fieldLink "MeasureRows$Row" 27 "MeasureRows$Row" "known" "I") mw_70) (fun _ h9 => h9) rfl hin rfl (by decide +kernel) rfl rfl (Nat.le_of_ble_eq_true rfl) d_R_init_34 (fun H locs hP hD hS => ?_)
  have hP : va_P (dC, dI) mr_cl [(q, .inr (2, [.int a0, .int a1, .int a2, .int a4, .int a5, .int a6, .int 0, .int 0, .int 0, .null, .null]))] H := hP
  have hD : va_D A [(q, .inr (2, [.int a0, .int a1, .int a2, .int a4, .int a5, .int a6, .int 0, .int 0, .int 0, .null, .null]))] := hD
  have hBH := hB.at hS hA0
  refine lv_aload_n hx hb d_R_init_37 rfl (lv_at hl 0 rfl) ?_
  refine lv_iconst (v := 0) hx hb d_R_init_38 (by decide) ?_
  refine va_put (D := (dC, dI)) (ci := 2) (v := .int 0) (ty := .int) (C := R_R) (T := T_R) (N := 11) hx hb hts ti_R t_R to_R tn_R hown hK hP hD hS 0 rfl rfl 6 (by decide) (hts (Cond.fieldLink "MeasureRows$Row" 30 "MeasureRows$Row" "excluded" "I") mw_71) (fun _ h9 => h9) rfl (by decide +kernel) rfl rfl (Nat.le_of_ble_eq_true rfl) d_R_init_39 (fun H locs hP hD hS => ?_)
  have hP : va_P (dC, dI) mr_cl [(q, .inr (2, [.int a0, .int a1, .int a2, .int a4, .int a5, .int a6, .int 0, .int 0, .int 0, .null, .null]))] H := hP
  have hD : va_D A [(q, .inr (2, [.int a0, .int a1, .int a2, .int a4, .int a5, .int a6, .int 0, .int 0, .int 0, .null, .null]))] := hD
  have hBH := hB.at hS hA0
  refine lv_aload_n hx hb d_R_init_42 rfl (lv_at hl 0 rfl) ?_
  refine lv_iconst (v := 0) hx hb d_R_init_43 (by decide) ?_
  refine va_put (D := (dC, dI)) (ci := 2) (v := .int 0) (ty := .int) (C := R_R) (T := T_R) (N := 11) hx hb hts ti_R t_R to_R tn_R hown hK hP hD hS 0 rfl rfl 7 (by decide) (hts (Cond.fieldLink "MeasureRows$Row" 33 "MeasureRows$Row" "wanted" "I") mw_72) (fun _ h9 => h9) rfl (by decide +kernel) rfl rfl (Nat.le_of_ble_eq_true rfl) d_R_init_44 (fun H locs hP hD hS => ?_)
  have hP : va_P (dC, dI) mr_cl [(q, .inr (2, [.int a0, .int a1, .int a2, .int a4, .int a5, .int a6, .int 0, .int 0, .int 0, .null, .null]))] H := hP
  have hD : va_D A [(q, .inr (2, [.int a0, .int a1, .int a2, .int a4, .int a5, .int a6, .int 0, .int 0, .int 0, .null, .null]))] := hD
  have hBH := hB.at hS hA0
  refine lv_aload_n hx hb d_R_init_47 rfl (lv_at hl 0 rfl) ?_
  refine lv_bipush (v := 8) hx hb d_R_init_48 (by decide) ?_
  refine va_newa (atype := .int) hx hb (hts (Cond.arrayClass .int) mw_43) (ty := .int) rfl hK hP hD hS hA (n := 8) (N' := 8) (a0 := (8, .inl (fun _ => 0))) (fun _ => rfl) (by decide) (by decide) (by decide) (Nat.le_of_ble_eq_true rfl) (Nat.le_of_ble_eq_true rfl) d_R_init_50 (fun q_1 cA_2 H hK1 hP hD hS => ?_)
  rw [mr_sameI hK1] at hP hD
  clear hK1
  have hP : va_P (dC, dI) mr_cl [(q, .inr (2, [.int a0, .int a1, .int a2, .int a4, .int a5, .int a6, .int 0, .int 0, .int 0, .null, .null])), (q_1, .inl (cI, 8, .inl (fun _ => 0)))] H := hP
  have hD : va_D A [(q, .inr (2, [.int a0, .int a1, .int a2, .int a4, .int a5, .int a6, .int 0, .int 0, .int 0, .null, .null])), (q_1, .inl (cI, 8, .inl (fun _ => 0)))] := hD
  have hBH := hB.at hS hA0
  refine W.widen (k := 1) (n := 8) (by omega) (by omega) ?_
  refine va_putF (D := (dC, dI)) (ci := 2) (v := .ref q_1) (ty := (.array .int)) (C := R_R) (T := T_R) (N := 11) hx hb hts ti_R t_R to_R tn_R hown hK hP hD hS 0 rfl rfl 9 (by decide) (hts (Cond.fieldLink "MeasureRows$Row" 36 "MeasureRows$Row" "lastDays" "[I") mw_73) (fun _ h9 => h9) rfl hin rfl (by decide +kernel) rfl rfl (Nat.le_of_ble_eq_true rfl) d_R_init_52 (fun H locs hP hD hS => ?_)
  have hP : va_P (dC, dI) mr_cl [(q, .inr (2, [.int a0, .int a1, .int a2, .int a4, .int a5, .int a6, .int 0, .int 0, .int 0, .ref q_1, .null])), (q_1, .inl (cI, 8, .inl (fun _ => 0)))] H := hP
  have hD : va_D A [(q, .inr (2, [.int a0, .int a1, .int a2, .int a4, .int a5, .int a6, .int 0, .int 0, .int 0, .ref q_1, .null])), (q_1, .inl (cI, 8, .inl (fun _ => 0)))] := hD
  have hBH := hB.at hS hA0
  refine lv_aload_n hx hb d_R_init_55 rfl (lv_at hl 0 rfl) ?_
  refine lv_bipush (v := 8) hx hb d_R_init_56 (by decide) ?_
  refine va_newa (atype := .int) hx hb (hts (Cond.arrayClass .int) mw_43) (ty := .int) rfl hK hP hD hS hA (n := 8) (N' := 8) (a0 := (8, .inl (fun _ => 0))) (fun _ => rfl) (by decide) (by decide) (by decide) (Nat.le_of_ble_eq_true rfl) (Nat.le_of_ble_eq_true rfl) d_R_init_58 (fun q_3 cA_4 H hK1 hP hD hS => ?_)
  rw [mr_sameI hK1] at hP hD
  clear hK1
  have hP : va_P (dC, dI) mr_cl [(q, .inr (2, [.int a0, .int a1, .int a2, .int a4, .int a5, .int a6, .int 0, .int 0, .int 0, .ref q_1, .null])), (q_1, .inl (cI, 8, .inl (fun _ => 0))), (q_3, .inl (cI, 8, .inl (fun _ => 0)))] H := hP
  have hD : va_D A [(q, .inr (2, [.int a0, .int a1, .int a2, .int a4, .int a5, .int a6, .int 0, .int 0, .int 0, .ref q_1, .null])), (q_1, .inl (cI, 8, .inl (fun _ => 0))), (q_3, .inl (cI, 8, .inl (fun _ => 0)))] := hD
  have hBH := hB.at hS hA0
  refine W.widen (k := 2) (n := 16) (by omega) (by omega) ?_
  refine va_putF (D := (dC, dI)) (ci := 2) (v := .ref q_3) (ty := (.array .int)) (C := R_R) (T := T_R) (N := 11) hx hb hts ti_R t_R to_R tn_R hown hK hP hD hS 0 rfl rfl 10 (by decide) (hts (Cond.fieldLink "MeasureRows$Row" 40 "MeasureRows$Row" "knownDays" "[I") mw_74) (fun _ h9 => h9) rfl hin rfl (by decide +kernel) rfl rfl (Nat.le_of_ble_eq_true rfl) d_R_init_60 (fun H locs hP hD hS => ?_)
  have hP : va_P (dC, dI) mr_cl [(q, .inr (2, [.int a0, .int a1, .int a2, .int a4, .int a5, .int a6, .int 0, .int 0, .int 0, .ref q_1, .ref q_3])), (q_1, .inl (cI, 8, .inl (fun _ => 0))), (q_3, .inl (cI, 8, .inl (fun _ => 0)))] H := hP
  have hD : va_D A [(q, .inr (2, [.int a0, .int a1, .int a2, .int a4, .int a5, .int a6, .int 0, .int 0, .int 0, .ref q_1, .ref q_3])), (q_1, .inl (cI, 8, .inl (fun _ => 0))), (q_3, .inl (cI, 8, .inl (fun _ => 0)))] := hD
  have hBH := hB.at hS hA0
  refine lv_aload_n hx hb d_R_init_63 rfl (lv_at hl 0 rfl) ?_
  refine va_get (D := (dC, dI)) (ci := 2) (v := .ref q_1) (C := R_R) (T := T_R) (N := 11) hx hb hts ti_R hown hK hP 0 rfl rfl 9 (by decide) (hts (Cond.fieldLink "MeasureRows$Row" 36 "MeasureRows$Row" "lastDays" "[I") mw_73) (fun _ h9 => h9) rfl d_R_init_64 ?_
  refine lv_iconst (v := 0) hx hb d_R_init_67 (by decide) ?_
  refine lv_iload hx hb d_R_init_68 (lv_at hl 4 rfl) ?_
  refine va_iast (D := (dC, dI)) hx hb hK hP hD hS 1 0 rfl rfl (i := 0) (by unfold vp_in; decide) d_R_init_70 (fun H locs hP hD hS => ?_)
  have hP : va_P (dC, dI) mr_cl [(q, .inr (2, [.int a0, .int a1, .int a2, .int a4, .int a5, .int a6, .int 0, .int 0, .int 0, .ref q_1, .ref q_3])), (q_1, .inl (cI, 8, .inl (upd (fun _ => 0) (0 : Int32).toNatClampNeg a3))), (q_3, .inl (cI, 8, .inl (fun _ => 0)))] H := hP
  have hD : va_D A [(q, .inr (2, [.int a0, .int a1, .int a2, .int a4, .int a5, .int a6, .int 0, .int 0, .int 0, .ref q_1, .ref q_3])), (q_1, .inl (cI, 8, .inl (upd (fun _ => 0) (0 : Int32).toNatClampNeg a3))), (q_3, .inl (cI, 8, .inl (fun _ => 0)))] := hD
  have hBH := hB.at hS hA0
  refine lv_aload_n hx hb d_R_init_71 rfl (lv_at hl 0 rfl) ?_
  refine va_get (D := (dC, dI)) (ci := 2) (v := .ref q_3) (C := R_R) (T := T_R) (N := 11) hx hb hts ti_R hown hK hP 0 rfl rfl 10 (by decide) (hts (Cond.fieldLink "MeasureRows$Row" 40 "MeasureRows$Row" "knownDays" "[I") mw_74) (fun _ h9 => h9) rfl d_R_init_72 ?_
  refine lv_iconst (v := 0) hx hb d_R_init_75 (by decide) ?_
  refine lv_iload hx hb d_R_init_76 (lv_at hl 7 rfl) ?_
  refine va_iast (D := (dC, dI)) hx hb hK hP hD hS 2 0 rfl rfl (i := 0) (by unfold vp_in; decide) d_R_init_78 (fun H locs hP hD hS => ?_)
  have hP : va_P (dC, dI) mr_cl [(q, .inr (2, [.int a0, .int a1, .int a2, .int a4, .int a5, .int a6, .int 0, .int 0, .int 0, .ref q_1, .ref q_3])), (q_1, .inl (cI, 8, .inl (upd (fun _ => 0) (0 : Int32).toNatClampNeg a3))), (q_3, .inl (cI, 8, .inl (upd (fun _ => 0) (0 : Int32).toNatClampNeg a6)))] H := hP
  have hD : va_D A [(q, .inr (2, [.int a0, .int a1, .int a2, .int a4, .int a5, .int a6, .int 0, .int 0, .int 0, .ref q_1, .ref q_3])), (q_1, .inl (cI, 8, .inl (upd (fun _ => 0) (0 : Int32).toNatClampNeg a3))), (q_3, .inl (cI, 8, .inl (upd (fun _ => 0) (0 : Int32).toNatClampNeg a6)))] := hD
  have hBH := hB.at hS hA0
  refine lv_aload_n hx hb d_R_init_79 rfl (lv_at hl 0 rfl) ?_
  refine lv_iconst (v := 1) hx hb d_R_init_80 (by decide) ?_
  refine va_put (D := (dC, dI)) (ci := 2) (v := .int 1) (ty := .int) (C := R_R) (T := T_R) (N := 11) hx hb hts ti_R t_R to_R tn_R hown hK hP hD hS 0 rfl rfl 8 (by decide) (hts (Cond.fieldLink "MeasureRows$Row" 43 "MeasureRows$Row" "told" "I") mw_75) (fun _ h9 => h9) rfl (by decide +kernel) rfl rfl (Nat.le_of_ble_eq_true rfl) d_R_init_81 (fun H locs hP hD hS => ?_)
  have hP : va_P (dC, dI) mr_cl [(q, .inr (2, [.int a0, .int a1, .int a2, .int a4, .int a5, .int a6, .int 0, .int 0, .int 1, .ref q_1, .ref q_3])), (q_1, .inl (cI, 8, .inl (upd (fun _ => 0) (0 : Int32).toNatClampNeg a3))), (q_3, .inl (cI, 8, .inl (upd (fun _ => 0) (0 : Int32).toNatClampNeg a6)))] H := hP
  have hD : va_D A [(q, .inr (2, [.int a0, .int a1, .int a2, .int a4, .int a5, .int a6, .int 0, .int 0, .int 1, .ref q_1, .ref q_3])), (q_1, .inl (cI, 8, .inl (upd (fun _ => 0) (0 : Int32).toNatClampNeg a3))), (q_3, .inl (cI, 8, .inl (upd (fun _ => 0) (0 : Int32).toNatClampNeg a6)))] := hD
  have hBH := hB.at hS hA0
  have hP9 := hP.sub (ws' := [(q, .inr (2, [.int a0, .int a1, .int a2, .int a4, .int a5, .int a6, .int 0, .int 0, .int 1, .ref q_1, .ref q_3])), (q_1, .inl (cI, 8, .inl (upd (fun _ => 0) (0 : Int32).toNatClampNeg a3))), (q_3, .inl (cI, 8, .inl (upd (fun _ => 0) (0 : Int32).toNatClampNeg a6)))]) [0, 1, 2] rfl
  have hD9 := hD.sub (ws' := [(q, .inr (2, [.int a0, .int a1, .int a2, .int a4, .int a5, .int a6, .int 0, .int 0, .int 1, .ref q_1, .ref q_3])), (q_1, .inl (cI, 8, .inl (upd (fun _ => 0) (0 : Int32).toNatClampNeg a3))), (q_3, .inl (cI, 8, .inl (upd (fun _ => 0) (0 : Int32).toNatClampNeg a6)))]) [0, 1, 2] (by decide) rfl
  exact W.vret hx hb hr (fun t ht hW => ⟨⟨(q_1, q_3), rfl, trivial, by rw [ht]; exact hP9, va_K.moved hW.alike hK, hD9⟩, hS.F ht⟩) hS.2.2 d_R_init_84
set_option maxHeartbeats 4000000 in
set_option maxRecDepth 100000 in
theorem mc_G_join (l : Launch) (s0 : State) (dC : Nat → ClassId) (dI : Nat → Nat → Nat) (cI cR cL cZ : ClassId) (q gm gi : Nat) (fm fi : Nat → Int32) (sz : Nat) (a0 : Int32) (a1 : Int32)  : Met l y_G_join [Cond.code y_G_join b_G_join 5 (some .boolean)] ({ frames := 3, cells := 0, slots := 0, locals := 63 }) (mr_PC s0 (dC, dI) [(cI, .int), (cR, .object "MeasureRows$Row"), (cL, .long), (cZ, .boolean)] [.ref q, .int a0, .int a1] [(q, .inr (1, [.ref gm, .ref gi])), (gm, .inl (cI, 8, .inl fm)), (gi, .inl (cI, 8, .inl fi))] sz) (va_Qi (fun rr u => rr = mv_G_join fm fi a0 a1 ∧ u.1 = mv_G_joinM fm fi a0 a1 ∧ u.2 = mv_G_joinI fm fi a0 a1) (fun (u : (Nat → Int32) × (Nat → Int32)) t => mr_W (dC, dI) [(cI, .int), (cR, .object "MeasureRows$Row"), (cL, .long), (cZ, .boolean)] (va_A [(q, .inr (1, [.ref gm, .ref gi])), (gm, .inl (cI, 8, .inl fm)), (gi, .inl (cI, 8, .inl fi))] sz) [(q, .inr (1, [.ref gm, .ref gi])), (gm, .inl (cI, 8, .inl u.1)), (gi, .inl (cI, 8, .inl u.2))] t) (va_A [(q, .inr (1, [.ref gm, .ref gi])), (gm, .inl (cI, 8, .inl fm)), (gi, .inl (cI, 8, .inl fi))] sz)) 0 0 (va_A [(q, .inr (1, [.ref gm, .ref gi])), (gm, .inl (cI, 8, .inl fm)), (gi, .inl (cI, 8, .inl fi))] sz) := by
  refine Met.ofW (cc := b_G_join) (maxL := 5) (ret := (some .boolean)) (by decide) rfl ?_
  intro p e s m args below meth c s₁ B hml hv
  obtain ⟨rfl, hsz, hB, hK, hP, hD0⟩ := hv
  subst hsz
  have hA0 := mr_A hB hD0
  have hD := hD0.self (sz := s.heap.size)
  generalize hAe : va_A [(q, .inr (1, [.ref gm, .ref gi])), (gm, .inl (cI, 8, .inl fm)), (gi, .inl (cI, 8, .inl fi))] s.heap.size = A at hD hA0 ⊢
  have hA : ∀ q : Nat, s.heap.size ≤ q → A q := fun q h => by rw [← hAe]; exact Or.inr h
  have hS : va_S A s.heap s.heap [] := va_S.rf
  have hP : va_P (dC, dI) mr_cl [(q, .inr (1, [.ref gm, .ref gi])), (gm, .inl (cI, 8, .inl fm)), (gi, .inl (cI, 8, .inl fi))] s.heap := hP
  have hBH := hB.at hS hA0
  have hx := B.exec
  have hb := B.bytes
  have hr := B.returns
  have hlocks := B.notSynchronized
  have hts : ∀ w ∈ lw_tbl, w.before [.ref q, .int a0, .int a1].toArray s = true := hB.hts _
  have hown : s.vm.findClass "MeasureRows$Groups" = some m.cls := findClass_of_methodNamed B.named
  have hl := lv_entry ([.ref q, .int a0, .int a1]) (n := 5) (Nat.le_of_ble_eq_true rfl)
  rw [lg_entry_eq]
  generalize (lg_sl ([.ref q, .int a0, .int a1]) ++ List.replicate (5 - (lg_sl ([.ref q, .int a0, .int a1])).length) Slot.unset).toArray = ls at hl ⊢
  have hl : lv_has ls 5 [(0, .ref q), (1, .int a0), (2, .int a1)] := hl
  refine lv_iload_n hx hb d_G_join_0 rfl (lv_at hl 1 rfl) ?_
  refine vp_callSi (va_Run.run (va_runSN (As := [.int a0]) (rest := []) ⟨hx, hb, hml, hown, hts⟩ (mc_M_isGroup l s0 a0) ⟨(mr_cN 1 (hts (Cond.code y_M_isGroup b_M_isGroup 1 (some .boolean)) mw_5) (hts (Cond.initialized y_M_isGroup.cls) mw_6) (hts (Cond.methodLinkNest "MeasureRows$Groups" 18 y_M_isGroup "MeasureRows") mw_24) rfl rfl (by decide +kernel) ⟨Nat.le_of_ble_eq_true rfl, Nat.le_of_ble_eq_true rfl⟩), (hts (Cond.static y_M_isGroup) mw_8), trivial⟩ (mr_pre0 hBH) rfl rfl hl.1 rfl (lv_room (Nat.le_of_ble_eq_true rfl)) d_G_join_1 ⟨Nat.le_of_ble_eq_true rfl, Nat.le_of_ble_eq_true rfl⟩)) (fun r_1 h_2 => ?_)
  subst h_2
  refine lv_if_eq (tgt := 32) hx hb d_G_join_4 (by decide) (fun c_3 => ?_) (fun c_3 => ?_)
  · refine lv_iconst (v := 0) hx hb d_G_join_32 (by decide) ?_
    have e0 : mv_G_join fm fi a0 a1 = 0 := by unfold mv_G_join; rw [if_pos c_3]
    have hP9 := hP.sub (ws' := [(q, .inr (1, [.ref gm, .ref gi])), (gm, .inl (cI, 8, .inl fm)), (gi, .inl (cI, 8, .inl fi))]) [0, 1, 2] rfl
    have hD9 := hD.sub (ws' := [(q, .inr (1, [.ref gm, .ref gi])), (gm, .inl (cI, 8, .inl fm)), (gi, .inl (cI, 8, .inl fi))]) [0, 1, 2] (by decide) rfl
    exact W.zret (v := 0) hx hb hr (mr_narz mr_b0) (fun t ht hW => ⟨⟨_, (fm, fi), rfl, ⟨e0.symm, by unfold mv_G_joinM; rw [if_pos e0], by unfold mv_G_joinI; rw [if_pos e0]⟩, by rw [ht]; exact hP9, va_K.moved hW.alike hK, hD9⟩, hS.F ht⟩) hS.2.2 d_G_join_33
  · refine lv_aload_n hx hb d_G_join_7 rfl (lv_at hl 0 rfl) ?_
    refine va_get (D := (dC, dI)) (ci := 1) (v := .ref gm) (C := R_G) (T := T_G) (N := 2) hx hb hts ti_G hown hK hP 0 rfl rfl 0 (by decide) (hts (Cond.fieldLink "MeasureRows$Groups" 9 "MeasureRows$Groups" "members" "[I") mw_44) (fun _ h9 => h9) rfl d_G_join_8 ?_
    refine lv_iload_n hx hb d_G_join_11 rfl (lv_at hl 1 rfl) ?_
    refine lv_bipush (v := 16) hx hb d_G_join_12 (by decide) ?_
    refine lv_isub hx hb d_G_join_14 ?_
    refine va_iald (D := (dC, dI)) hx hb hK hP 1 0 rfl rfl (i := a0 - 16) (mr_gi c_3) d_G_join_15 ?_
    refine lv_iload_n hx hb d_G_join_16 rfl (lv_at hl 2 rfl) ?_
    refine vp_callSi (va_Run.run (va_runSN (As := [.int (fm (a0 - 16).toNatClampNeg), .int a1]) (rest := []) ⟨hx, hb, hml, hown, hts⟩ (mc_M_hasBit l s0 (fm (a0 - 16).toNatClampNeg) a1) ⟨(mr_cN 2 (hts (Cond.code y_M_hasBit b_M_hasBit 2 (some .boolean)) mw_31) (hts (Cond.initialized y_M_hasBit.cls) mw_32) (hts (Cond.methodLinkNest "MeasureRows$Groups" 22 y_M_hasBit "MeasureRows") mw_33) rfl rfl (by decide +kernel) ⟨Nat.le_of_ble_eq_true rfl, Nat.le_of_ble_eq_true rfl⟩), (hts (Cond.static y_M_hasBit) mw_34), trivial⟩ (mr_pre0 hBH) rfl rfl hl.1 rfl (lv_room (Nat.le_of_ble_eq_true rfl)) d_G_join_17 ⟨Nat.le_of_ble_eq_true rfl, Nat.le_of_ble_eq_true rfl⟩)) (fun r_4 h_5 => ?_)
    subst h_5
    refine lv_if_ne (tgt := 32) hx hb d_G_join_20 (by decide) (fun c_6 => ?_) (fun c_6 => ?_)
    · refine lv_iconst (v := 0) hx hb d_G_join_32 (by decide) ?_
      have e0 : mv_G_join fm fi a0 a1 = 0 := by unfold mv_G_join; rw [if_neg c_3, if_neg c_6]
      have hP9 := hP.sub (ws' := [(q, .inr (1, [.ref gm, .ref gi])), (gm, .inl (cI, 8, .inl fm)), (gi, .inl (cI, 8, .inl fi))]) [0, 1, 2] rfl
      have hD9 := hD.sub (ws' := [(q, .inr (1, [.ref gm, .ref gi])), (gm, .inl (cI, 8, .inl fm)), (gi, .inl (cI, 8, .inl fi))]) [0, 1, 2] (by decide) rfl
      exact W.zret (v := 0) hx hb hr (mr_narz mr_b0) (fun t ht hW => ⟨⟨_, (fm, fi), rfl, ⟨e0.symm, by unfold mv_G_joinM; rw [if_pos e0], by unfold mv_G_joinI; rw [if_pos e0]⟩, by rw [ht]; exact hP9, va_K.moved hW.alike hK, hD9⟩, hS.F ht⟩) hS.2.2 d_G_join_33
    · refine lv_aload_n hx hb d_G_join_23 rfl (lv_at hl 0 rfl) ?_
      refine lv_iload_n hx hb d_G_join_24 rfl (lv_at hl 1 rfl) ?_
      refine lv_iload_n hx hb d_G_join_25 rfl (lv_at hl 2 rfl) ?_
      refine vp_callSi (va_Run.run (va_runV (As := [.int a0, .int a1]) (rest := []) (C := R_G) ⟨hx, hb, hml, hown, hts⟩ (mc_G_wouldRing l s0 dC dI cI cR cL cZ q gm gi fi a0 a1) ⟨(mr_cB 2 (hts (Cond.code y_G_wouldRing b_G_wouldRing 3 (some .boolean)) mw_76) (hts (Cond.initialized y_G_wouldRing.cls) mw_77) (hts (Cond.methodLink "MeasureRows$Groups" 26 y_G_wouldRing) mw_78) rfl rfl (by decide +kernel) ⟨Nat.le_of_ble_eq_true rfl, Nat.le_of_ble_eq_true rfl⟩), (hts (Cond.instanceMethod y_G_wouldRing) mw_79), (hts (Cond.selects "MeasureRows$Groups" y_G_wouldRing y_G_wouldRing) mw_80)⟩ (mr_preV hBH hK (hP.sub (ws' := [(q, .inr (1, [.ref gm, .ref gi])), (gi, .inl (cI, 8, .inl fi))]) [0, 2] rfl) (ci := 1) (q0 := 0) rfl rfl) rfl rfl hl.1 rfl (lv_room (Nat.le_of_ble_eq_true rfl)) d_G_join_26 ⟨Nat.le_of_ble_eq_true rfl, Nat.le_of_ble_eq_true rfl⟩)) (fun r_7 h_8 => ?_)
      subst h_8
      refine lv_if_eq (tgt := 34) hx hb d_G_join_29 (by decide) (fun c_9 => ?_) (fun c_9 => ?_)
      · refine lv_aload_n hx hb d_G_join_34 rfl (lv_at hl 0 rfl) ?_
        refine va_get (D := (dC, dI)) (ci := 1) (v := .ref gm) (C := R_G) (T := T_G) (N := 2) hx hb hts ti_G hown hK hP 0 rfl rfl 0 (by decide) (hts (Cond.fieldLink "MeasureRows$Groups" 9 "MeasureRows$Groups" "members" "[I") mw_44) (fun _ h9 => h9) rfl d_G_join_35 ?_
        refine lv_iload_n hx hb d_G_join_38 rfl (lv_at hl 1 rfl) ?_
        refine lv_bipush (v := 16) hx hb d_G_join_39 (by decide) ?_
        refine lv_isub hx hb d_G_join_41 ?_
        refine lv_dup2_11 hx hb d_G_join_42 rfl rfl ?_
        refine va_iald (D := (dC, dI)) hx hb hK hP 1 0 rfl rfl (i := a0 - 16) (mr_gi c_3) d_G_join_43 ?_
        refine lv_iconst (v := 1) hx hb d_G_join_44 (by decide) ?_
        refine lv_iload_n hx hb d_G_join_45 rfl (lv_at hl 2 rfl) ?_
        refine lv_ishl hx hb d_G_join_46 ?_
        refine lv_ior hx hb d_G_join_47 ?_
        refine va_iast (D := (dC, dI)) hx hb hK hP hD hS 1 0 rfl rfl (i := a0 - 16) (mr_gi c_3) d_G_join_48 (fun H locs hP hD hS => ?_)
        have hP : va_P (dC, dI) mr_cl [(q, .inr (1, [.ref gm, .ref gi])), (gm, .inl (cI, 8, .inl (upd fm (a0 - 16).toNatClampNeg ((fm (a0 - 16).toNatClampNeg) ||| (1 <<< (a1 &&& 31)))))), (gi, .inl (cI, 8, .inl fi))] H := hP
        have hD : va_D A [(q, .inr (1, [.ref gm, .ref gi])), (gm, .inl (cI, 8, .inl (upd fm (a0 - 16).toNatClampNeg ((fm (a0 - 16).toNatClampNeg) ||| (1 <<< (a1 &&& 31)))))), (gi, .inl (cI, 8, .inl fi))] := hD
        have hBH := hB.at hS hA0
        refine lv_iconst (v := 1) hx hb d_G_join_49 (by decide) ?_
        refine lv_iload_n hx hb d_G_join_50 rfl (lv_at hl 2 rfl) ?_
        refine lv_ishl hx hb d_G_join_51 ?_
        refine lv_aload_n hx hb d_G_join_52 rfl (lv_at hl 0 rfl) ?_
        refine lv_iload_n hx hb d_G_join_53 rfl (lv_at hl 2 rfl) ?_
        refine vp_callSi (va_Run.run (va_runV (As := [.int a1]) (rest := [.int (1 <<< (a1 &&& 31))]) (C := R_G) ⟨hx, hb, hml, hown, hts⟩ (mc_G_insideOf l s0 dC dI cI cR cL cZ q gm gi fi a1) ⟨(mr_cB 1 (hts (Cond.code y_G_insideOf b_G_insideOf 2 (some .int)) mw_26) (hts (Cond.initialized y_G_insideOf.cls) mw_27) (hts (Cond.methodLink "MeasureRows$Groups" 29 y_G_insideOf) mw_28) rfl rfl (by decide +kernel) ⟨Nat.le_of_ble_eq_true rfl, Nat.le_of_ble_eq_true rfl⟩), (hts (Cond.instanceMethod y_G_insideOf) mw_29), (hts (Cond.selects "MeasureRows$Groups" y_G_insideOf y_G_insideOf) mw_30)⟩ (mr_preV hBH hK (hP.sub (ws' := [(q, .inr (1, [.ref gm, .ref gi])), (gi, .inl (cI, 8, .inl fi))]) [0, 2] rfl) (ci := 1) (q0 := 0) rfl rfl) rfl rfl hl.1 rfl (lv_room (Nat.le_of_ble_eq_true rfl)) d_G_join_54 ⟨Nat.le_of_ble_eq_true rfl, Nat.le_of_ble_eq_true rfl⟩)) (fun r_10 h_11 => ?_)
        subst h_11
        refine lv_ior hx hb d_G_join_57 ?_
        refine lv_istore_n (lv' := [(3, .int ((1 <<< (a1 &&& 31)) ||| (mv_G_insideOf fi a1))), (0, .ref q), (1, .int a0), (2, .int a1)]) hx hb d_G_join_58 rfl hl (by decide) rfl (fun ls hl => ?_)
        refine lv_iconst (v := 0) hx hb d_G_join_59 (by decide) ?_
        refine lv_istore (lv' := [(4, .int 0), (3, .int ((1 <<< (a1 &&& 31)) ||| (mv_G_insideOf fi a1))), (0, .ref q), (1, .int a0), (2, .int a1)]) hx hb d_G_join_60 hl (by decide) rfl (fun ls hl => ?_)
        have e1 : mv_G_join fm fi a0 a1 = 1 := by unfold mv_G_join; rw [if_neg c_3, if_pos c_6, if_pos c_9]
        rw [← mv_jo_0 fi a0 (mv_jbr fi a1)] at hP hD
        refine mr_loop (N := 8) (I := fun j H locs ls => va_P (dC, dI) mr_cl [(q, .inr (1, [.ref gm, .ref gi])), (gm, .inl (cI, 8, .inl (upd fm (a0 - 16).toNatClampNeg ((fm (a0 - 16).toNatClampNeg) ||| (1 <<< (a1 &&& 31)))))), (gi, .inl (cI, 8, .inl (mv_jo fi a0 (mv_jbr fi a1) j)))] H ∧ va_D A [(q, .inr (1, [.ref gm, .ref gi])), (gm, .inl (cI, 8, .inl (upd fm (a0 - 16).toNatClampNeg ((fm (a0 - 16).toNatClampNeg) ||| (1 <<< (a1 &&& 31)))))), (gi, .inl (cI, 8, .inl (mv_jo fi a0 (mv_jbr fi a1) j)))] ∧ va_S A s.heap H locs ∧ lv_has ls 5 [(4, .int (nI j)), (3, .int (mv_jbr fi a1)), (0, .ref q), (1, .int a0), (2, .int a1)]) (fun j H locs ls hj hI ih => ?_) (fun H locs ls hI => ?_) 0 _ _ _ (by decide) ⟨hP, hD, hS, (lv_sub hl [0, 1, 2, 3, 4] rfl)⟩
        · obtain ⟨hP, hD, hS, hl⟩ := hI
          have hBH := hB.at hS hA0
          refine lv_iload hx hb d_G_join_62 (lv_at hl 0 rfl) ?_
          refine lv_bipush (v := 8) hx hb d_G_join_64 (by decide) ?_
          refine lv_icmp_ge (tgt := 109) hx hb d_G_join_66 (by decide) (fun c_12 => absurd c_12 (nI_ge (b := 8) hj (by decide))) (fun _ => ?_)
          refine lv_iload hx hb d_G_join_69 (lv_at hl 0 rfl) ?_
          refine lv_bipush (v := 16) hx hb d_G_join_71 (by decide) ?_
          refine lv_iadd hx hb d_G_join_73 ?_
          refine lv_iload_n hx hb d_G_join_74 rfl (lv_at hl 3 rfl) ?_
          refine lv_icmp_eq (tgt := 92) hx hb d_G_join_75 (by decide) (fun c_13 => ?_) (fun c_13 => ?_)
          · refine lv_aload_n hx hb d_G_join_92 rfl (lv_at hl 2 rfl) ?_
            refine va_get (D := (dC, dI)) (ci := 1) (v := .ref gi) (C := R_G) (T := T_G) (N := 2) hx hb hts ti_G hown hK hP 0 rfl rfl 1 (by decide) (hts (Cond.fieldLink "MeasureRows$Groups" 15 "MeasureRows$Groups" "inside" "[I") mw_25) (fun _ h9 => h9) rfl d_G_join_93 ?_
            refine lv_iload hx hb d_G_join_96 (lv_at hl 0 rfl) ?_
            refine lv_dup2_11 hx hb d_G_join_98 rfl rfl ?_
            refine va_iald (D := (dC, dI)) hx hb hK hP 2 0 rfl rfl (i := nI j) (nI_in hj (by decide)) d_G_join_99 ?_
            refine mr_top (mv_jo_at fi a0 (mv_jbr fi a1) j hj) ?_
            refine lv_iload_n hx hb d_G_join_100 rfl (lv_at hl 1 rfl) ?_
            refine lv_ior hx hb d_G_join_101 ?_
            refine va_iast (D := (dC, dI)) hx hb hK hP hD hS 2 0 rfl rfl (i := nI j) (nI_in hj (by decide)) d_G_join_102 (fun H locs hP hD hS => ?_)
            have hP : va_P (dC, dI) mr_cl [(q, .inr (1, [.ref gm, .ref gi])), (gm, .inl (cI, 8, .inl (upd fm (a0 - 16).toNatClampNeg ((fm (a0 - 16).toNatClampNeg) ||| (1 <<< (a1 &&& 31)))))), (gi, .inl (cI, 8, .inl (upd (mv_jo fi a0 (mv_jbr fi a1) j) (nI j).toNatClampNeg ((fi j) ||| (mv_jbr fi a1)))))] H := hP
            have hD : va_D A [(q, .inr (1, [.ref gm, .ref gi])), (gm, .inl (cI, 8, .inl (upd fm (a0 - 16).toNatClampNeg ((fm (a0 - 16).toNatClampNeg) ||| (1 <<< (a1 &&& 31)))))), (gi, .inl (cI, 8, .inl (upd (mv_jo fi a0 (mv_jbr fi a1) j) (nI j).toNatClampNeg ((fi j) ||| (mv_jbr fi a1)))))] := hD
            have hBH := hB.at hS hA0
            refine lv_iinc (v := nI (j + 1)) (lv' := [(4, .int (nI (j + 1))), (3, .int (mv_jbr fi a1)), (0, .ref q), (1, .int a0), (2, .int a1)]) hx hb d_G_join_103 hl (k := 0) rfl ((nI_succ j).symm) (by decide) rfl (fun ls hl => ?_)
            refine lv_goto (tgt := 62) hx hb d_G_join_106 (by decide) ?_
            have ej := mv_jo_set (fi := fi) (br := mv_jbr fi a1) hj (Or.inl c_13)
            rw [ej] at hP hD
            exact ih _ _ _ ⟨hP, hD, hS, (lv_sub hl [0, 1, 2, 3, 4] rfl)⟩
          · refine lv_aload_n hx hb d_G_join_78 rfl (lv_at hl 2 rfl) ?_
            refine va_get (D := (dC, dI)) (ci := 1) (v := .ref gi) (C := R_G) (T := T_G) (N := 2) hx hb hts ti_G hown hK hP 0 rfl rfl 1 (by decide) (hts (Cond.fieldLink "MeasureRows$Groups" 15 "MeasureRows$Groups" "inside" "[I") mw_25) (fun _ h9 => h9) rfl d_G_join_79 ?_
            refine lv_iload hx hb d_G_join_82 (lv_at hl 0 rfl) ?_
            refine va_iald (D := (dC, dI)) hx hb hK hP 2 0 rfl rfl (i := nI j) (nI_in hj (by decide)) d_G_join_84 ?_
            refine mr_top (mv_jo_at fi a0 (mv_jbr fi a1) j hj) ?_
            refine lv_iload_n hx hb d_G_join_85 rfl (lv_at hl 3 rfl) ?_
            refine vp_callSi (va_Run.run (va_runSN (As := [.int (fi j), .int a0]) (rest := []) ⟨hx, hb, hml, hown, hts⟩ (mc_M_hasBit l s0 (fi j) a0) ⟨(mr_cN 2 (hts (Cond.code y_M_hasBit b_M_hasBit 2 (some .boolean)) mw_31) (hts (Cond.initialized y_M_hasBit.cls) mw_32) (hts (Cond.methodLinkNest "MeasureRows$Groups" 22 y_M_hasBit "MeasureRows") mw_33) rfl rfl (by decide +kernel) ⟨Nat.le_of_ble_eq_true rfl, Nat.le_of_ble_eq_true rfl⟩), (hts (Cond.static y_M_hasBit) mw_34), trivial⟩ (mr_pre0 hBH) rfl rfl hl.1 rfl (lv_room (Nat.le_of_ble_eq_true rfl)) d_G_join_86 ⟨Nat.le_of_ble_eq_true rfl, Nat.le_of_ble_eq_true rfl⟩)) (fun r_14 h_15 => ?_)
            subst h_15
            refine lv_if_eq (tgt := 103) hx hb d_G_join_89 (by decide) (fun c_16 => ?_) (fun c_16 => ?_)
            · refine lv_iinc (v := nI (j + 1)) (lv' := [(4, .int (nI (j + 1))), (3, .int (mv_jbr fi a1)), (0, .ref q), (1, .int a0), (2, .int a1)]) hx hb d_G_join_103 hl (k := 0) rfl ((nI_succ j).symm) (by decide) rfl (fun ls hl => ?_)
              refine lv_goto (tgt := 62) hx hb d_G_join_106 (by decide) ?_
              have ej := mv_jo_skip (fi := fi) (br := mv_jbr fi a1) c_13 c_16
              rw [ej] at hP hD
              exact ih _ _ _ ⟨hP, hD, hS, (lv_sub hl [0, 1, 2, 3, 4] rfl)⟩
            · refine lv_aload_n hx hb d_G_join_92 rfl (lv_at hl 2 rfl) ?_
              refine va_get (D := (dC, dI)) (ci := 1) (v := .ref gi) (C := R_G) (T := T_G) (N := 2) hx hb hts ti_G hown hK hP 0 rfl rfl 1 (by decide) (hts (Cond.fieldLink "MeasureRows$Groups" 15 "MeasureRows$Groups" "inside" "[I") mw_25) (fun _ h9 => h9) rfl d_G_join_93 ?_
              refine lv_iload hx hb d_G_join_96 (lv_at hl 0 rfl) ?_
              refine lv_dup2_11 hx hb d_G_join_98 rfl rfl ?_
              refine va_iald (D := (dC, dI)) hx hb hK hP 2 0 rfl rfl (i := nI j) (nI_in hj (by decide)) d_G_join_99 ?_
              refine mr_top (mv_jo_at fi a0 (mv_jbr fi a1) j hj) ?_
              refine lv_iload_n hx hb d_G_join_100 rfl (lv_at hl 1 rfl) ?_
              refine lv_ior hx hb d_G_join_101 ?_
              refine va_iast (D := (dC, dI)) hx hb hK hP hD hS 2 0 rfl rfl (i := nI j) (nI_in hj (by decide)) d_G_join_102 (fun H locs hP hD hS => ?_)
              have hP : va_P (dC, dI) mr_cl [(q, .inr (1, [.ref gm, .ref gi])), (gm, .inl (cI, 8, .inl (upd fm (a0 - 16).toNatClampNeg ((fm (a0 - 16).toNatClampNeg) ||| (1 <<< (a1 &&& 31)))))), (gi, .inl (cI, 8, .inl (upd (mv_jo fi a0 (mv_jbr fi a1) j) (nI j).toNatClampNeg ((fi j) ||| (mv_jbr fi a1)))))] H := hP
              have hD : va_D A [(q, .inr (1, [.ref gm, .ref gi])), (gm, .inl (cI, 8, .inl (upd fm (a0 - 16).toNatClampNeg ((fm (a0 - 16).toNatClampNeg) ||| (1 <<< (a1 &&& 31)))))), (gi, .inl (cI, 8, .inl (upd (mv_jo fi a0 (mv_jbr fi a1) j) (nI j).toNatClampNeg ((fi j) ||| (mv_jbr fi a1)))))] := hD
              have hBH := hB.at hS hA0
              refine lv_iinc (v := nI (j + 1)) (lv' := [(4, .int (nI (j + 1))), (3, .int (mv_jbr fi a1)), (0, .ref q), (1, .int a0), (2, .int a1)]) hx hb d_G_join_103 hl (k := 0) rfl ((nI_succ j).symm) (by decide) rfl (fun ls hl => ?_)
              refine lv_goto (tgt := 62) hx hb d_G_join_106 (by decide) ?_
              have ej := mv_jo_set (fi := fi) (br := mv_jbr fi a1) hj (Or.inr c_16)
              rw [ej] at hP hD
              exact ih _ _ _ ⟨hP, hD, hS, (lv_sub hl [0, 1, 2, 3, 4] rfl)⟩
        · obtain ⟨hP, hD, hS, hl⟩ := hI
          have hBH := hB.at hS hA0
          refine lv_iload hx hb d_G_join_62 (lv_at hl 0 rfl) ?_
          refine lv_bipush (v := 8) hx hb d_G_join_64 (by decide) ?_
          refine lv_icmp_ge (tgt := 109) hx hb d_G_join_66 (by decide) (fun _ => ?_) (fun c_17 => absurd c_17 (by decide))
          refine lv_iconst (v := 1) hx hb d_G_join_109 (by decide) ?_
          have e1 : mv_G_join fm fi a0 a1 = 1 := e1
          have e2 : ¬ mv_G_join fm fi a0 a1 = 0 := by rw [e1]; decide
          have hP9 := hP.sub (ws' := [(q, .inr (1, [.ref gm, .ref gi])), (gm, .inl (cI, 8, .inl (upd fm (a0 - 16).toNatClampNeg ((fm (a0 - 16).toNatClampNeg) ||| (1 <<< (a1 &&& 31)))))), (gi, .inl (cI, 8, .inl (mv_jo fi a0 (mv_jbr fi a1) 8)))]) [0, 1, 2] rfl
          have hD9 := hD.sub (ws' := [(q, .inr (1, [.ref gm, .ref gi])), (gm, .inl (cI, 8, .inl (upd fm (a0 - 16).toNatClampNeg ((fm (a0 - 16).toNatClampNeg) ||| (1 <<< (a1 &&& 31)))))), (gi, .inl (cI, 8, .inl (mv_jo fi a0 (mv_jbr fi a1) 8)))]) [0, 1, 2] (by decide) rfl
          exact W.zret (v := 1) hx hb hr (mr_narz mr_b1) (fun t ht hW => ⟨⟨_, ((upd fm (a0 - 16).toNatClampNeg ((fm (a0 - 16).toNatClampNeg) ||| (1 <<< (a1 &&& 31)))), mv_jo fi a0 (mv_jbr fi a1) 8), rfl, ⟨e1.symm, by unfold mv_G_joinM; rw [if_neg e2], by unfold mv_G_joinI; rw [if_neg e2]⟩, by rw [ht]; exact hP9, va_K.moved hW.alike hK, hD9⟩, hS.F ht⟩) hS.2.2 d_G_join_110
      · refine lv_iconst (v := 0) hx hb d_G_join_32 (by decide) ?_
        have e0 : mv_G_join fm fi a0 a1 = 0 := by unfold mv_G_join; rw [if_neg c_3, if_pos c_6, if_neg c_9]
        have hP9 := hP.sub (ws' := [(q, .inr (1, [.ref gm, .ref gi])), (gm, .inl (cI, 8, .inl fm)), (gi, .inl (cI, 8, .inl fi))]) [0, 1, 2] rfl
        have hD9 := hD.sub (ws' := [(q, .inr (1, [.ref gm, .ref gi])), (gm, .inl (cI, 8, .inl fm)), (gi, .inl (cI, 8, .inl fi))]) [0, 1, 2] (by decide) rfl
        exact W.zret (v := 0) hx hb hr (mr_narz mr_b0) (fun t ht hW => ⟨⟨_, (fm, fi), rfl, ⟨e0.symm, by unfold mv_G_joinM; rw [if_pos e0], by unfold mv_G_joinI; rw [if_pos e0]⟩, by rw [ht]; exact hP9, va_K.moved hW.alike hK, hD9⟩, hS.F ht⟩) hS.2.2 d_G_join_33
