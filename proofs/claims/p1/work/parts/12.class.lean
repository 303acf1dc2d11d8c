theorem mr_str {own tx : String} {k : Nat} {A : Array Value} {s : State} {cc : ClassId} (h : (Cond.stringRef own k tx).before A s = true) (hc : s.vm.findClass own = some cc) : ∃ sa, vk_R own k tx sa s := by
  obtain ⟨-, -, -, a, -, -, -, -, -, hev⟩ := Cond.stringRef_spec hc h
  exact ⟨a, vk_R.of h hev⟩
theorem mr_01 {x : Int32} (h1 : ¬ x < 1) (h2 : ¬ nI 0 < x) : False := by
  rw [Int32.lt_iff_toInt_lt] at h1 h2
  have a1 : (1 : Int32).toInt = 1 := by decide
  have a2 : (nI 0).toInt = 0 := by decide
  omega
theorem mr_no {x : Int32} {y : Int32} {n : Nat} (h1 : ¬ x < 1) (h2 : ¬ nI 0 < x) : vp_in y n := (mr_01 h1 h2).elim
theorem mr_rfv (r : Option Nat) : va_rf r = .null ∨ ∃ a, va_rf r = .ref a := by
  cases r with
  | none => exact Or.inl rfl
  | some a => exact Or.inr ⟨a, rfl⟩
theorem mr_no0 {x : Int32} {n : Nat} (h1 : ¬ x < 0) (h2 : ¬ 0 ≤ x) : vp_in x n := by
  rw [Int32.lt_iff_toInt_lt] at h1
  rw [Int32.le_iff_toInt_le] at h2
  omega
theorem mw_40 : Cond.fieldLink "MeasureRows" 22 "MeasureRows" "rowCount" "I" ∈ lw_tbl := by decide +kernel
theorem mw_41 : Cond.fieldLink "MeasureRows" 18 "MeasureRows" "rows" "[LMeasureRows$Row;" ∈ lw_tbl := by decide +kernel
theorem mw_42 : Cond.code y_M_find b_M_find 2 (some (.object "MeasureRows$Row")) ∈ lw_tbl := by decide +kernel
theorem mw_43 : Cond.initialized y_M_find.cls ∈ lw_tbl := by decide +kernel
theorem mw_44 : Cond.methodLink "MeasureRows" 111 y_M_find ∈ lw_tbl := by decide +kernel
theorem mw_45 : Cond.instanceMethod y_M_find ∈ lw_tbl := by decide +kernel
theorem mw_46 : Cond.selects "MeasureRows" y_M_find y_M_find ∈ lw_tbl := by decide +kernel
theorem mw_47 : Cond.fieldLink "MeasureRows" 36 "MeasureRows" "listedCount" "I" ∈ lw_tbl := by decide +kernel
theorem mw_48 : Cond.fieldLink "MeasureRows" 32 "MeasureRows" "listed" "[I" ∈ lw_tbl := by decide +kernel
theorem mw_49 : Cond.fieldLink "MeasureRows" 26 "MeasureRows" "now" "I" ∈ lw_tbl := by decide +kernel
theorem mw_50 : Cond.fieldLink "MeasureRows" 29 "MeasureRows" "paperBits" "I" ∈ lw_tbl := by decide +kernel
theorem mw_51 : Cond.fieldLink "MeasureRows" 10 "MeasureRows" "groups" "LMeasureRows$Groups;" ∈ lw_tbl := by decide +kernel
theorem mw_52 : Cond.code y_G_landsIn b_G_landsIn 2 (some .int) ∈ lw_tbl := by decide +kernel
theorem mw_53 : Cond.initialized y_G_landsIn.cls ∈ lw_tbl := by decide +kernel
theorem mw_54 : Cond.methodLink "MeasureRows" 186 y_G_landsIn ∈ lw_tbl := by decide +kernel
theorem mw_55 : Cond.instanceMethod y_G_landsIn ∈ lw_tbl := by decide +kernel
theorem mw_56 : Cond.selects "MeasureRows$Groups" y_G_landsIn y_G_landsIn ∈ lw_tbl := by decide +kernel
def mv_M_find0 (a0 : Int32) : Option Nat := if a0 < 1 then none else if (nI 0) < a0 then none else ((fun _ => none) (a0 - 1).toNatClampNeg)
set_option maxHeartbeats 4000000 in
set_option maxRecDepth 100000 in
theorem mc_M_find (l : Launch) (s0 : State) (dC : Nat → ClassId) (dI : Nat → Nat → Nat) (cI cR cL cZ : ClassId) (r : Nat → Nat) (a0 : Int32) : Met l y_M_find [Cond.code y_M_find b_M_find 2 (some (.object "MeasureRows$Row"))] ({ frames := 0, cells := 0, slots := 0, locals := 0 }) (mr_PW s0 (dC, dI) [(cI, .int), (cR, .object "MeasureRows$Row"), (cL, .long), (cZ, .boolean)] [.ref (r 0), .int a0] [((r 0), .inr (0, mf_M r (nI 0) 0 0 0)), ((r 4), .inl (cR, 80, .inr (.inr (.inr (.inr (fun _ => none))))))]) (va_Sq (fun r => r = mv_M_find0 a0)) 0 0 (fun _ => False) := by
  refine Met.ofW (cc := b_M_find) (maxL := 2) (ret := (some (.object "MeasureRows$Row"))) (by decide) rfl ?_
  intro p e s m args below meth c s₁ B hml hv
  obtain ⟨rfl, hB, hK, hP⟩ := hv
  have hBH := hB.here
  have hx := B.exec
  have hb := B.bytes
  have hr := B.returns
  have hlocks := B.notSynchronized
  have hts : ∀ w ∈ lw_tbl, w.before [.ref (r 0), .int a0].toArray s = true := hB.hts _
  have hown : s.vm.findClass "MeasureRows" = some m.cls := findClass_of_methodNamed B.named
  have hl := lv_entry ([.ref (r 0), .int a0]) (n := 2) (Nat.le_of_ble_eq_true rfl)
  rw [lg_entry_eq]
  generalize (lg_sl ([.ref (r 0), .int a0]) ++ List.replicate (2 - (lg_sl ([.ref (r 0), .int a0])).length) Slot.unset).toArray = ls at hl ⊢
  have hl : lv_has ls 2 [(0, .ref (r 0)), (1, .int a0)] := hl
  refine lv_iload_n hx hb d_M_find_0 rfl (lv_at hl 1 rfl) ?_
  refine lv_iconst (v := 1) hx hb d_M_find_1 (by decide) ?_
  refine lv_icmp_lt (tgt := 24) hx hb d_M_find_2 (by decide) (fun c_1 => ?_) (fun c_1 => ?_)
  · refine lv_null hx hb d_M_find_24 ?_
    exact W.aret (v := .null) hx hb hr (Or.inl ⟨_, rfl⟩) (Or.inl rfl) (fun t ht _ => ⟨none, rfl, by unfold mv_M_find0; rw [if_pos c_1], ht⟩) (fun _ h => nomatch h) d_M_find_25
  · refine lv_iload_n hx hb d_M_find_5 rfl (lv_at hl 1 rfl) ?_
    refine lv_aload_n hx hb d_M_find_6 rfl (lv_at hl 0 rfl) ?_
    refine va_get (D := (dC, dI)) (ci := 0) (v := .int (nI 0)) (C := R_M) (T := T_M) (N := 9) hx hb hts ti_M hown hK hP 0 rfl rfl 2 (by decide) (hts (Cond.fieldLink "MeasureRows" 22 "MeasureRows" "rowCount" "I") mw_40) (fun _ h9 => h9) rfl d_M_find_7 ?_
    refine lv_icmp_gt (tgt := 24) hx hb d_M_find_10 (by decide) (fun c_2 => ?_) (fun c_2 => ?_)
    · refine lv_null hx hb d_M_find_24 ?_
      exact W.aret (v := .null) hx hb hr (Or.inl ⟨_, rfl⟩) (Or.inl rfl) (fun t ht _ => ⟨none, rfl, by unfold mv_M_find0; rw [if_neg c_1, if_pos c_2], ht⟩) (fun _ h => nomatch h) d_M_find_25
    · refine lv_aload_n hx hb d_M_find_13 rfl (lv_at hl 0 rfl) ?_
      refine va_get (D := (dC, dI)) (ci := 0) (v := .ref (r 4)) (C := R_M) (T := T_M) (N := 9) hx hb hts ti_M hown hK hP 0 rfl rfl 1 (by decide) (hts (Cond.fieldLink "MeasureRows" 18 "MeasureRows" "rows" "[LMeasureRows$Row;") mw_41) (fun _ h9 => h9) rfl d_M_find_14 ?_
      refine lv_iload_n hx hb d_M_find_17 rfl (lv_at hl 1 rfl) ?_
      refine lv_iconst (v := 1) hx hb d_M_find_18 (by decide) ?_
      refine lv_isub hx hb d_M_find_19 ?_
      refine va_aldq (D := (dC, dI)) hx hb hK hP 1 1 rfl rfl (i := a0 - 1) (mr_no c_1 c_2) d_M_find_20 ?_
      refine lv_goto (tgt := 25) hx hb d_M_find_21 (by decide) ?_
      exact W.aret (v := va_rf ((fun _ => none) (a0 - 1).toNatClampNeg)) hx hb hr (Or.inl ⟨_, rfl⟩) (mr_rfv _) (fun t ht _ => ⟨_, rfl, by unfold mv_M_find0; rw [if_neg c_1, if_neg c_2], ht⟩) (fun _ h => nomatch h) d_M_find_25
theorem mv_find0 (x : Int32) : va_rf (mv_M_find0 x) = .null := by
  unfold mv_M_find0
  by_cases h1 : x < 1
  · rw [if_pos h1]; rfl
  · rw [if_neg h1]
    by_cases h2 : nI 0 < x
    · rw [if_pos h2]; rfl
    · exact (mr_01 h1 h2).elim
def mv_M_leastClash0 (a0 : Int32) (a1 : Int32) (a2 : Int32) (a3 : Int32) (a4 : Int32) (a5 : Int32) : Int32 := (-1)
set_option maxHeartbeats 4000000 in
set_option maxRecDepth 100000 in
theorem mc_M_leastClash (l : Launch) (s0 : State) (dC : Nat → ClassId) (dI : Nat → Nat → Nat) (cI cR cL cZ : ClassId) (r : Nat → Nat) (a0 : Int32) (a1 : Int32) (a2 : Int32) (a3 : Int32) (a4 : Int32) (a5 : Int32) : Met l y_M_leastClash [Cond.code y_M_leastClash b_M_leastClash 9 (some .int)] ({ frames := 0, cells := 0, slots := 0, locals := 0 }) (mr_PW s0 (dC, dI) [(cI, .int), (cR, .object "MeasureRows$Row"), (cL, .long), (cZ, .boolean)] [.ref (r 0), .int a0, .int a1, .int a2, .int a3, .int a4, .int a5] [((r 0), .inr (0, mf_M r (nI 0) 0 0 0))]) (vp_Si (fun r => r = mv_M_leastClash0 a0 a1 a2 a3 a4 a5)) 0 0 (fun _ => False) := by
  refine Met.ofW (cc := b_M_leastClash) (maxL := 9) (ret := (some .int)) (by decide) rfl ?_
  intro p e s m args below meth c s₁ B hml hv
  obtain ⟨rfl, hB, hK, hP⟩ := hv
  have hBH := hB.here
  have hx := B.exec
  have hb := B.bytes
  have hr := B.returns
  have hlocks := B.notSynchronized
  have hts : ∀ w ∈ lw_tbl, w.before [.ref (r 0), .int a0, .int a1, .int a2, .int a3, .int a4, .int a5].toArray s = true := hB.hts _
  have hown : s.vm.findClass "MeasureRows" = some m.cls := findClass_of_methodNamed B.named
  have hl := lv_entry ([.ref (r 0), .int a0, .int a1, .int a2, .int a3, .int a4, .int a5]) (n := 9) (Nat.le_of_ble_eq_true rfl)
  rw [lg_entry_eq]
  generalize (lg_sl ([.ref (r 0), .int a0, .int a1, .int a2, .int a3, .int a4, .int a5]) ++ List.replicate (9 - (lg_sl ([.ref (r 0), .int a0, .int a1, .int a2, .int a3, .int a4, .int a5])).length) Slot.unset).toArray = ls at hl ⊢
  have hl : lv_has ls 9 [(0, .ref (r 0)), (1, .int a0), (2, .int a1), (3, .int a2), (4, .int a3), (5, .int a4), (6, .int a5)] := hl
  refine lv_iconst (v := 1) hx hb d_M_leastClash_0 (by decide) ?_
  refine lv_istore (lv' := [(7, .int 1), (0, .ref (r 0)), (1, .int a0), (2, .int a1), (3, .int a2), (4, .int a3), (5, .int a4), (6, .int a5)]) hx hb d_M_leastClash_1 hl (by decide) rfl (fun ls hl => ?_)
  refine lv_iload hx hb d_M_leastClash_3 (lv_at hl 0 rfl) ?_
  refine lv_aload_n hx hb d_M_leastClash_5 rfl (lv_at hl 1 rfl) ?_
  refine va_get (D := (dC, dI)) (ci := 0) (v := .int (nI 0)) (C := R_M) (T := T_M) (N := 9) hx hb hts ti_M hown hK hP 0 rfl rfl 2 (by decide) (hts (Cond.fieldLink "MeasureRows" 22 "MeasureRows" "rowCount" "I") mw_40) (fun _ h9 => h9) rfl d_M_leastClash_6 ?_
  refine lv_icmp_gt (tgt := 63) hx hb d_M_leastClash_9 (by decide) (fun _ => ?_) (fun c_1 => absurd c_1 (by decide))
  refine lv_iconst (v := (-1)) hx hb d_M_leastClash_63 (by decide) ?_
  exact W.iret (v := (-1)) hx hb hr (fun t ht _ => ⟨_, rfl, rfl, ht⟩) (fun _ h => nomatch h) d_M_leastClash_64
def mv_M_gather0 (a1 : Int32) (a2 : Int32) (a3 : Int32) (a4 : Int32) : Int32 := 0
set_option maxHeartbeats 4000000 in
set_option maxRecDepth 100000 in
theorem mc_M_gather (l : Launch) (s0 : State) (dC : Nat → ClassId) (dI : Nat → Nat → Nat) (cI cR cL cZ : ClassId) (r : Nat → Nat) (tg : Nat) (a1 : Int32) (a2 : Int32) (a3 : Int32) (a4 : Int32) : Met l y_M_gather [Cond.code y_M_gather b_M_gather 9 (some .int)] ({ frames := 0, cells := 0, slots := 0, locals := 0 }) (mr_PW s0 (dC, dI) [(cI, .int), (cR, .object "MeasureRows$Row"), (cL, .long), (cZ, .boolean)] [.ref (r 0), .ref tg, .int a1, .int a2, .int a3, .int a4] [((r 0), .inr (0, mf_M r (nI 0) 0 0 0))]) (vp_Si (fun r => r = mv_M_gather0 a1 a2 a3 a4)) 0 0 (fun _ => False) := by
  refine Met.ofW (cc := b_M_gather) (maxL := 9) (ret := (some .int)) (by decide) rfl ?_
  intro p e s m args below meth c s₁ B hml hv
  obtain ⟨rfl, hB, hK, hP⟩ := hv
  have hBH := hB.here
  have hx := B.exec
  have hb := B.bytes
  have hr := B.returns
  have hlocks := B.notSynchronized
  have hts : ∀ w ∈ lw_tbl, w.before [.ref (r 0), .ref tg, .int a1, .int a2, .int a3, .int a4].toArray s = true := hB.hts _
  have hown : s.vm.findClass "MeasureRows" = some m.cls := findClass_of_methodNamed B.named
  have hl := lv_entry ([.ref (r 0), .ref tg, .int a1, .int a2, .int a3, .int a4]) (n := 9) (Nat.le_of_ble_eq_true rfl)
  rw [lg_entry_eq]
  generalize (lg_sl ([.ref (r 0), .ref tg, .int a1, .int a2, .int a3, .int a4]) ++ List.replicate (9 - (lg_sl ([.ref (r 0), .ref tg, .int a1, .int a2, .int a3, .int a4])).length) Slot.unset).toArray = ls at hl ⊢
  have hl : lv_has ls 9 [(0, .ref (r 0)), (1, .ref tg), (2, .int a1), (3, .int a2), (4, .int a3), (5, .int a4)] := hl
  refine lv_iconst (v := 0) hx hb d_M_gather_0 (by decide) ?_
  refine lv_istore (lv' := [(6, .int 0), (0, .ref (r 0)), (1, .ref tg), (2, .int a1), (3, .int a2), (4, .int a3), (5, .int a4)]) hx hb d_M_gather_1 hl (by decide) rfl (fun ls hl => ?_)
  refine lv_iconst (v := 1) hx hb d_M_gather_3 (by decide) ?_
  refine lv_istore (lv' := [(7, .int 1), (6, .int 0), (0, .ref (r 0)), (1, .ref tg), (2, .int a1), (3, .int a2), (4, .int a3), (5, .int a4)]) hx hb d_M_gather_4 hl (by decide) rfl (fun ls hl => ?_)
  refine lv_iload hx hb d_M_gather_6 (lv_at hl 0 rfl) ?_
  refine lv_aload_n hx hb d_M_gather_8 rfl (lv_at hl 2 rfl) ?_
  refine va_get (D := (dC, dI)) (ci := 0) (v := .int (nI 0)) (C := R_M) (T := T_M) (N := 9) hx hb hts ti_M hown hK hP 0 rfl rfl 2 (by decide) (hts (Cond.fieldLink "MeasureRows" 22 "MeasureRows" "rowCount" "I") mw_40) (fun _ h9 => h9) rfl d_M_gather_9 ?_
  refine lv_icmp_gt (tgt := 87) hx hb d_M_gather_12 (by decide) (fun _ => ?_) (fun c_1 => absurd c_1 (by decide))
  refine lv_iload hx hb d_M_gather_87 (lv_at hl 1 rfl) ?_
  exact W.iret (v := 0) hx hb hr (fun t ht _ => ⟨_, rfl, rfl, ht⟩) (fun _ h => nomatch h) d_M_gather_89
def mv_M_keep0  : Int32 := 0
set_option maxHeartbeats 4000000 in
set_option maxRecDepth 100000 in
theorem mc_M_keepWithPapers (l : Launch) (s0 : State) (dC : Nat → ClassId) (dI : Nat → Nat → Nat) (cI cR cL cZ : ClassId) (r : Nat → Nat)  : Met l y_M_keepWithPapers [Cond.code y_M_keepWithPapers b_M_keepWithPapers 5 (some .int)] ({ frames := 0, cells := 0, slots := 0, locals := 0 }) (mr_PW s0 (dC, dI) [(cI, .int), (cR, .object "MeasureRows$Row"), (cL, .long), (cZ, .boolean)] [.ref (r 0), .int 0] [((r 0), .inr (0, mf_M r (nI 0) 0 0 0))]) (vp_Si (fun r => r = mv_M_keep0 )) 0 0 (fun _ => False) := by
  refine Met.ofW (cc := b_M_keepWithPapers) (maxL := 5) (ret := (some .int)) (by decide) rfl ?_
  intro p e s m args below meth c s₁ B hml hv
  obtain ⟨rfl, hB, hK, hP⟩ := hv
  have hBH := hB.here
  have hx := B.exec
  have hb := B.bytes
  have hr := B.returns
  have hlocks := B.notSynchronized
  have hts : ∀ w ∈ lw_tbl, w.before [.ref (r 0), .int 0].toArray s = true := hB.hts _
  have hown : s.vm.findClass "MeasureRows" = some m.cls := findClass_of_methodNamed B.named
  have hl := lv_entry ([.ref (r 0), .int 0]) (n := 5) (Nat.le_of_ble_eq_true rfl)
  rw [lg_entry_eq]
  generalize (lg_sl ([.ref (r 0), .int 0]) ++ List.replicate (5 - (lg_sl ([.ref (r 0), .int 0])).length) Slot.unset).toArray = ls at hl ⊢
  have hl : lv_has ls 5 [(0, .ref (r 0)), (1, .int 0)] := hl
  refine lv_iconst (v := 0) hx hb d_M_keepWithPapers_0 (by decide) ?_
  refine lv_istore_n (lv' := [(2, .int 0), (0, .ref (r 0)), (1, .int 0)]) hx hb d_M_keepWithPapers_1 rfl hl (by decide) rfl (fun ls hl => ?_)
  refine lv_iconst (v := 0) hx hb d_M_keepWithPapers_2 (by decide) ?_
  refine lv_istore_n (lv' := [(3, .int 0), (2, .int 0), (0, .ref (r 0)), (1, .int 0)]) hx hb d_M_keepWithPapers_3 rfl hl (by decide) rfl (fun ls hl => ?_)
  refine lv_iload_n hx hb d_M_keepWithPapers_4 rfl (lv_at hl 0 rfl) ?_
  refine lv_iload_n hx hb d_M_keepWithPapers_5 rfl (lv_at hl 3 rfl) ?_
  refine lv_icmp_ge (tgt := 59) hx hb d_M_keepWithPapers_6 (by decide) (fun _ => ?_) (fun c_1 => absurd c_1 (by decide))
  refine lv_iload_n hx hb d_M_keepWithPapers_59 rfl (lv_at hl 1 rfl) ?_
  exact W.iret (v := 0) hx hb hr (fun t ht _ => ⟨_, rfl, rfl, ht⟩) (fun _ h => nomatch h) d_M_keepWithPapers_60
def mv_M_exclude (a0 : Int32) (a1 : Int32) : Int32 := 0
theorem mv_M_exclude_b (a0 : Int32) (a1 : Int32) : mr_b01 (mv_M_exclude a0 a1) := mr_b0
set_option maxHeartbeats 4000000 in
set_option maxRecDepth 100000 in
theorem mc_M_exclude (l : Launch) (s0 : State) (dC : Nat → ClassId) (dI : Nat → Nat → Nat) (cI cR cL cZ : ClassId) (r : Nat → Nat) (a0 : Int32) (a1 : Int32) : Met l y_M_exclude [Cond.code y_M_exclude b_M_exclude 4 (some .boolean)] ({ frames := 1, cells := 0, slots := 0, locals := 21 }) (mr_PW s0 (dC, dI) [(cI, .int), (cR, .object "MeasureRows$Row"), (cL, .long), (cZ, .boolean)] [.ref (r 0), .int a0, .int a1] [((r 0), .inr (0, mf_M r (nI 0) 0 0 0)), ((r 1), .inr (1, [.ref (r 2), .ref (r 3)])), ((r 2), .inl (cI, 8, .inl (fun _ => 0))), ((r 3), .inl (cI, 8, .inl (fun _ => 0))), ((r 4), .inl (cR, 80, .inr (.inr (.inr (.inr (fun _ => none)))))), ((r 5), .inl (cI, 80, .inl (fun _ => 0))), ((r 6), .inl (cI, 80, .inl (fun _ => 0))), ((r 7), .inl (cI, 8, .inl (fun _ => 0)))]) (vp_Si (fun r => r = mv_M_exclude a0 a1)) 0 0 (fun _ => False) := by
  refine Met.ofW (cc := b_M_exclude) (maxL := 4) (ret := (some .boolean)) (by decide) rfl ?_
  intro p e s m args below meth c s₁ B hml hv
  obtain ⟨rfl, hB, hK, hP⟩ := hv
  have hBH := hB.here
  have hx := B.exec
  have hb := B.bytes
  have hr := B.returns
  have hlocks := B.notSynchronized
  have hts : ∀ w ∈ lw_tbl, w.before [.ref (r 0), .int a0, .int a1].toArray s = true := hB.hts _
  have hown : s.vm.findClass "MeasureRows" = some m.cls := findClass_of_methodNamed B.named
  have hl := lv_entry ([.ref (r 0), .int a0, .int a1]) (n := 4) (Nat.le_of_ble_eq_true rfl)
  rw [lg_entry_eq]
  generalize (lg_sl ([.ref (r 0), .int a0, .int a1]) ++ List.replicate (4 - (lg_sl ([.ref (r 0), .int a0, .int a1])).length) Slot.unset).toArray = ls at hl ⊢
  have hl : lv_has ls 4 [(0, .ref (r 0)), (1, .int a0), (2, .int a1)] := hl
  refine lv_aload_n hx hb d_M_exclude_0 rfl (lv_at hl 0 rfl) ?_
  refine lv_iload_n hx hb d_M_exclude_1 rfl (lv_at hl 1 rfl) ?_
  refine va_csq (va_Run.run (va_runV (As := [.int a0]) (rest := []) (C := R_M) ⟨hx, hb, hml, hown, hts⟩ (mc_M_find l s0 dC dI cI cR cL cZ r a0) ⟨(mr_cB 1 (hts (Cond.code y_M_find b_M_find 2 (some (.object "MeasureRows$Row"))) mw_42) (hts (Cond.initialized y_M_find.cls) mw_43) (hts (Cond.methodLink "MeasureRows" 111 y_M_find) mw_44) rfl rfl (by decide +kernel) ⟨Nat.le_of_ble_eq_true rfl, Nat.le_of_ble_eq_true rfl⟩), (hts (Cond.instanceMethod y_M_find) mw_45), (hts (Cond.selects "MeasureRows" y_M_find y_M_find) mw_46)⟩ (mr_preV hBH hK (hP.sub (ws' := [((r 0), .inr (0, mf_M r (nI 0) 0 0 0)), ((r 4), .inl (cR, 80, .inr (.inr (.inr (.inr (fun _ => none))))))]) [0, 4] rfl) (ci := 0) (q0 := 0) rfl rfl) rfl rfl hl.1 rfl (lv_room (Nat.le_of_ble_eq_true rfl)) d_M_exclude_2 ⟨Nat.le_of_ble_eq_true rfl, Nat.le_of_ble_eq_true rfl⟩)) (fun r_1 h_2 => ?_)
  subst h_2
  refine mr_topv (mv_find0 _) ?_
  refine lv_astore_nN (lv' := [(3, .null), (0, .ref (r 0)), (1, .int a0), (2, .int a1)]) hx hb d_M_exclude_5 rfl hl (by decide) rfl (fun ls hl => ?_)
  refine lv_aload_nN hx hb d_M_exclude_6 rfl (lv_at hl 0 rfl) ?_
  refine lv_ifnullN (tgt := 29) hx hb d_M_exclude_7 (by decide) ?_
  refine lv_iconst (v := 0) hx hb d_M_exclude_29 (by decide) ?_
  exact W.zret (v := 0) hx hb hr (mr_narz mr_b0) (fun t ht _ => ⟨_, rfl, rfl, ht⟩) (fun _ h => nomatch h) d_M_exclude_30
def mv_M_condition (a0 : Int32) (a1 : Int32) : Int32 := 0
theorem mv_M_condition_b (a0 : Int32) (a1 : Int32) : mr_b01 (mv_M_condition a0 a1) := mr_b0
set_option maxHeartbeats 4000000 in
set_option maxRecDepth 100000 in
theorem mc_M_condition (l : Launch) (s0 : State) (dC : Nat → ClassId) (dI : Nat → Nat → Nat) (cI cR cL cZ : ClassId) (r : Nat → Nat) (a0 : Int32) (a1 : Int32) : Met l y_M_condition [Cond.code y_M_condition b_M_condition 4 (some .boolean)] ({ frames := 1, cells := 0, slots := 0, locals := 21 }) (mr_PW s0 (dC, dI) [(cI, .int), (cR, .object "MeasureRows$Row"), (cL, .long), (cZ, .boolean)] [.ref (r 0), .int a0, .int a1] [((r 0), .inr (0, mf_M r (nI 0) 0 0 0)), ((r 1), .inr (1, [.ref (r 2), .ref (r 3)])), ((r 2), .inl (cI, 8, .inl (fun _ => 0))), ((r 3), .inl (cI, 8, .inl (fun _ => 0))), ((r 4), .inl (cR, 80, .inr (.inr (.inr (.inr (fun _ => none)))))), ((r 5), .inl (cI, 80, .inl (fun _ => 0))), ((r 6), .inl (cI, 80, .inl (fun _ => 0))), ((r 7), .inl (cI, 8, .inl (fun _ => 0)))]) (vp_Si (fun r => r = mv_M_condition a0 a1)) 0 0 (fun _ => False) := by
  refine Met.ofW (cc := b_M_condition) (maxL := 4) (ret := (some .boolean)) (by decide) rfl ?_
  intro p e s m args below meth c s₁ B hml hv
  obtain ⟨rfl, hB, hK, hP⟩ := hv
  have hBH := hB.here
  have hx := B.exec
  have hb := B.bytes
  have hr := B.returns
  have hlocks := B.notSynchronized
  have hts : ∀ w ∈ lw_tbl, w.before [.ref (r 0), .int a0, .int a1].toArray s = true := hB.hts _
  have hown : s.vm.findClass "MeasureRows" = some m.cls := findClass_of_methodNamed B.named
  have hl := lv_entry ([.ref (r 0), .int a0, .int a1]) (n := 4) (Nat.le_of_ble_eq_true rfl)
  rw [lg_entry_eq]
  generalize (lg_sl ([.ref (r 0), .int a0, .int a1]) ++ List.replicate (4 - (lg_sl ([.ref (r 0), .int a0, .int a1])).length) Slot.unset).toArray = ls at hl ⊢
  have hl : lv_has ls 4 [(0, .ref (r 0)), (1, .int a0), (2, .int a1)] := hl
  refine lv_aload_n hx hb d_M_condition_0 rfl (lv_at hl 0 rfl) ?_
  refine lv_iload_n hx hb d_M_condition_1 rfl (lv_at hl 1 rfl) ?_
  refine va_csq (va_Run.run (va_runV (As := [.int a0]) (rest := []) (C := R_M) ⟨hx, hb, hml, hown, hts⟩ (mc_M_find l s0 dC dI cI cR cL cZ r a0) ⟨(mr_cB 1 (hts (Cond.code y_M_find b_M_find 2 (some (.object "MeasureRows$Row"))) mw_42) (hts (Cond.initialized y_M_find.cls) mw_43) (hts (Cond.methodLink "MeasureRows" 111 y_M_find) mw_44) rfl rfl (by decide +kernel) ⟨Nat.le_of_ble_eq_true rfl, Nat.le_of_ble_eq_true rfl⟩), (hts (Cond.instanceMethod y_M_find) mw_45), (hts (Cond.selects "MeasureRows" y_M_find y_M_find) mw_46)⟩ (mr_preV hBH hK (hP.sub (ws' := [((r 0), .inr (0, mf_M r (nI 0) 0 0 0)), ((r 4), .inl (cR, 80, .inr (.inr (.inr (.inr (fun _ => none))))))]) [0, 4] rfl) (ci := 0) (q0 := 0) rfl rfl) rfl rfl hl.1 rfl (lv_room (Nat.le_of_ble_eq_true rfl)) d_M_condition_2 ⟨Nat.le_of_ble_eq_true rfl, Nat.le_of_ble_eq_true rfl⟩)) (fun r_1 h_2 => ?_)
  subst h_2
  refine mr_topv (mv_find0 _) ?_
  refine lv_astore_nN (lv' := [(3, .null), (0, .ref (r 0)), (1, .int a0), (2, .int a1)]) hx hb d_M_condition_5 rfl hl (by decide) rfl (fun ls hl => ?_)
  refine lv_aload_nN hx hb d_M_condition_6 rfl (lv_at hl 0 rfl) ?_
  refine lv_ifnullN (tgt := 32) hx hb d_M_condition_7 (by decide) ?_
  refine lv_iconst (v := 0) hx hb d_M_condition_32 (by decide) ?_
  exact W.zret (v := 0) hx hb hr (mr_narz mr_b0) (fun t ht _ => ⟨_, rfl, rfl, ht⟩) (fun _ h => nomatch h) d_M_condition_33
def mv_M_at (a0 : Int32) : Int32 := if a0 < 0 then (-1) else if 0 ≤ a0 then (-1) else ((fun _ => 0) a0.toNatClampNeg)
set_option maxHeartbeats 4000000 in
set_option maxRecDepth 100000 in
theorem mc_M_at (l : Launch) (s0 : State) (dC : Nat → ClassId) (dI : Nat → Nat → Nat) (cI cR cL cZ : ClassId) (r : Nat → Nat) (a0 : Int32) : Met l y_M_at [Cond.code y_M_at b_M_at 2 (some .int)] ({ frames := 0, cells := 0, slots := 0, locals := 0 }) (mr_PW s0 (dC, dI) [(cI, .int), (cR, .object "MeasureRows$Row"), (cL, .long), (cZ, .boolean)] [.ref (r 0), .int a0] [((r 0), .inr (0, mf_M r (nI 0) 0 0 0)), ((r 1), .inr (1, [.ref (r 2), .ref (r 3)])), ((r 2), .inl (cI, 8, .inl (fun _ => 0))), ((r 3), .inl (cI, 8, .inl (fun _ => 0))), ((r 4), .inl (cR, 80, .inr (.inr (.inr (.inr (fun _ => none)))))), ((r 5), .inl (cI, 80, .inl (fun _ => 0))), ((r 6), .inl (cI, 80, .inl (fun _ => 0))), ((r 7), .inl (cI, 8, .inl (fun _ => 0)))]) (vp_Si (fun r => r = mv_M_at a0)) 0 0 (fun _ => False) := by
  refine Met.ofW (cc := b_M_at) (maxL := 2) (ret := (some .int)) (by decide) rfl ?_
  intro p e s m args below meth c s₁ B hml hv
  obtain ⟨rfl, hB, hK, hP⟩ := hv
  have hBH := hB.here
  have hx := B.exec
  have hb := B.bytes
  have hr := B.returns
  have hlocks := B.notSynchronized
  have hts : ∀ w ∈ lw_tbl, w.before [.ref (r 0), .int a0].toArray s = true := hB.hts _
  have hown : s.vm.findClass "MeasureRows" = some m.cls := findClass_of_methodNamed B.named
  have hl := lv_entry ([.ref (r 0), .int a0]) (n := 2) (Nat.le_of_ble_eq_true rfl)
  rw [lg_entry_eq]
  generalize (lg_sl ([.ref (r 0), .int a0]) ++ List.replicate (2 - (lg_sl ([.ref (r 0), .int a0])).length) Slot.unset).toArray = ls at hl ⊢
  have hl : lv_has ls 2 [(0, .ref (r 0)), (1, .int a0)] := hl
  refine lv_iload_n hx hb d_M_at_0 rfl (lv_at hl 1 rfl) ?_
  refine lv_if_lt (tgt := 21) hx hb d_M_at_1 (by decide) (fun c_1 => ?_) (fun c_1 => ?_)
  · refine lv_iconst (v := (-1)) hx hb d_M_at_21 (by decide) ?_
    exact W.iret (v := (-1)) hx hb hr (fun t ht _ => ⟨_, rfl, by unfold mv_M_at; rw [if_pos c_1], ht⟩) (fun _ h => nomatch h) d_M_at_22
  · refine lv_iload_n hx hb d_M_at_4 rfl (lv_at hl 1 rfl) ?_
    refine lv_aload_n hx hb d_M_at_5 rfl (lv_at hl 0 rfl) ?_
    refine va_get (D := (dC, dI)) (ci := 0) (v := .int 0) (C := R_M) (T := T_M) (N := 9) hx hb hts ti_M hown hK hP 0 rfl rfl 6 (by decide) (hts (Cond.fieldLink "MeasureRows" 36 "MeasureRows" "listedCount" "I") mw_47) (fun _ h9 => h9) rfl d_M_at_6 ?_
    refine lv_icmp_ge (tgt := 21) hx hb d_M_at_9 (by decide) (fun c_2 => ?_) (fun c_2 => ?_)
    · refine lv_iconst (v := (-1)) hx hb d_M_at_21 (by decide) ?_
      exact W.iret (v := (-1)) hx hb hr (fun t ht _ => ⟨_, rfl, by unfold mv_M_at; rw [if_neg c_1, if_pos c_2], ht⟩) (fun _ h => nomatch h) d_M_at_22
    · refine lv_aload_n hx hb d_M_at_12 rfl (lv_at hl 0 rfl) ?_
      refine va_get (D := (dC, dI)) (ci := 0) (v := .ref (r 5)) (C := R_M) (T := T_M) (N := 9) hx hb hts ti_M hown hK hP 0 rfl rfl 5 (by decide) (hts (Cond.fieldLink "MeasureRows" 32 "MeasureRows" "listed" "[I") mw_48) (fun _ h9 => h9) rfl d_M_at_13 ?_
      refine lv_iload_n hx hb d_M_at_16 rfl (lv_at hl 1 rfl) ?_
      refine va_iald (D := (dC, dI)) hx hb hK hP 5 0 rfl rfl (i := a0) (mr_no0 c_1 c_2) d_M_at_17 ?_
      refine lv_goto (tgt := 22) hx hb d_M_at_18 (by decide) ?_
      exact W.iret (v := (fun _ => 0) a0.toNatClampNeg) hx hb hr (fun t ht _ => ⟨_, rfl, by unfold mv_M_at; rw [if_neg c_1, if_neg c_2], ht⟩) (fun _ h => nomatch h) d_M_at_22
def mv_M_count (a0 : Int32) : Int32 := if (mv_M_isGroup a0) = 0 then (if a0 = 0 then (nI 0) else if a0 = 1 then 0 else if a0 = 2 then 0 else if a0 = 3 then 0 else (-1)) else (mv_G_landsIn (fun _ => 0) a0)
set_option maxHeartbeats 4000000 in
set_option maxRecDepth 100000 in
theorem mc_M_count (l : Launch) (s0 : State) (dC : Nat → ClassId) (dI : Nat → Nat → Nat) (cI cR cL cZ : ClassId) (r : Nat → Nat) (a0 : Int32) : Met l y_M_count [Cond.code y_M_count b_M_count 2 (some .int)] ({ frames := 3, cells := 0, slots := 0, locals := 62 }) (mr_PW s0 (dC, dI) [(cI, .int), (cR, .object "MeasureRows$Row"), (cL, .long), (cZ, .boolean)] [.ref (r 0), .int a0] [((r 0), .inr (0, mf_M r (nI 0) 0 0 0)), ((r 1), .inr (1, [.ref (r 2), .ref (r 3)])), ((r 2), .inl (cI, 8, .inl (fun _ => 0))), ((r 3), .inl (cI, 8, .inl (fun _ => 0))), ((r 4), .inl (cR, 80, .inr (.inr (.inr (.inr (fun _ => none)))))), ((r 5), .inl (cI, 80, .inl (fun _ => 0))), ((r 6), .inl (cI, 80, .inl (fun _ => 0))), ((r 7), .inl (cI, 8, .inl (fun _ => 0)))]) (vp_Si (fun r => r = mv_M_count a0)) 0 0 (fun _ => False) := by
  refine Met.ofW (cc := b_M_count) (maxL := 2) (ret := (some .int)) (by decide) rfl ?_
  intro p e s m args below meth c s₁ B hml hv
  obtain ⟨rfl, hB, hK, hP⟩ := hv
  have hBH := hB.here
  have hx := B.exec
  have hb := B.bytes
  have hr := B.returns
  have hlocks := B.notSynchronized
  have hts : ∀ w ∈ lw_tbl, w.before [.ref (r 0), .int a0].toArray s = true := hB.hts _
  have hown : s.vm.findClass "MeasureRows" = some m.cls := findClass_of_methodNamed B.named
  have hl := lv_entry ([.ref (r 0), .int a0]) (n := 2) (Nat.le_of_ble_eq_true rfl)
  rw [lg_entry_eq]
  generalize (lg_sl ([.ref (r 0), .int a0]) ++ List.replicate (2 - (lg_sl ([.ref (r 0), .int a0])).length) Slot.unset).toArray = ls at hl ⊢
  have hl : lv_has ls 2 [(0, .ref (r 0)), (1, .int a0)] := hl
  refine lv_iload_n hx hb d_M_count_0 rfl (lv_at hl 1 rfl) ?_
  refine vp_callSi (va_Run.run (va_runS (As := [.int a0]) (rest := []) ⟨hx, hb, hml, hown, hts⟩ (mc_M_isGroup l s0 a0) ⟨(mr_cB 1 (hts (Cond.code y_M_isGroup b_M_isGroup 1 (some .boolean)) mw_5) (hts (Cond.initialized y_M_isGroup.cls) mw_6) (hts (Cond.methodLink "MeasureRows" 45 y_M_isGroup) mw_7) rfl rfl (by decide +kernel) ⟨Nat.le_of_ble_eq_true rfl, Nat.le_of_ble_eq_true rfl⟩), (hts (Cond.static y_M_isGroup) mw_8)⟩ (mr_pre0 hBH) rfl rfl hl.1 rfl (lv_room (Nat.le_of_ble_eq_true rfl)) d_M_count_1 ⟨Nat.le_of_ble_eq_true rfl, Nat.le_of_ble_eq_true rfl⟩)) (fun r_1 h_2 => ?_)
  subst h_2
  refine lv_if_eq (tgt := 16) hx hb d_M_count_4 (by decide) (fun c_3 => ?_) (fun c_3 => ?_)
  · refine lv_iload_n hx hb d_M_count_16 rfl (lv_at hl 1 rfl) ?_
    by_cases c_4 : a0 = 0
    · refine lv_tableIn (tgt := 48) hx hb d_M_count_17 (by rw [c_4]; decide) (by rw [c_4]; decide) (by rw [c_4]; rfl) (by decide) ?_
      refine lv_aload_n hx hb d_M_count_48 rfl (lv_at hl 0 rfl) ?_
      refine va_get (D := (dC, dI)) (ci := 0) (v := .int (nI 0)) (C := R_M) (T := T_M) (N := 9) hx hb hts ti_M hown hK hP 0 rfl rfl 2 (by decide) (hts (Cond.fieldLink "MeasureRows" 22 "MeasureRows" "rowCount" "I") mw_40) (fun _ h9 => h9) rfl d_M_count_49 ?_
      exact W.iret (v := (nI 0)) hx hb hr (fun t ht _ => ⟨_, rfl, by unfold mv_M_count; rw [if_pos c_3, if_pos c_4], ht⟩) (fun _ h => nomatch h) d_M_count_52
    · skip
      by_cases c_5 : a0 = 1
      · refine lv_tableIn (tgt := 53) hx hb d_M_count_17 (by rw [c_5]; decide) (by rw [c_5]; decide) (by rw [c_5]; rfl) (by decide) ?_
        refine lv_aload_n hx hb d_M_count_53 rfl (lv_at hl 0 rfl) ?_
        refine va_get (D := (dC, dI)) (ci := 0) (v := .int 0) (C := R_M) (T := T_M) (N := 9) hx hb hts ti_M hown hK hP 0 rfl rfl 3 (by decide) (hts (Cond.fieldLink "MeasureRows" 26 "MeasureRows" "now" "I") mw_49) (fun _ h9 => h9) rfl d_M_count_54 ?_
        exact W.iret (v := 0) hx hb hr (fun t ht _ => ⟨_, rfl, by unfold mv_M_count; rw [if_pos c_3, if_neg c_4, if_pos c_5], ht⟩) (fun _ h => nomatch h) d_M_count_57
      · skip
        by_cases c_6 : a0 = 2
        · refine lv_tableIn (tgt := 58) hx hb d_M_count_17 (by rw [c_6]; decide) (by rw [c_6]; decide) (by rw [c_6]; rfl) (by decide) ?_
          refine lv_aload_n hx hb d_M_count_58 rfl (lv_at hl 0 rfl) ?_
          refine va_get (D := (dC, dI)) (ci := 0) (v := .int 0) (C := R_M) (T := T_M) (N := 9) hx hb hts ti_M hown hK hP 0 rfl rfl 6 (by decide) (hts (Cond.fieldLink "MeasureRows" 36 "MeasureRows" "listedCount" "I") mw_47) (fun _ h9 => h9) rfl d_M_count_59 ?_
          exact W.iret (v := 0) hx hb hr (fun t ht _ => ⟨_, rfl, by unfold mv_M_count; rw [if_pos c_3, if_neg c_4, if_neg c_5, if_pos c_6], ht⟩) (fun _ h => nomatch h) d_M_count_62
        · skip
          by_cases c_7 : a0 = 3
          · refine lv_tableIn (tgt := 63) hx hb d_M_count_17 (by rw [c_7]; decide) (by rw [c_7]; decide) (by rw [c_7]; rfl) (by decide) ?_
            refine lv_aload_n hx hb d_M_count_63 rfl (lv_at hl 0 rfl) ?_
            refine va_get (D := (dC, dI)) (ci := 0) (v := .int 0) (C := R_M) (T := T_M) (N := 9) hx hb hts ti_M hown hK hP 0 rfl rfl 4 (by decide) (hts (Cond.fieldLink "MeasureRows" 29 "MeasureRows" "paperBits" "I") mw_50) (fun _ h9 => h9) rfl d_M_count_64 ?_
            exact W.iret (v := 0) hx hb hr (fun t ht _ => ⟨_, rfl, by unfold mv_M_count; rw [if_pos c_3, if_neg c_4, if_neg c_5, if_neg c_6, if_pos c_7], ht⟩) (fun _ h => nomatch h) d_M_count_67
          · skip
            refine lv_tableOut (tgt := 68) hx hb d_M_count_17 (by have z0 := mr_ne (z := 0) (by decide) c_4; have z1 := mr_ne (z := 1) (by decide) c_5; have z2 := mr_ne (z := 2) (by decide) c_6; have z3 := mr_ne (z := 3) (by decide) c_7; omega) (by decide) ?_
            refine lv_iconst (v := (-1)) hx hb d_M_count_68 (by decide) ?_
            exact W.iret (v := (-1)) hx hb hr (fun t ht _ => ⟨_, rfl, by unfold mv_M_count; rw [if_pos c_3, if_neg c_4, if_neg c_5, if_neg c_6, if_neg c_7], ht⟩) (fun _ h => nomatch h) d_M_count_69
  · refine lv_aload_n hx hb d_M_count_7 rfl (lv_at hl 0 rfl) ?_
    refine va_get (D := (dC, dI)) (ci := 0) (v := .ref (r 1)) (C := R_M) (T := T_M) (N := 9) hx hb hts ti_M hown hK hP 0 rfl rfl 0 (by decide) (hts (Cond.fieldLink "MeasureRows" 10 "MeasureRows" "groups" "LMeasureRows$Groups;") mw_51) (fun _ h9 => h9) rfl d_M_count_8 ?_
    refine lv_iload_n hx hb d_M_count_11 rfl (lv_at hl 1 rfl) ?_
    refine vp_callSi (va_Run.run (va_runV (As := [.int a0]) (rest := []) (C := R_G) ⟨hx, hb, hml, hown, hts⟩ (mc_G_landsIn l s0 dC dI cI cR cL cZ (r 1) (r 2) (r 3) (fun _ => 0) a0) ⟨(mr_cB 1 (hts (Cond.code y_G_landsIn b_G_landsIn 2 (some .int)) mw_52) (hts (Cond.initialized y_G_landsIn.cls) mw_53) (hts (Cond.methodLink "MeasureRows" 186 y_G_landsIn) mw_54) rfl rfl (by decide +kernel) ⟨Nat.le_of_ble_eq_true rfl, Nat.le_of_ble_eq_true rfl⟩), (hts (Cond.instanceMethod y_G_landsIn) mw_55), (hts (Cond.selects "MeasureRows$Groups" y_G_landsIn y_G_landsIn) mw_56)⟩ (mr_preV hBH hK (hP.sub (ws' := [((r 1), .inr (1, [.ref (r 2), .ref (r 3)])), ((r 3), .inl (cI, 8, .inl (fun _ => 0)))]) [1, 3] rfl) (ci := 1) (q0 := 0) rfl rfl) rfl rfl hl.1 rfl (lv_room (Nat.le_of_ble_eq_true rfl)) d_M_count_12 ⟨Nat.le_of_ble_eq_true rfl, Nat.le_of_ble_eq_true rfl⟩)) (fun r_8 h_9 => ?_)
    subst h_9
    exact W.iret (v := mv_G_landsIn (fun _ => 0) a0) hx hb hr (fun t ht _ => ⟨_, rfl, by unfold mv_M_count; rw [if_neg c_3], ht⟩) (fun _ h => nomatch h) d_M_count_15
