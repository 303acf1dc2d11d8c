def mv_bt (v : Int32) : Nat → Int32
  | 0 => 0
  | k + 1 => mv_bt v k + ((v >>> (nI k &&& 31)) &&& 1)
theorem mv_bt_s (v : Int32) (k : Nat) : mv_bt v (k + 1) = mv_bt v k + ((v >>> (nI k &&& 31)) &&& 1) := rfl
def mv_al (f : Nat → Int32) (v : Int32) : Nat → Int32
  | 0 => v
  | k + 1 => if ((mv_al f v k) >>> ((16 + nI k) &&& 31)) &&& 1 = 1 then (mv_al f v k) ||| f k else mv_al f v k
theorem mv_al_s (f : Nat → Int32) (v : Int32) (k : Nat) : mv_al f v (k + 1) = if ((mv_al f v k) >>> ((16 + nI k) &&& 31)) &&& 1 = 1 then (mv_al f v k) ||| f k else mv_al f v k := rfl
def mv_alr (f : Nat → Int32) (v : Int32) : Nat → Int32
  | 0 => v
  | r + 1 => mv_al f (mv_alr f v r) 8
theorem mv_alr_s (f : Nat → Int32) (v : Int32) (r : Nat) : mv_alr f v (r + 1) = mv_al f (mv_alr f v r) 8 := rfl
theorem mr_gd {x : Int32} (h : ¬ mv_D_isGroup x = 0) : vp_in (x - 16) 8 := by
  unfold mv_D_isGroup mv_D_in at h
  by_cases h1 : x < 16
  · rw [if_pos h1] at h; exact absurd rfl h
  · rw [if_neg h1] at h
    by_cases h2 : 23 < x
    · rw [if_pos h2] at h; exact absurd rfl h
    · refine mr_i8 h1 (fun h3 => h2 ?_)
      rw [Int32.lt_iff_toInt_lt]
      rw [Int32.le_iff_toInt_le] at h3
      have a1 : (24 : Int32).toInt = 24 := by decide
      have a2 : (23 : Int32).toInt = 23 := by decide
      omega
theorem mw_87 : Cond.fieldLink "MeasureRowsModel" 7 "MeasureRowsModel" "members" "[I" ∈ lw_tbl := by decide +kernel
theorem mw_88 : Cond.code y_D_all b_D_all 5 (some .int) ∈ lw_tbl := by decide +kernel
theorem mw_89 : Cond.initialized y_D_all.cls ∈ lw_tbl := by decide +kernel
theorem mw_90 : Cond.methodLink "MeasureRowsModel" 63 y_D_all ∈ lw_tbl := by decide +kernel
theorem mw_91 : Cond.instanceMethod y_D_all ∈ lw_tbl := by decide +kernel
theorem mw_92 : Cond.selects "MeasureRowsModel" y_D_all y_D_all ∈ lw_tbl := by decide +kernel
theorem mw_93 : Cond.code y_D_isGroup b_D_isGroup 1 (some .boolean) ∈ lw_tbl := by decide +kernel
theorem mw_94 : Cond.initialized y_D_isGroup.cls ∈ lw_tbl := by decide +kernel
theorem mw_95 : Cond.methodLink "MeasureRowsModel" 67 y_D_isGroup ∈ lw_tbl := by decide +kernel
theorem mw_96 : Cond.static y_D_isGroup ∈ lw_tbl := by decide +kernel
def mv_D_bits (a0 : Int32) : Int32 := mv_bt a0 32
set_option maxHeartbeats 4000000 in
set_option maxRecDepth 100000 in
theorem mc_D_bits (l : Launch) (s0 : State) (a0 : Int32) : Met l y_D_bits [Cond.code y_D_bits b_D_bits 3 (some .int)] ({ frames := 0, cells := 0, slots := 0, locals := 0 }) (va_Pc [.int a0] (fun U => mr_B s0 U)) (vp_Si (fun r => r = mv_D_bits a0)) 0 0 (fun _ => False) := by
  refine Met.ofW (cc := b_D_bits) (maxL := 3) (ret := (some .int)) (by decide) rfl ?_
  intro p e s m args below meth c s₁ B hml hv
  obtain ⟨rfl, hB⟩ := hv
  have hBH := hB.here
  have hx := B.exec
  have hb := B.bytes
  have hr := B.returns
  have hlocks := B.notSynchronized
  have hts : ∀ w ∈ lw_tbl, w.before [.int a0].toArray s = true := hB.hts _
  have hown : s.vm.findClass "MeasureRowsModel" = some m.cls := findClass_of_methodNamed B.named
  have hl := lv_entry ([.int a0]) (n := 3) (Nat.le_of_ble_eq_true rfl)
  rw [lg_entry_eq]
  generalize (lg_sl ([.int a0]) ++ List.replicate (3 - (lg_sl ([.int a0])).length) Slot.unset).toArray = ls at hl ⊢
  have hl : lv_has ls 3 [(0, .int a0)] := hl
  refine lv_iconst (v := 0) hx hb d_D_bits_0 (by decide) ?_
  refine lv_istore_n (lv' := [(1, .int 0), (0, .int a0)]) hx hb d_D_bits_1 rfl hl (by decide) rfl (fun ls hl => ?_)
  refine lv_iconst (v := 0) hx hb d_D_bits_2 (by decide) ?_
  refine lv_istore_n (lv' := [(2, .int 0), (1, .int 0), (0, .int a0)]) hx hb d_D_bits_3 rfl hl (by decide) rfl (fun ls hl => ?_)
  refine mr_loop (N := 32) (I := fun j H locs ls => H = s.heap ∧ locs = [] ∧ lv_has ls 3 [(2, .int (nI j)), (1, .int (mv_bt a0 j)), (0, .int a0)]) (fun j H locs ls hj hI ih => ?_) (fun H locs ls hI => ?_) 0 _ _ _ (Nat.zero_le _) ⟨rfl, rfl, (lv_sub hl [0, 1, 2] rfl)⟩
  · obtain ⟨rfl, rfl, hl⟩ := hI
    refine lv_iload_n hx hb d_D_bits_4 rfl (lv_at hl 0 rfl) ?_
    refine lv_bipush (v := 32) hx hb d_D_bits_5 (by decide) ?_
    refine lv_icmp_ge (tgt := 24) hx hb d_D_bits_7 (by decide) (fun c_1 => absurd c_1 (nI_ge (b := 32) hj (by decide))) (fun _ => ?_)
    refine lv_iload_n hx hb d_D_bits_10 rfl (lv_at hl 1 rfl) ?_
    refine lv_iload_n hx hb d_D_bits_11 rfl (lv_at hl 2 rfl) ?_
    refine lv_iload_n hx hb d_D_bits_12 rfl (lv_at hl 0 rfl) ?_
    refine lv_ishr hx hb d_D_bits_13 ?_
    refine lv_iconst (v := 1) hx hb d_D_bits_14 (by decide) ?_
    refine lv_iand hx hb d_D_bits_15 ?_
    refine lv_iadd hx hb d_D_bits_16 ?_
    refine lv_istore_n (lv' := [(1, .int ((mv_bt a0 j) + ((a0 >>> ((nI j) &&& 31)) &&& 1))), (2, .int (nI j)), (0, .int a0)]) hx hb d_D_bits_17 rfl hl (by decide) rfl (fun ls hl => ?_)
    refine lv_iinc (v := nI (j + 1)) (lv' := [(2, .int (nI (j + 1))), (1, .int ((mv_bt a0 j) + ((a0 >>> ((nI j) &&& 31)) &&& 1))), (0, .int a0)]) hx hb d_D_bits_18 hl (k := 1) rfl ((nI_succ j).symm) (by decide) rfl (fun ls hl => ?_)
    refine lv_goto (tgt := 4) hx hb d_D_bits_21 (by decide) ?_
    rw [← mv_bt_s a0 j] at hl
    exact ih _ _ _ ⟨rfl, rfl, lv_sub hl [0, 1, 2] rfl⟩
  · obtain ⟨rfl, rfl, hl⟩ := hI
    refine lv_iload_n hx hb d_D_bits_4 rfl (lv_at hl 0 rfl) ?_
    refine lv_bipush (v := 32) hx hb d_D_bits_5 (by decide) ?_
    refine lv_icmp_ge (tgt := 24) hx hb d_D_bits_7 (by decide) (fun _ => ?_) (fun c_2 => absurd c_2 (by decide))
    refine lv_iload_n hx hb d_D_bits_24 rfl (lv_at hl 1 rfl) ?_
    exact W.iret (v := mv_bt a0 32) hx hb hr (fun t ht _ => ⟨_, rfl, rfl, ht⟩) (fun _ h => nomatch h) d_D_bits_25
def mv_D_all (fm : Nat → Int32) (a0 : Int32) : Int32 := mv_alr fm (fm (a0 - 16).toNatClampNeg) 8
set_option maxHeartbeats 4000000 in
set_option maxRecDepth 100000 in
theorem mc_D_all (l : Launch) (s0 : State) (dC : Nat → ClassId) (dI : Nat → Nat → Nat) (cI cR cL cZ : ClassId) (r : Nat → Nat) (th rw nw pb lc : Int32) (fm : Nat → Int32) (a0 : Int32) (hg : ¬ mv_D_isGroup a0 = 0) : Met l y_D_all [Cond.code y_D_all b_D_all 5 (some .int)] ({ frames := 0, cells := 0, slots := 0, locals := 0 }) (mr_PW s0 (dC, dI) [(cI, .int), (cR, .object "MeasureRows$Row"), (cL, .long), (cZ, .boolean)] [.ref (r 0), .int a0] [((r 0), .inr (3, mf_D r th rw nw pb lc)), ((r 1), .inl (cI, 8, .inl fm))]) (vp_Si (fun r => r = mv_D_all fm a0)) 0 0 (fun _ => False) := by
  refine Met.ofW (cc := b_D_all) (maxL := 5) (ret := (some .int)) (by decide) rfl ?_
  intro p e s m args below meth c s₁ B hml hv
  obtain ⟨rfl, hB, hK, hP⟩ := hv
  have hBH := hB.here
  have hx := B.exec
  have hb := B.bytes
  have hr := B.returns
  have hlocks := B.notSynchronized
  have hts : ∀ w ∈ lw_tbl, w.before [.ref (r 0), .int a0].toArray s = true := hB.hts _
  have hown : s.vm.findClass "MeasureRowsModel" = some m.cls := findClass_of_methodNamed B.named
  have hl := lv_entry ([.ref (r 0), .int a0]) (n := 5) (Nat.le_of_ble_eq_true rfl)
  rw [lg_entry_eq]
  generalize (lg_sl ([.ref (r 0), .int a0]) ++ List.replicate (5 - (lg_sl ([.ref (r 0), .int a0])).length) Slot.unset).toArray = ls at hl ⊢
  have hl : lv_has ls 5 [(0, .ref (r 0)), (1, .int a0)] := hl
  refine lv_aload_n hx hb d_D_all_0 rfl (lv_at hl 0 rfl) ?_
  refine va_get (D := (dC, dI)) (ci := 3) (v := .ref (r 1)) (C := R_D) (T := T_D) (N := 19) hx hb hts ti_D hown hK hP 0 rfl rfl 1 (by decide) (hts (Cond.fieldLink "MeasureRowsModel" 7 "MeasureRowsModel" "members" "[I") mw_87) (fun _ h9 => h9) rfl d_D_all_1 ?_
  refine lv_iload_n hx hb d_D_all_4 rfl (lv_at hl 1 rfl) ?_
  refine lv_bipush (v := 16) hx hb d_D_all_5 (by decide) ?_
  refine lv_isub hx hb d_D_all_7 ?_
  refine va_iald (D := (dC, dI)) hx hb hK hP 1 0 rfl rfl (i := a0 - 16) (mr_gd hg) d_D_all_8 ?_
  refine lv_istore_n (lv' := [(2, .int (fm (a0 - 16).toNatClampNeg)), (0, .ref (r 0)), (1, .int a0)]) hx hb d_D_all_9 rfl hl (by decide) rfl (fun ls hl => ?_)
  refine lv_iconst (v := 0) hx hb d_D_all_10 (by decide) ?_
  refine lv_istore_n (lv' := [(3, .int 0), (2, .int (fm (a0 - 16).toNatClampNeg)), (0, .ref (r 0)), (1, .int a0)]) hx hb d_D_all_11 rfl hl (by decide) rfl (fun ls hl => ?_)
  refine mr_loop (N := 8) (I := fun i H locs ls => H = s.heap ∧ locs = [] ∧ lv_has ls 5 [(3, .int (nI i)), (2, .int (mv_alr fm (fm (a0 - 16).toNatClampNeg) i)), (0, .ref (r 0)), (1, .int a0)]) (fun i H locs ls hi hI1 ih1 => ?_) (fun H locs ls hI1 => ?_) 0 _ _ _ (Nat.zero_le _) ⟨rfl, rfl, (lv_sub hl [0, 1, 2, 3] rfl)⟩
  · obtain ⟨rfl, rfl, hl⟩ := hI1
    refine lv_iload_n hx hb d_D_all_12 rfl (lv_at hl 0 rfl) ?_
    refine lv_bipush (v := 8) hx hb d_D_all_13 (by decide) ?_
    refine lv_icmp_ge (tgt := 63) hx hb d_D_all_15 (by decide) (fun c_1 => absurd c_1 (nI_ge (b := 8) hi (by decide))) (fun _ => ?_)
    refine lv_iconst (v := 0) hx hb d_D_all_18 (by decide) ?_
    refine lv_istore (lv' := [(4, .int 0), (3, .int (nI i)), (2, .int (mv_alr fm (fm (a0 - 16).toNatClampNeg) i)), (0, .ref (r 0)), (1, .int a0)]) hx hb d_D_all_19 hl (by decide) rfl (fun ls hl => ?_)
    refine mr_loop (N := 8) (I := fun j H locs ls => H = s.heap ∧ locs = [] ∧ lv_has ls 5 [(4, .int (nI j)), (2, .int (mv_al fm (mv_alr fm (fm (a0 - 16).toNatClampNeg) i) j)), (3, .int (nI i)), (0, .ref (r 0)), (1, .int a0)]) (fun j H locs ls hj hI ih => ?_) (fun H locs ls hI => ?_) 0 _ _ _ (Nat.zero_le _) ⟨rfl, rfl, (lv_sub hl [0, 2, 1, 3, 4] rfl)⟩
    · obtain ⟨rfl, rfl, hl⟩ := hI
      refine lv_iload hx hb d_D_all_21 (lv_at hl 0 rfl) ?_
      refine lv_bipush (v := 8) hx hb d_D_all_23 (by decide) ?_
      refine lv_icmp_ge (tgt := 57) hx hb d_D_all_25 (by decide) (fun c_2 => absurd c_2 (nI_ge (b := 8) hj (by decide))) (fun _ => ?_)
      refine lv_iload_n hx hb d_D_all_28 rfl (lv_at hl 1 rfl) ?_
      refine lv_bipush (v := 16) hx hb d_D_all_29 (by decide) ?_
      refine lv_iload hx hb d_D_all_31 (lv_at hl 0 rfl) ?_
      refine lv_iadd hx hb d_D_all_33 ?_
      refine lv_ishr hx hb d_D_all_34 ?_
      refine lv_iconst (v := 1) hx hb d_D_all_35 (by decide) ?_
      refine lv_iand hx hb d_D_all_36 ?_
      refine lv_iconst (v := 1) hx hb d_D_all_37 (by decide) ?_
      refine lv_icmp_ne (tgt := 51) hx hb d_D_all_38 (by decide) (fun c_3 => ?_) (fun c_3 => ?_)
      · refine lv_iinc (v := nI (j + 1)) (lv' := [(4, .int (nI (j + 1))), (2, .int (mv_al fm (mv_alr fm (fm (a0 - 16).toNatClampNeg) i) j)), (3, .int (nI i)), (0, .ref (r 0)), (1, .int a0)]) hx hb d_D_all_51 hl (k := 0) rfl ((nI_succ j).symm) (by decide) rfl (fun ls hl => ?_)
        refine lv_goto (tgt := 21) hx hb d_D_all_54 (by decide) ?_
        have e9 : mv_al fm (mv_alr fm (fm (a0 - 16).toNatClampNeg) i) (j + 1) = mv_al fm (mv_alr fm (fm (a0 - 16).toNatClampNeg) i) j := by rw [mv_al_s, if_neg c_3]
        rw [← e9] at hl
        exact ih _ _ _ ⟨rfl, rfl, lv_sub hl [0, 1, 2, 3, 4] rfl⟩
      · refine lv_iload_n hx hb d_D_all_41 rfl (lv_at hl 1 rfl) ?_
        refine lv_aload_n hx hb d_D_all_42 rfl (lv_at hl 3 rfl) ?_
        refine va_get (D := (dC, dI)) (ci := 3) (v := .ref (r 1)) (C := R_D) (T := T_D) (N := 19) hx hb hts ti_D hown hK hP 0 rfl rfl 1 (by decide) (hts (Cond.fieldLink "MeasureRowsModel" 7 "MeasureRowsModel" "members" "[I") mw_87) (fun _ h9 => h9) rfl d_D_all_43 ?_
        refine lv_iload hx hb d_D_all_46 (lv_at hl 0 rfl) ?_
        refine va_iald (D := (dC, dI)) hx hb hK hP 1 0 rfl rfl (i := nI j) (nI_in hj (by decide)) d_D_all_48 ?_
        refine mr_top (show fm (nI j).toNatClampNeg = fm j by rw [nI_clamp (by omega)]) ?_
        refine lv_ior hx hb d_D_all_49 ?_
        refine lv_istore_n (lv' := [(2, .int ((mv_al fm (mv_alr fm (fm (a0 - 16).toNatClampNeg) i) j) ||| (fm j))), (4, .int (nI j)), (3, .int (nI i)), (0, .ref (r 0)), (1, .int a0)]) hx hb d_D_all_50 rfl hl (by decide) rfl (fun ls hl => ?_)
        refine lv_iinc (v := nI (j + 1)) (lv' := [(4, .int (nI (j + 1))), (2, .int ((mv_al fm (mv_alr fm (fm (a0 - 16).toNatClampNeg) i) j) ||| (fm j))), (3, .int (nI i)), (0, .ref (r 0)), (1, .int a0)]) hx hb d_D_all_51 hl (k := 1) rfl ((nI_succ j).symm) (by decide) rfl (fun ls hl => ?_)
        refine lv_goto (tgt := 21) hx hb d_D_all_54 (by decide) ?_
        have e9 : mv_al fm (mv_alr fm (fm (a0 - 16).toNatClampNeg) i) (j + 1) = (mv_al fm (mv_alr fm (fm (a0 - 16).toNatClampNeg) i) j) ||| (fm j) := by rw [mv_al_s, if_pos c_3]
        rw [← e9] at hl
        exact ih _ _ _ ⟨rfl, rfl, lv_sub hl [0, 1, 2, 3, 4] rfl⟩
    · obtain ⟨rfl, rfl, hl⟩ := hI
      refine lv_iload hx hb d_D_all_21 (lv_at hl 0 rfl) ?_
      refine lv_bipush (v := 8) hx hb d_D_all_23 (by decide) ?_
      refine lv_icmp_ge (tgt := 57) hx hb d_D_all_25 (by decide) (fun _ => ?_) (fun c_4 => absurd c_4 (by decide))
      refine lv_iinc (v := nI (i + 1)) (lv' := [(3, .int (nI (i + 1))), (4, .int (nI 8)), (2, .int (mv_al fm (mv_alr fm (fm (a0 - 16).toNatClampNeg) i) 8)), (0, .ref (r 0)), (1, .int a0)]) hx hb d_D_all_57 hl (k := 2) rfl ((nI_succ i).symm) (by decide) rfl (fun ls hl => ?_)
      refine lv_goto (tgt := 12) hx hb d_D_all_60 (by decide) ?_
      rw [← mv_alr_s fm _ i] at hl
      exact ih1 _ _ _ ⟨rfl, rfl, lv_sub hl [0, 2, 3, 4] rfl⟩
  · obtain ⟨rfl, rfl, hl⟩ := hI1
    refine lv_iload_n hx hb d_D_all_12 rfl (lv_at hl 0 rfl) ?_
    refine lv_bipush (v := 8) hx hb d_D_all_13 (by decide) ?_
    refine lv_icmp_ge (tgt := 63) hx hb d_D_all_15 (by decide) (fun _ => ?_) (fun c_5 => absurd c_5 (by decide))
    refine lv_iload_n hx hb d_D_all_63 rfl (lv_at hl 1 rfl) ?_
    exact W.iret (v := mv_alr fm (fm (a0 - 16).toNatClampNeg) 8) hx hb hr (fun t ht _ => ⟨_, rfl, rfl, ht⟩) (fun _ h => nomatch h) d_D_all_64
def mv_D_rings (fm : Nat → Int32) (a0 : Int32) (a1 : Int32) : Int32 := if a0 = a1 then 1 else if (((mv_D_all fm a1) >>> (a0 &&& 31)) &&& 1) = 1 then 1 else 0
theorem mv_D_rings_b (fm : Nat → Int32) (a0 : Int32) (a1 : Int32) : mr_b01 (mv_D_rings fm a0 a1) := (mr_bi mr_b1 (mr_bi mr_b1 mr_b0))
set_option maxHeartbeats 4000000 in
set_option maxRecDepth 100000 in
theorem mc_D_rings (l : Launch) (s0 : State) (dC : Nat → ClassId) (dI : Nat → Nat → Nat) (cI cR cL cZ : ClassId) (r : Nat → Nat) (th rw nw pb lc : Int32) (fm : Nat → Int32) (a0 : Int32) (a1 : Int32) (hg : ¬ mv_D_isGroup a1 = 0) : Met l y_D_rings [Cond.code y_D_rings b_D_rings 3 (some .boolean)] ({ frames := 1, cells := 0, slots := 0, locals := 24 }) (mr_PW s0 (dC, dI) [(cI, .int), (cR, .object "MeasureRows$Row"), (cL, .long), (cZ, .boolean)] [.ref (r 0), .int a0, .int a1] [((r 0), .inr (3, mf_D r th rw nw pb lc)), ((r 1), .inl (cI, 8, .inl fm))]) (vp_Si (fun r => r = mv_D_rings fm a0 a1)) 0 0 (fun _ => False) := by
  refine Met.ofW (cc := b_D_rings) (maxL := 3) (ret := (some .boolean)) (by decide) rfl ?_
  intro p e s m args below meth c s₁ B hml hv
  obtain ⟨rfl, hB, hK, hP⟩ := hv
  have hBH := hB.here
  have hx := B.exec
  have hb := B.bytes
  have hr := B.returns
  have hlocks := B.notSynchronized
  have hts : ∀ w ∈ lw_tbl, w.before [.ref (r 0), .int a0, .int a1].toArray s = true := hB.hts _
  have hown : s.vm.findClass "MeasureRowsModel" = some m.cls := findClass_of_methodNamed B.named
  have hl := lv_entry ([.ref (r 0), .int a0, .int a1]) (n := 3) (Nat.le_of_ble_eq_true rfl)
  rw [lg_entry_eq]
  generalize (lg_sl ([.ref (r 0), .int a0, .int a1]) ++ List.replicate (3 - (lg_sl ([.ref (r 0), .int a0, .int a1])).length) Slot.unset).toArray = ls at hl ⊢
  have hl : lv_has ls 3 [(0, .ref (r 0)), (1, .int a0), (2, .int a1)] := hl
  refine lv_iload_n hx hb d_D_rings_0 rfl (lv_at hl 1 rfl) ?_
  refine lv_iload_n hx hb d_D_rings_1 rfl (lv_at hl 2 rfl) ?_
  refine lv_icmp_eq (tgt := 18) hx hb d_D_rings_2 (by decide) (fun c_1 => ?_) (fun c_1 => ?_)
  · refine lv_iconst (v := 1) hx hb d_D_rings_18 (by decide) ?_
    refine lv_goto (tgt := 23) hx hb d_D_rings_19 (by decide) ?_
    exact W.zret (v := 1) hx hb hr (mr_narz mr_b1) (fun t ht _ => ⟨_, rfl, by unfold mv_D_rings; rw [if_pos c_1], ht⟩) (fun _ h => nomatch h) d_D_rings_23
  · refine lv_aload_n hx hb d_D_rings_5 rfl (lv_at hl 0 rfl) ?_
    refine lv_iload_n hx hb d_D_rings_6 rfl (lv_at hl 2 rfl) ?_
    refine vp_callSi (va_Run.run (va_runV (As := [.int a1]) (rest := []) (C := R_D) ⟨hx, hb, hml, hown, hts⟩ (mc_D_all l s0 dC dI cI cR cL cZ r th rw nw pb lc fm a1 hg) ⟨(mr_cB 1 (hts (Cond.code y_D_all b_D_all 5 (some .int)) mw_88) (hts (Cond.initialized y_D_all.cls) mw_89) (hts (Cond.methodLink "MeasureRowsModel" 63 y_D_all) mw_90) rfl rfl (by decide +kernel) ⟨Nat.le_of_ble_eq_true rfl, Nat.le_of_ble_eq_true rfl⟩), (hts (Cond.instanceMethod y_D_all) mw_91), (hts (Cond.selects "MeasureRowsModel" y_D_all y_D_all) mw_92)⟩ (mr_preV hBH hK (hP.sub (ws' := [((r 0), .inr (3, mf_D r th rw nw pb lc)), ((r 1), .inl (cI, 8, .inl fm))]) [0, 1] rfl) (ci := 3) (q0 := 0) rfl rfl) rfl rfl hl.1 rfl (lv_room (Nat.le_of_ble_eq_true rfl)) d_D_rings_7 ⟨Nat.le_of_ble_eq_true rfl, Nat.le_of_ble_eq_true rfl⟩)) (fun r_2 h_3 => ?_)
    subst h_3
    refine lv_iload_n hx hb d_D_rings_10 rfl (lv_at hl 1 rfl) ?_
    refine lv_ishr hx hb d_D_rings_11 ?_
    refine lv_iconst (v := 1) hx hb d_D_rings_12 (by decide) ?_
    refine lv_iand hx hb d_D_rings_13 ?_
    refine lv_iconst (v := 1) hx hb d_D_rings_14 (by decide) ?_
    refine lv_icmp_ne (tgt := 22) hx hb d_D_rings_15 (by decide) (fun c_4 => ?_) (fun c_4 => ?_)
    · refine lv_iconst (v := 0) hx hb d_D_rings_22 (by decide) ?_
      exact W.zret (v := 0) hx hb hr (mr_narz mr_b0) (fun t ht _ => ⟨_, rfl, by unfold mv_D_rings; rw [if_neg c_1, if_neg c_4], ht⟩) (fun _ h => nomatch h) d_D_rings_23
    · refine lv_iconst (v := 1) hx hb d_D_rings_18 (by decide) ?_
      refine lv_goto (tgt := 23) hx hb d_D_rings_19 (by decide) ?_
      exact W.zret (v := 1) hx hb hr (mr_narz mr_b1) (fun t ht _ => ⟨_, rfl, by unfold mv_D_rings; rw [if_neg c_1, if_pos c_4], ht⟩) (fun _ h => nomatch h) d_D_rings_23
def mv_D_isIn (fm : Nat → Int32) (a0 : Int32) (a1 : Int32) : Int32 := if a1 = 31 then 1 else if a1 = a0 then 1 else if (mv_D_isGroup a1) = 0 then 0 else if (((mv_D_all fm a1) >>> (a0 &&& 31)) &&& 1) = 1 then 1 else 0
theorem mv_D_isIn_b (fm : Nat → Int32) (a0 : Int32) (a1 : Int32) : mr_b01 (mv_D_isIn fm a0 a1) := (mr_bi mr_b1 (mr_bi mr_b1 (mr_bi mr_b0 (mr_bi mr_b1 mr_b0))))
set_option maxHeartbeats 4000000 in
set_option maxRecDepth 100000 in
theorem mc_D_isIn (l : Launch) (s0 : State) (dC : Nat → ClassId) (dI : Nat → Nat → Nat) (cI cR cL cZ : ClassId) (r : Nat → Nat) (th rw nw pb lc : Int32) (fm : Nat → Int32) (a0 : Int32) (a1 : Int32) : Met l y_D_isIn [Cond.code y_D_isIn b_D_isIn 3 (some .boolean)] ({ frames := 2, cells := 0, slots := 0, locals := 42 }) (mr_PW s0 (dC, dI) [(cI, .int), (cR, .object "MeasureRows$Row"), (cL, .long), (cZ, .boolean)] [.ref (r 0), .int a0, .int a1] [((r 0), .inr (3, mf_D r th rw nw pb lc)), ((r 1), .inl (cI, 8, .inl fm))]) (vp_Si (fun r => r = mv_D_isIn fm a0 a1)) 0 0 (fun _ => False) := by
  refine Met.ofW (cc := b_D_isIn) (maxL := 3) (ret := (some .boolean)) (by decide) rfl ?_
  intro p e s m args below meth c s₁ B hml hv
  obtain ⟨rfl, hB, hK, hP⟩ := hv
  have hBH := hB.here
  have hx := B.exec
  have hb := B.bytes
  have hr := B.returns
  have hlocks := B.notSynchronized
  have hts : ∀ w ∈ lw_tbl, w.before [.ref (r 0), .int a0, .int a1].toArray s = true := hB.hts _
  have hown : s.vm.findClass "MeasureRowsModel" = some m.cls := findClass_of_methodNamed B.named
  have hl := lv_entry ([.ref (r 0), .int a0, .int a1]) (n := 3) (Nat.le_of_ble_eq_true rfl)
  rw [lg_entry_eq]
  generalize (lg_sl ([.ref (r 0), .int a0, .int a1]) ++ List.replicate (3 - (lg_sl ([.ref (r 0), .int a0, .int a1])).length) Slot.unset).toArray = ls at hl ⊢
  have hl : lv_has ls 3 [(0, .ref (r 0)), (1, .int a0), (2, .int a1)] := hl
  refine lv_iload_n hx hb d_D_isIn_0 rfl (lv_at hl 2 rfl) ?_
  refine lv_bipush (v := 31) hx hb d_D_isIn_1 (by decide) ?_
  refine lv_icmp_eq (tgt := 31) hx hb d_D_isIn_3 (by decide) (fun c_1 => ?_) (fun c_1 => ?_)
  · refine lv_iconst (v := 1) hx hb d_D_isIn_31 (by decide) ?_
    refine lv_goto (tgt := 36) hx hb d_D_isIn_32 (by decide) ?_
    exact W.zret (v := 1) hx hb hr (mr_narz mr_b1) (fun t ht _ => ⟨_, rfl, by unfold mv_D_isIn; rw [if_pos c_1], ht⟩) (fun _ h => nomatch h) d_D_isIn_36
  · refine lv_iload_n hx hb d_D_isIn_6 rfl (lv_at hl 2 rfl) ?_
    refine lv_iload_n hx hb d_D_isIn_7 rfl (lv_at hl 1 rfl) ?_
    refine lv_icmp_eq (tgt := 31) hx hb d_D_isIn_8 (by decide) (fun c_2 => ?_) (fun c_2 => ?_)
    · refine lv_iconst (v := 1) hx hb d_D_isIn_31 (by decide) ?_
      refine lv_goto (tgt := 36) hx hb d_D_isIn_32 (by decide) ?_
      exact W.zret (v := 1) hx hb hr (mr_narz mr_b1) (fun t ht _ => ⟨_, rfl, by unfold mv_D_isIn; rw [if_neg c_1, if_pos c_2], ht⟩) (fun _ h => nomatch h) d_D_isIn_36
    · refine lv_iload_n hx hb d_D_isIn_11 rfl (lv_at hl 2 rfl) ?_
      refine vp_callSi (va_Run.run (va_runS (As := [.int a1]) (rest := []) ⟨hx, hb, hml, hown, hts⟩ (mc_D_isGroup l s0 a1) ⟨(mr_cB 1 (hts (Cond.code y_D_isGroup b_D_isGroup 1 (some .boolean)) mw_93) (hts (Cond.initialized y_D_isGroup.cls) mw_94) (hts (Cond.methodLink "MeasureRowsModel" 67 y_D_isGroup) mw_95) rfl rfl (by decide +kernel) ⟨Nat.le_of_ble_eq_true rfl, Nat.le_of_ble_eq_true rfl⟩), (hts (Cond.static y_D_isGroup) mw_96)⟩ (mr_pre0 hBH) rfl rfl hl.1 rfl (lv_room (Nat.le_of_ble_eq_true rfl)) d_D_isIn_12 ⟨Nat.le_of_ble_eq_true rfl, Nat.le_of_ble_eq_true rfl⟩)) (fun r_3 h_4 => ?_)
      subst h_4
      refine lv_if_eq (tgt := 35) hx hb d_D_isIn_15 (by decide) (fun c_5 => ?_) (fun c_5 => ?_)
      · refine lv_iconst (v := 0) hx hb d_D_isIn_35 (by decide) ?_
        exact W.zret (v := 0) hx hb hr (mr_narz mr_b0) (fun t ht _ => ⟨_, rfl, by unfold mv_D_isIn; rw [if_neg c_1, if_neg c_2, if_pos c_5], ht⟩) (fun _ h => nomatch h) d_D_isIn_36
      · refine lv_aload_n hx hb d_D_isIn_18 rfl (lv_at hl 0 rfl) ?_
        refine lv_iload_n hx hb d_D_isIn_19 rfl (lv_at hl 2 rfl) ?_
        refine vp_callSi (va_Run.run (va_runV (As := [.int a1]) (rest := []) (C := R_D) ⟨hx, hb, hml, hown, hts⟩ (mc_D_all l s0 dC dI cI cR cL cZ r th rw nw pb lc fm a1 c_5) ⟨(mr_cB 1 (hts (Cond.code y_D_all b_D_all 5 (some .int)) mw_88) (hts (Cond.initialized y_D_all.cls) mw_89) (hts (Cond.methodLink "MeasureRowsModel" 63 y_D_all) mw_90) rfl rfl (by decide +kernel) ⟨Nat.le_of_ble_eq_true rfl, Nat.le_of_ble_eq_true rfl⟩), (hts (Cond.instanceMethod y_D_all) mw_91), (hts (Cond.selects "MeasureRowsModel" y_D_all y_D_all) mw_92)⟩ (mr_preV hBH hK (hP.sub (ws' := [((r 0), .inr (3, mf_D r th rw nw pb lc)), ((r 1), .inl (cI, 8, .inl fm))]) [0, 1] rfl) (ci := 3) (q0 := 0) rfl rfl) rfl rfl hl.1 rfl (lv_room (Nat.le_of_ble_eq_true rfl)) d_D_isIn_20 ⟨Nat.le_of_ble_eq_true rfl, Nat.le_of_ble_eq_true rfl⟩)) (fun r_6 h_7 => ?_)
        subst h_7
        refine lv_iload_n hx hb d_D_isIn_23 rfl (lv_at hl 1 rfl) ?_
        refine lv_ishr hx hb d_D_isIn_24 ?_
        refine lv_iconst (v := 1) hx hb d_D_isIn_25 (by decide) ?_
        refine lv_iand hx hb d_D_isIn_26 ?_
        refine lv_iconst (v := 1) hx hb d_D_isIn_27 (by decide) ?_
        refine lv_icmp_ne (tgt := 35) hx hb d_D_isIn_28 (by decide) (fun c_8 => ?_) (fun c_8 => ?_)
        · refine lv_iconst (v := 0) hx hb d_D_isIn_35 (by decide) ?_
          exact W.zret (v := 0) hx hb hr (mr_narz mr_b0) (fun t ht _ => ⟨_, rfl, by unfold mv_D_isIn; rw [if_neg c_1, if_neg c_2, if_neg c_5, if_neg c_8], ht⟩) (fun _ h => nomatch h) d_D_isIn_36
        · refine lv_iconst (v := 1) hx hb d_D_isIn_31 (by decide) ?_
          refine lv_goto (tgt := 36) hx hb d_D_isIn_32 (by decide) ?_
          exact W.zret (v := 1) hx hb hr (mr_narz mr_b1) (fun t ht _ => ⟨_, rfl, by unfold mv_D_isIn; rw [if_neg c_1, if_neg c_2, if_neg c_5, if_pos c_8], ht⟩) (fun _ h => nomatch h) d_D_isIn_36
