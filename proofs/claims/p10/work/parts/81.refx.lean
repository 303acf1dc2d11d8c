
-- (mv_D_lastOf: part 80)
set_option maxHeartbeats 4000000 in
set_option maxRecDepth 100000 in
theorem mc_D_lastOfX (l : Launch) (s0 : State) (dC : Nat → ClassId) (dI : Nat → Nat → Nat) (cI cR cL cZ : ClassId) (r : Nat → Nat) (th rw nw pb lc : Int32) (fe fa fk : Nat → Int32) (i t : Nat) (a1 : Int32) (hi : i ≤ 80) (het : fe i = nI t) (ht : t ≤ 8) : Met l y_D_lastOf [Cond.code y_D_lastOf b_D_lastOf 6 (some .int)] ({ frames := 0, cells := 0, slots := 0, locals := 0 }) (mr_PW s0 (dC, dI) [(cI, .int), (cR, .object "MeasureRows$Row"), (cL, .long), (cZ, .boolean)] [.ref (r 0), .int (nI i), .int a1] [((r 0), .inr (3, mf_D r th rw nw pb lc)), ((r 11), .inl (cI, 81, .inl fe)), ((r 12), .inl (cI, 648, .inl fa)), ((r 13), .inl (cI, 648, .inl fk))]) (vp_Si (fun r => r = mv_D_lastOf fe fa fk i a1)) 0 0 (fun _ => False) := by
  refine Met.ofW (cc := b_D_lastOf) (maxL := 6) (ret := (some .int)) (by decide) rfl ?_
  intro p e s m args below meth c s₁ B hml hv
  obtain ⟨rfl, hB, hK, hP⟩ := hv
  have hBH := hB.here
  have hx := B.exec
  have hb := B.bytes
  have hr := B.returns
  have hlocks := B.notSynchronized
  have hts : ∀ w ∈ lw_tbl, w.before [.ref (r 0), .int (nI i), .int a1].toArray s = true := hB.hts _
  have hown : s.vm.findClass "MeasureRowsModel" = some m.cls := findClass_of_methodNamed B.named
  have hl := lv_entry ([.ref (r 0), .int (nI i), .int a1]) (n := 6) (Nat.le_of_ble_eq_true rfl)
  rw [lg_entry_eq]
  generalize (lg_sl ([.ref (r 0), .int (nI i), .int a1]) ++ List.replicate (6 - (lg_sl ([.ref (r 0), .int (nI i), .int a1])).length) Slot.unset).toArray = ls at hl ⊢
  have hl : lv_has ls 6 [(0, .ref (r 0)), (1, .int (nI i)), (2, .int a1)] := hl
  refine lv_iconst (v := 0) hx hb d_D_lastOf_0 (by decide) ?_
  refine lv_istore_n (lv' := [(3, .int 0), (0, .ref (r 0)), (1, .int (nI i)), (2, .int a1)]) hx hb d_D_lastOf_1 rfl hl (by decide) rfl (fun ls hl => ?_)
  refine lv_iconst (v := 1) hx hb d_D_lastOf_2 (by decide) ?_
  refine lv_istore (lv' := [(4, .int 1), (3, .int 0), (0, .ref (r 0)), (1, .int (nI i)), (2, .int a1)]) hx hb d_D_lastOf_3 hl (by decide) rfl (fun ls hl => ?_)
  refine mr_loop (N := t - 1) (I := fun j H locs ls => H = s.heap ∧ locs = [] ∧ ∃ b9 : Nat, b9 = mv_bs fk (8 * i) a1 j ∧ b9 ≤ j ∧ lv_has ls 6 [(4, .int (nI (j + 1))), (3, .int (nI b9)), (0, .ref (r 0)), (1, .int (nI i)), (2, .int a1)]) (fun j H locs ls hj hI ih => ?_) (fun H locs ls hI => ?_) 0 _ _ _ (Nat.zero_le _) ⟨rfl, rfl, 0, rfl, Nat.le_refl 0, (lv_sub hl [0, 1, 2, 3, 4] rfl)⟩
  · obtain ⟨rfl, rfl, b9, hbe, hb9, hl⟩ := hI
    refine lv_iload hx hb d_D_lastOf_5 (lv_at hl 0 rfl) ?_
    refine lv_aload_n hx hb d_D_lastOf_7 rfl (lv_at hl 2 rfl) ?_
    refine va_get (D := (dC, dI)) (ci := 3) (v := .ref (r 11)) (C := R_D) (T := T_D) (N := 19) hx hb hts ti_D hown hK hP 0 rfl rfl 11 (by decide) (hts (Cond.fieldLink "MeasureRowsModel" 37 "MeasureRowsModel" "ends" "[I") mw_260) (fun _ h9 => h9) rfl d_D_lastOf_8 ?_
    refine lv_iload_n hx hb d_D_lastOf_11 rfl (lv_at hl 3 rfl) ?_
    refine va_iald (D := (dC, dI)) hx hb hK hP 1 0 rfl rfl (i := nI i) (nI_in (by omega) (by decide)) d_D_lastOf_12 ?_
    refine mr_top ((mr_nc hi).trans het) ?_
    refine lv_icmp_ge (tgt := 85) hx hb d_D_lastOf_13 (by decide) (fun c_1 => absurd c_1 (nI_ge (by omega) (by omega))) (fun _ => ?_)
    refine lv_bipush (v := 8) hx hb d_D_lastOf_16 (by decide) ?_
    refine lv_iload_n hx hb d_D_lastOf_18 rfl (lv_at hl 3 rfl) ?_
    refine lv_imul hx hb d_D_lastOf_19 ?_
    refine mr_top (mr_mul8 i) ?_
    refine lv_iload hx hb d_D_lastOf_20 (lv_at hl 0 rfl) ?_
    refine lv_iadd hx hb d_D_lastOf_22 ?_
    refine mr_top (nI_add (8 * i) (j + 1)) ?_
    refine lv_istore (lv' := [(5, .int (nI (8 * i + (j + 1)))), (4, .int (nI (j + 1))), (3, .int (nI b9)), (0, .ref (r 0)), (1, .int (nI i)), (2, .int a1)]) hx hb d_D_lastOf_23 hl (by decide) rfl (fun ls hl => ?_)
    refine lv_aload_n hx hb d_D_lastOf_25 rfl (lv_at hl 3 rfl) ?_
    refine va_get (D := (dC, dI)) (ci := 3) (v := .ref (r 13)) (C := R_D) (T := T_D) (N := 19) hx hb hts ti_D hown hK hP 0 rfl rfl 13 (by decide) (hts (Cond.fieldLink "MeasureRowsModel" 43 "MeasureRowsModel" "lastKnown" "[I") mw_261) (fun _ h9 => h9) rfl d_D_lastOf_26 ?_
    refine lv_iload hx hb d_D_lastOf_29 (lv_at hl 0 rfl) ?_
    refine va_iald (D := (dC, dI)) hx hb hK hP 3 0 rfl rfl (i := nI (8 * i + (j + 1))) (nI_in (by omega) (by decide)) d_D_lastOf_31 ?_
    refine mr_top (show fk (nI (8 * i + (j + 1))).toNatClampNeg = fk (8 * i + (j + 1)) by rw [nI_clamp (by omega)]) ?_
    refine lv_iload_n hx hb d_D_lastOf_32 rfl (lv_at hl 5 rfl) ?_
    refine lv_icmp_gt (tgt := 77) hx hb d_D_lastOf_33 (by decide) (fun c_2 => ?_) (fun c_2 => ?_)
    · refine lv_iload_n hx hb d_D_lastOf_77 rfl (lv_at hl 2 rfl) ?_
      refine lv_istore_n (lv' := [(3, .int (nI b9)), (5, .int (nI (8 * i + (j + 1)))), (4, .int (nI (j + 1))), (0, .ref (r 0)), (1, .int (nI i)), (2, .int a1)]) hx hb d_D_lastOf_78 rfl hl (by decide) rfl (fun ls hl => ?_)
      refine lv_iinc (v := nI ((j + 1) + 1)) (lv' := [(4, .int (nI ((j + 1) + 1))), (3, .int (nI b9)), (5, .int (nI (8 * i + (j + 1)))), (0, .ref (r 0)), (1, .int (nI i)), (2, .int a1)]) hx hb d_D_lastOf_79 hl (k := 2) rfl ((nI_succ (j + 1)).symm) (by decide) rfl (fun ls hl => ?_)
      refine lv_goto (tgt := 5) hx hb d_D_lastOf_82 (by decide) ?_
      exact ih _ _ _ ⟨rfl, rfl, b9, mv_bs_n1 hbe c_2, by omega, lv_sub hl [0, 1, 3, 4, 5] rfl⟩
    · refine lv_aload_n hx hb d_D_lastOf_36 rfl (lv_at hl 3 rfl) ?_
      refine va_get (D := (dC, dI)) (ci := 3) (v := .ref (r 13)) (C := R_D) (T := T_D) (N := 19) hx hb hts ti_D hown hK hP 0 rfl rfl 13 (by decide) (hts (Cond.fieldLink "MeasureRowsModel" 43 "MeasureRowsModel" "lastKnown" "[I") mw_261) (fun _ h9 => h9) rfl d_D_lastOf_37 ?_
      refine lv_bipush (v := 8) hx hb d_D_lastOf_40 (by decide) ?_
      refine lv_iload_n hx hb d_D_lastOf_42 rfl (lv_at hl 4 rfl) ?_
      refine lv_imul hx hb d_D_lastOf_43 ?_
      refine mr_top (mr_mul8 i) ?_
      refine lv_iload_n hx hb d_D_lastOf_44 rfl (lv_at hl 2 rfl) ?_
      refine lv_iadd hx hb d_D_lastOf_45 ?_
      refine mr_top (nI_add (8 * i) b9) ?_
      refine va_iald (D := (dC, dI)) hx hb hK hP 3 0 rfl rfl (i := nI (8 * i + b9)) (nI_in (by omega) (by decide)) d_D_lastOf_46 ?_
      refine mr_top (show fk (nI (8 * i + b9)).toNatClampNeg = fk (8 * i + b9) by rw [nI_clamp (by omega)]) ?_
      refine lv_iload_n hx hb d_D_lastOf_47 rfl (lv_at hl 5 rfl) ?_
      refine lv_icmp_gt (tgt := 72) hx hb d_D_lastOf_48 (by decide) (fun c_3 => ?_) (fun c_3 => ?_)
      · refine lv_iload hx hb d_D_lastOf_72 (lv_at hl 1 rfl) ?_
        refine lv_goto (tgt := 78) hx hb d_D_lastOf_74 (by decide) ?_
        refine lv_istore_n (lv' := [(3, .int (nI (j + 1))), (5, .int (nI (8 * i + (j + 1)))), (4, .int (nI (j + 1))), (0, .ref (r 0)), (1, .int (nI i)), (2, .int a1)]) hx hb d_D_lastOf_78 rfl hl (by decide) rfl (fun ls hl => ?_)
        refine lv_iinc (v := nI ((j + 1) + 1)) (lv' := [(4, .int (nI ((j + 1) + 1))), (3, .int (nI (j + 1))), (5, .int (nI (8 * i + (j + 1)))), (0, .ref (r 0)), (1, .int (nI i)), (2, .int a1)]) hx hb d_D_lastOf_79 hl (k := 2) rfl ((nI_succ (j + 1)).symm) (by decide) rfl (fun ls hl => ?_)
        refine lv_goto (tgt := 5) hx hb d_D_lastOf_82 (by decide) ?_
        exact ih _ _ _ ⟨rfl, rfl, (j + 1), mv_bs_y1 hbe c_2 c_3, by omega, lv_sub hl [0, 1, 3, 4, 5] rfl⟩
      · refine lv_aload_n hx hb d_D_lastOf_51 rfl (lv_at hl 3 rfl) ?_
        refine va_get (D := (dC, dI)) (ci := 3) (v := .ref (r 13)) (C := R_D) (T := T_D) (N := 19) hx hb hts ti_D hown hK hP 0 rfl rfl 13 (by decide) (hts (Cond.fieldLink "MeasureRowsModel" 43 "MeasureRowsModel" "lastKnown" "[I") mw_261) (fun _ h9 => h9) rfl d_D_lastOf_52 ?_
        refine lv_iload hx hb d_D_lastOf_55 (lv_at hl 0 rfl) ?_
        refine va_iald (D := (dC, dI)) hx hb hK hP 3 0 rfl rfl (i := nI (8 * i + (j + 1))) (nI_in (by omega) (by decide)) d_D_lastOf_57 ?_
        refine mr_top (show fk (nI (8 * i + (j + 1))).toNatClampNeg = fk (8 * i + (j + 1)) by rw [nI_clamp (by omega)]) ?_
        refine lv_aload_n hx hb d_D_lastOf_58 rfl (lv_at hl 3 rfl) ?_
        refine va_get (D := (dC, dI)) (ci := 3) (v := .ref (r 13)) (C := R_D) (T := T_D) (N := 19) hx hb hts ti_D hown hK hP 0 rfl rfl 13 (by decide) (hts (Cond.fieldLink "MeasureRowsModel" 43 "MeasureRowsModel" "lastKnown" "[I") mw_261) (fun _ h9 => h9) rfl d_D_lastOf_59 ?_
        refine lv_bipush (v := 8) hx hb d_D_lastOf_62 (by decide) ?_
        refine lv_iload_n hx hb d_D_lastOf_64 rfl (lv_at hl 4 rfl) ?_
        refine lv_imul hx hb d_D_lastOf_65 ?_
        refine mr_top (mr_mul8 i) ?_
        refine lv_iload_n hx hb d_D_lastOf_66 rfl (lv_at hl 2 rfl) ?_
        refine lv_iadd hx hb d_D_lastOf_67 ?_
        refine mr_top (nI_add (8 * i) b9) ?_
        refine va_iald (D := (dC, dI)) hx hb hK hP 3 0 rfl rfl (i := nI (8 * i + b9)) (nI_in (by omega) (by decide)) d_D_lastOf_68 ?_
        refine mr_top (show fk (nI (8 * i + b9)).toNatClampNeg = fk (8 * i + b9) by rw [nI_clamp (by omega)]) ?_
        refine lv_icmp_lt (tgt := 77) hx hb d_D_lastOf_69 (by decide) (fun c_4 => ?_) (fun c_4 => ?_)
        · refine lv_iload_n hx hb d_D_lastOf_77 rfl (lv_at hl 2 rfl) ?_
          refine lv_istore_n (lv' := [(3, .int (nI b9)), (5, .int (nI (8 * i + (j + 1)))), (4, .int (nI (j + 1))), (0, .ref (r 0)), (1, .int (nI i)), (2, .int a1)]) hx hb d_D_lastOf_78 rfl hl (by decide) rfl (fun ls hl => ?_)
          refine lv_iinc (v := nI ((j + 1) + 1)) (lv' := [(4, .int (nI ((j + 1) + 1))), (3, .int (nI b9)), (5, .int (nI (8 * i + (j + 1)))), (0, .ref (r 0)), (1, .int (nI i)), (2, .int a1)]) hx hb d_D_lastOf_79 hl (k := 2) rfl ((nI_succ (j + 1)).symm) (by decide) rfl (fun ls hl => ?_)
          refine lv_goto (tgt := 5) hx hb d_D_lastOf_82 (by decide) ?_
          exact ih _ _ _ ⟨rfl, rfl, b9, mv_bs_n2 hbe c_3 c_4, by omega, lv_sub hl [0, 1, 3, 4, 5] rfl⟩
        · refine lv_iload hx hb d_D_lastOf_72 (lv_at hl 1 rfl) ?_
          refine lv_goto (tgt := 78) hx hb d_D_lastOf_74 (by decide) ?_
          refine lv_istore_n (lv' := [(3, .int (nI (j + 1))), (5, .int (nI (8 * i + (j + 1)))), (4, .int (nI (j + 1))), (0, .ref (r 0)), (1, .int (nI i)), (2, .int a1)]) hx hb d_D_lastOf_78 rfl hl (by decide) rfl (fun ls hl => ?_)
          refine lv_iinc (v := nI ((j + 1) + 1)) (lv' := [(4, .int (nI ((j + 1) + 1))), (3, .int (nI (j + 1))), (5, .int (nI (8 * i + (j + 1)))), (0, .ref (r 0)), (1, .int (nI i)), (2, .int a1)]) hx hb d_D_lastOf_79 hl (k := 2) rfl ((nI_succ (j + 1)).symm) (by decide) rfl (fun ls hl => ?_)
          refine lv_goto (tgt := 5) hx hb d_D_lastOf_82 (by decide) ?_
          exact ih _ _ _ ⟨rfl, rfl, (j + 1), mv_bs_y2 hbe c_2 c_4, by omega, lv_sub hl [0, 1, 3, 4, 5] rfl⟩
  · obtain ⟨rfl, rfl, b9, hbe, hb9, hl⟩ := hI
    refine lv_iload hx hb d_D_lastOf_5 (lv_at hl 0 rfl) ?_
    refine lv_aload_n hx hb d_D_lastOf_7 rfl (lv_at hl 2 rfl) ?_
    refine va_get (D := (dC, dI)) (ci := 3) (v := .ref (r 11)) (C := R_D) (T := T_D) (N := 19) hx hb hts ti_D hown hK hP 0 rfl rfl 11 (by decide) (hts (Cond.fieldLink "MeasureRowsModel" 37 "MeasureRowsModel" "ends" "[I") mw_260) (fun _ h9 => h9) rfl d_D_lastOf_8 ?_
    refine lv_iload_n hx hb d_D_lastOf_11 rfl (lv_at hl 3 rfl) ?_
    refine va_iald (D := (dC, dI)) hx hb hK hP 1 0 rfl rfl (i := nI i) (nI_in (by omega) (by decide)) d_D_lastOf_12 ?_
    refine mr_top ((mr_nc hi).trans het) ?_
    refine lv_icmp_ge (tgt := 85) hx hb d_D_lastOf_13 (by decide) (fun _ => ?_) (fun c_5 => absurd (nI_le (by omega) (by omega)) c_5)
    refine lv_aload_n hx hb d_D_lastOf_85 rfl (lv_at hl 2 rfl) ?_
    refine va_get (D := (dC, dI)) (ci := 3) (v := .ref (r 12)) (C := R_D) (T := T_D) (N := 19) hx hb hts ti_D hown hK hP 0 rfl rfl 12 (by decide) (hts (Cond.fieldLink "MeasureRowsModel" 40 "MeasureRowsModel" "last" "[I") mw_262) (fun _ h9 => h9) rfl d_D_lastOf_86 ?_
    refine lv_bipush (v := 8) hx hb d_D_lastOf_89 (by decide) ?_
    refine lv_iload_n hx hb d_D_lastOf_91 rfl (lv_at hl 3 rfl) ?_
    refine lv_imul hx hb d_D_lastOf_92 ?_
    refine mr_top (mr_mul8 i) ?_
    refine lv_iload_n hx hb d_D_lastOf_93 rfl (lv_at hl 1 rfl) ?_
    refine lv_iadd hx hb d_D_lastOf_94 ?_
    refine mr_top (nI_add (8 * i) b9) ?_
    refine va_iald (D := (dC, dI)) hx hb hK hP 2 0 rfl rfl (i := nI (8 * i + b9)) (nI_in (by omega) (by decide)) d_D_lastOf_95 ?_
    refine mr_top (show fa (nI (8 * i + b9)).toNatClampNeg = fa (8 * i + b9) by rw [nI_clamp (by omega)]) ?_
    exact W.iret (v := fa (8 * i + b9)) hx hb hr (fun t ht _ => ⟨_, rfl, (by unfold mv_D_lastOf; rw [hbe, het, nI_clamp (by omega)]), ht⟩) (fun _ h => nomatch h) d_D_lastOf_96
def mv_D_lasts (ffi : Nat → Int32) (fe : Nat → Int32) (fa : Nat → Int32) (fk : Nat → Int32) (i : Nat) (a1 : Int32) (a2 : Int32) : Int32 := if a1 < (ffi i) then 0 else if (mv_D_lastOf fe fa fk i a2) < a1 then 0 else 1
theorem mv_D_lasts_b (ffi : Nat → Int32) (fe : Nat → Int32) (fa : Nat → Int32) (fk : Nat → Int32) (i : Nat) (a1 : Int32) (a2 : Int32) : mr_b01 (mv_D_lasts ffi fe fa fk i a1 a2) := (mr_bi mr_b0 (mr_bi mr_b0 mr_b1))
set_option maxHeartbeats 4000000 in
set_option maxRecDepth 100000 in
theorem mc_D_lastsX (l : Launch) (s0 : State) (dC : Nat → ClassId) (dI : Nat → Nat → Nat) (cI cR cL cZ : ClassId) (r : Nat → Nat) (th nw pb lc : Int32) (n : Nat) (fco ffi fe fa fk : Nat → Int32) (i : Nat) (a1 : Int32) (a2 : Int32) (hi1 : 1 ≤ i) (hin : i ≤ n) (hM : mr_MI n fe fco) : Met l y_D_lasts [Cond.code y_D_lasts b_D_lasts 4 (some .boolean)] ({ frames := 1, cells := 0, slots := 0, locals := 25 }) (mr_PW s0 (dC, dI) [(cI, .int), (cR, .object "MeasureRows$Row"), (cL, .long), (cZ, .boolean)] [.ref (r 0), .int (nI i), .int a1, .int a2] [((r 0), .inr (3, mf_D r th (nI n) nw pb lc)), ((r 3), .inl (cI, 81, .inl fco)), ((r 5), .inl (cI, 81, .inl ffi)), ((r 11), .inl (cI, 81, .inl fe)), ((r 12), .inl (cI, 648, .inl fa)), ((r 13), .inl (cI, 648, .inl fk))]) (vp_Si (fun r => r = mv_D_lasts ffi fe fa fk i a1 a2)) 0 0 (fun _ => False) := by
  refine Met.ofW (cc := b_D_lasts) (maxL := 4) (ret := (some .boolean)) (by decide) rfl ?_
  intro p e s m args below meth c s₁ B hml hv
  obtain ⟨rfl, hB, hK, hP⟩ := hv
  have hBH := hB.here
  have hx := B.exec
  have hb := B.bytes
  have hr := B.returns
  have hlocks := B.notSynchronized
  have hts : ∀ w ∈ lw_tbl, w.before [.ref (r 0), .int (nI i), .int a1, .int a2].toArray s = true := hB.hts _
  have hown : s.vm.findClass "MeasureRowsModel" = some m.cls := findClass_of_methodNamed B.named
  have hl := lv_entry ([.ref (r 0), .int (nI i), .int a1, .int a2]) (n := 4) (Nat.le_of_ble_eq_true rfl)
  rw [lg_entry_eq]
  generalize (lg_sl ([.ref (r 0), .int (nI i), .int a1, .int a2]) ++ List.replicate (4 - (lg_sl ([.ref (r 0), .int (nI i), .int a1, .int a2])).length) Slot.unset).toArray = ls at hl ⊢
  have hl : lv_has ls 4 [(0, .ref (r 0)), (1, .int (nI i)), (2, .int a1), (3, .int a2)] := hl
  refine lv_iload_n hx hb d_D_lasts_0 rfl (lv_at hl 2 rfl) ?_
  refine lv_aload_n hx hb d_D_lasts_1 rfl (lv_at hl 0 rfl) ?_
  refine va_get (D := (dC, dI)) (ci := 3) (v := .ref (r 5)) (C := R_D) (T := T_D) (N := 19) hx hb hts ti_D hown hK hP 0 rfl rfl 5 (by decide) (hts (Cond.fieldLink "MeasureRowsModel" 19 "MeasureRowsModel" "first" "[I") mw_263) (fun _ h9 => h9) rfl d_D_lasts_2 ?_
  refine lv_iload_n hx hb d_D_lasts_5 rfl (lv_at hl 1 rfl) ?_
  refine va_iald (D := (dC, dI)) hx hb hK hP 2 0 rfl rfl (i := nI i) (nI_in (by have := hM.1; omega) (by decide)) d_D_lasts_6 ?_
  refine mr_top (show ffi (nI i).toNatClampNeg = ffi i from mr_nc (by have := hM.1; omega)) ?_
  refine lv_icmp_lt (tgt := 24) hx hb d_D_lasts_7 (by decide) (fun c_1 => ?_) (fun c_1 => ?_)
  · refine lv_iconst (v := 0) hx hb d_D_lasts_24 (by decide) ?_
    exact W.zret (v := 0) hx hb hr (mr_narz mr_b0) (fun t ht _ => ⟨_, rfl, by unfold mv_D_lasts; rw [if_pos c_1], ht⟩) (fun _ h => nomatch h) d_D_lasts_25
  · refine lv_iload_n hx hb d_D_lasts_10 rfl (lv_at hl 2 rfl) ?_
    refine lv_aload_n hx hb d_D_lasts_11 rfl (lv_at hl 0 rfl) ?_
    refine lv_iload_n hx hb d_D_lasts_12 rfl (lv_at hl 1 rfl) ?_
    refine lv_iload_n hx hb d_D_lasts_13 rfl (lv_at hl 3 rfl) ?_
    obtain ⟨t_2, het_2, h1t_2, h8t_2⟩ := (hM.2 i (by omega) (by omega)).1
    refine vp_callSi (va_Run.run (va_runV (As := [.int (nI i), .int a2]) (rest := [.int a1]) (C := R_D) ⟨hx, hb, hml, hown, hts⟩ (mc_D_lastOfX l s0 dC dI cI cR cL cZ r th (nI n) nw pb lc fe fa fk i t_2 a2 (by have := hM.1; omega) het_2 h8t_2) ⟨(mr_cB 2 (hts (Cond.code y_D_lastOf b_D_lastOf 6 (some .int)) mw_264) (hts (Cond.initialized y_D_lastOf.cls) mw_265) (hts (Cond.methodLink "MeasureRowsModel" 87 y_D_lastOf) mw_266) rfl rfl (by decide +kernel) ⟨Nat.le_of_ble_eq_true rfl, Nat.le_of_ble_eq_true rfl⟩), (hts (Cond.instanceMethod y_D_lastOf) mw_267), (hts (Cond.selects "MeasureRowsModel" y_D_lastOf y_D_lastOf) mw_268)⟩ (mr_preV hBH hK (hP.sub (ws' := [((r 0), .inr (3, mf_D r th (nI n) nw pb lc)), ((r 11), .inl (cI, 81, .inl fe)), ((r 12), .inl (cI, 648, .inl fa)), ((r 13), .inl (cI, 648, .inl fk))]) [0, 3, 4, 5] rfl) (ci := 3) (q0 := 0) rfl rfl) rfl rfl hl.1 rfl (lv_room (Nat.le_of_ble_eq_true rfl)) d_D_lasts_14 ⟨Nat.le_of_ble_eq_true rfl, Nat.le_of_ble_eq_true rfl⟩)) (fun r_3 h_4 => ?_)
    subst h_4
    refine lv_icmp_gt (tgt := 24) hx hb d_D_lasts_17 (by decide) (fun c_5 => ?_) (fun c_5 => ?_)
    · refine lv_iconst (v := 0) hx hb d_D_lasts_24 (by decide) ?_
      exact W.zret (v := 0) hx hb hr (mr_narz mr_b0) (fun t ht _ => ⟨_, rfl, by unfold mv_D_lasts; rw [if_neg c_1, if_pos c_5], ht⟩) (fun _ h => nomatch h) d_D_lasts_25
    · refine lv_iconst (v := 1) hx hb d_D_lasts_20 (by decide) ?_
      refine lv_goto (tgt := 25) hx hb d_D_lasts_21 (by decide) ?_
      exact W.zret (v := 1) hx hb hr (mr_narz mr_b1) (fun t ht _ => ⟨_, rfl, by unfold mv_D_lasts; rw [if_neg c_1, if_neg c_5], ht⟩) (fun _ h => nomatch h) d_D_lasts_25
def mv_D_clashes (fco : Nat → Int32) (fla : Nat → Int32) (ffi : Nat → Int32) (fki : Nat → Int32) (fra : Nat → Int32) (fe : Nat → Int32) (fa : Nat → Int32) (fk : Nat → Int32) (nw : Int32) (i : Nat) (a1 : Int32) (a2 : Int32) (a3 : Int32) (a4 : Int32) (a5 : Int32) (a6 : Int32) : Int32 := if (fco i) = a1 then (if (fla i) = a2 then (if (fki i) = a5 then (if (fra i) = a6 then (if a4 < (ffi i) then 0 else if (mv_D_lastOf fe fa fk i nw) < a3 then 0 else 1) else 0) else 0) else 0) else 0
theorem mv_D_clashes_b (fco : Nat → Int32) (fla : Nat → Int32) (ffi : Nat → Int32) (fki : Nat → Int32) (fra : Nat → Int32) (fe : Nat → Int32) (fa : Nat → Int32) (fk : Nat → Int32) (nw : Int32) (i : Nat) (a1 : Int32) (a2 : Int32) (a3 : Int32) (a4 : Int32) (a5 : Int32) (a6 : Int32) : mr_b01 (mv_D_clashes fco fla ffi fki fra fe fa fk nw i a1 a2 a3 a4 a5 a6) := (mr_bi (mr_bi (mr_bi (mr_bi (mr_bi mr_b0 (mr_bi mr_b0 mr_b1)) mr_b0) mr_b0) mr_b0) mr_b0)
set_option maxHeartbeats 4000000 in
set_option maxRecDepth 100000 in
theorem mc_D_clashesX (l : Launch) (s0 : State) (dC : Nat → ClassId) (dI : Nat → Nat → Nat) (cI cR cL cZ : ClassId) (r : Nat → Nat) (th nw pb lc : Int32) (n : Nat) (fco fla ffi fki fra fe fa fk : Nat → Int32) (i : Nat) (a1 : Int32) (a2 : Int32) (a3 : Int32) (a4 : Int32) (a5 : Int32) (a6 : Int32) (hi1 : 1 ≤ i) (hin : i ≤ n) (hM : mr_MI n fe fco) : Met l y_D_clashes [Cond.code y_D_clashes b_D_clashes 8 (some .boolean)] ({ frames := 1, cells := 0, slots := 0, locals := 25 }) (mr_PW s0 (dC, dI) [(cI, .int), (cR, .object "MeasureRows$Row"), (cL, .long), (cZ, .boolean)] [.ref (r 0), .int (nI i), .int a1, .int a2, .int a3, .int a4, .int a5, .int a6] [((r 0), .inr (3, mf_D r th (nI n) nw pb lc)), ((r 3), .inl (cI, 81, .inl fco)), ((r 4), .inl (cI, 81, .inl fla)), ((r 5), .inl (cI, 81, .inl ffi)), ((r 6), .inl (cI, 81, .inl fki)), ((r 7), .inl (cI, 81, .inl fra)), ((r 11), .inl (cI, 81, .inl fe)), ((r 12), .inl (cI, 648, .inl fa)), ((r 13), .inl (cI, 648, .inl fk))]) (vp_Si (fun r => r = mv_D_clashes fco fla ffi fki fra fe fa fk nw i a1 a2 a3 a4 a5 a6)) 0 0 (fun _ => False) := by
  refine Met.ofW (cc := b_D_clashes) (maxL := 8) (ret := (some .boolean)) (by decide) rfl ?_
  intro p e s m args below meth c s₁ B hml hv
  obtain ⟨rfl, hB, hK, hP⟩ := hv
  have hBH := hB.here
  have hx := B.exec
  have hb := B.bytes
  have hr := B.returns
  have hlocks := B.notSynchronized
  have hts : ∀ w ∈ lw_tbl, w.before [.ref (r 0), .int (nI i), .int a1, .int a2, .int a3, .int a4, .int a5, .int a6].toArray s = true := hB.hts _
  have hown : s.vm.findClass "MeasureRowsModel" = some m.cls := findClass_of_methodNamed B.named
  have hl := lv_entry ([.ref (r 0), .int (nI i), .int a1, .int a2, .int a3, .int a4, .int a5, .int a6]) (n := 8) (Nat.le_of_ble_eq_true rfl)
  rw [lg_entry_eq]
  generalize (lg_sl ([.ref (r 0), .int (nI i), .int a1, .int a2, .int a3, .int a4, .int a5, .int a6]) ++ List.replicate (8 - (lg_sl ([.ref (r 0), .int (nI i), .int a1, .int a2, .int a3, .int a4, .int a5, .int a6])).length) Slot.unset).toArray = ls at hl ⊢
  have hl : lv_has ls 8 [(0, .ref (r 0)), (1, .int (nI i)), (2, .int a1), (3, .int a2), (4, .int a3), (5, .int a4), (6, .int a5), (7, .int a6)] := hl
  refine lv_aload_n hx hb d_D_clashes_0 rfl (lv_at hl 0 rfl) ?_
  refine va_get (D := (dC, dI)) (ci := 3) (v := .ref (r 3)) (C := R_D) (T := T_D) (N := 19) hx hb hts ti_D hown hK hP 0 rfl rfl 3 (by decide) (hts (Cond.fieldLink "MeasureRowsModel" 13 "MeasureRowsModel" "code" "[I") mw_269) (fun _ h9 => h9) rfl d_D_clashes_1 ?_
  refine lv_iload_n hx hb d_D_clashes_4 rfl (lv_at hl 1 rfl) ?_
  refine va_iald (D := (dC, dI)) hx hb hK hP 1 0 rfl rfl (i := nI i) (nI_in (by have := hM.1; omega) (by decide)) d_D_clashes_5 ?_
  refine mr_top (show fco (nI i).toNatClampNeg = fco i from mr_nc (by have := hM.1; omega)) ?_
  refine lv_iload_n hx hb d_D_clashes_6 rfl (lv_at hl 2 rfl) ?_
  refine lv_icmp_ne (tgt := 71) hx hb d_D_clashes_7 (by decide) (fun c_1 => ?_) (fun c_1 => ?_)
  · refine lv_iconst (v := 0) hx hb d_D_clashes_71 (by decide) ?_
    exact W.zret (v := 0) hx hb hr (mr_narz mr_b0) (fun t ht _ => ⟨_, rfl, by unfold mv_D_clashes; rw [if_neg c_1], ht⟩) (fun _ h => nomatch h) d_D_clashes_72
  · refine lv_aload_n hx hb d_D_clashes_10 rfl (lv_at hl 0 rfl) ?_
    refine va_get (D := (dC, dI)) (ci := 3) (v := .ref (r 4)) (C := R_D) (T := T_D) (N := 19) hx hb hts ti_D hown hK hP 0 rfl rfl 4 (by decide) (hts (Cond.fieldLink "MeasureRowsModel" 16 "MeasureRowsModel" "land" "[I") mw_270) (fun _ h9 => h9) rfl d_D_clashes_11 ?_
    refine lv_iload_n hx hb d_D_clashes_14 rfl (lv_at hl 1 rfl) ?_
    refine va_iald (D := (dC, dI)) hx hb hK hP 2 0 rfl rfl (i := nI i) (nI_in (by have := hM.1; omega) (by decide)) d_D_clashes_15 ?_
    refine mr_top (show fla (nI i).toNatClampNeg = fla i from mr_nc (by have := hM.1; omega)) ?_
    refine lv_iload_n hx hb d_D_clashes_16 rfl (lv_at hl 3 rfl) ?_
    refine lv_icmp_ne (tgt := 71) hx hb d_D_clashes_17 (by decide) (fun c_2 => ?_) (fun c_2 => ?_)
    · refine lv_iconst (v := 0) hx hb d_D_clashes_71 (by decide) ?_
      exact W.zret (v := 0) hx hb hr (mr_narz mr_b0) (fun t ht _ => ⟨_, rfl, by unfold mv_D_clashes; rw [if_pos c_1, if_neg c_2], ht⟩) (fun _ h => nomatch h) d_D_clashes_72
    · refine lv_aload_n hx hb d_D_clashes_20 rfl (lv_at hl 0 rfl) ?_
      refine va_get (D := (dC, dI)) (ci := 3) (v := .ref (r 6)) (C := R_D) (T := T_D) (N := 19) hx hb hts ti_D hown hK hP 0 rfl rfl 6 (by decide) (hts (Cond.fieldLink "MeasureRowsModel" 22 "MeasureRowsModel" "kind" "[I") mw_271) (fun _ h9 => h9) rfl d_D_clashes_21 ?_
      refine lv_iload_n hx hb d_D_clashes_24 rfl (lv_at hl 1 rfl) ?_
      refine va_iald (D := (dC, dI)) hx hb hK hP 4 0 rfl rfl (i := nI i) (nI_in (by have := hM.1; omega) (by decide)) d_D_clashes_25 ?_
      refine mr_top (show fki (nI i).toNatClampNeg = fki i from mr_nc (by have := hM.1; omega)) ?_
      refine lv_iload hx hb d_D_clashes_26 (lv_at hl 6 rfl) ?_
      refine lv_icmp_ne (tgt := 71) hx hb d_D_clashes_28 (by decide) (fun c_3 => ?_) (fun c_3 => ?_)
      · refine lv_iconst (v := 0) hx hb d_D_clashes_71 (by decide) ?_
        exact W.zret (v := 0) hx hb hr (mr_narz mr_b0) (fun t ht _ => ⟨_, rfl, by unfold mv_D_clashes; rw [if_pos c_1, if_pos c_2, if_neg c_3], ht⟩) (fun _ h => nomatch h) d_D_clashes_72
      · refine lv_aload_n hx hb d_D_clashes_31 rfl (lv_at hl 0 rfl) ?_
        refine va_get (D := (dC, dI)) (ci := 3) (v := .ref (r 7)) (C := R_D) (T := T_D) (N := 19) hx hb hts ti_D hown hK hP 0 rfl rfl 7 (by decide) (hts (Cond.fieldLink "MeasureRowsModel" 25 "MeasureRowsModel" "rank" "[I") mw_272) (fun _ h9 => h9) rfl d_D_clashes_32 ?_
        refine lv_iload_n hx hb d_D_clashes_35 rfl (lv_at hl 1 rfl) ?_
        refine va_iald (D := (dC, dI)) hx hb hK hP 5 0 rfl rfl (i := nI i) (nI_in (by have := hM.1; omega) (by decide)) d_D_clashes_36 ?_
        refine mr_top (show fra (nI i).toNatClampNeg = fra i from mr_nc (by have := hM.1; omega)) ?_
        refine lv_iload hx hb d_D_clashes_37 (lv_at hl 7 rfl) ?_
        refine lv_icmp_ne (tgt := 71) hx hb d_D_clashes_39 (by decide) (fun c_4 => ?_) (fun c_4 => ?_)
        · refine lv_iconst (v := 0) hx hb d_D_clashes_71 (by decide) ?_
          exact W.zret (v := 0) hx hb hr (mr_narz mr_b0) (fun t ht _ => ⟨_, rfl, by unfold mv_D_clashes; rw [if_pos c_1, if_pos c_2, if_pos c_3, if_neg c_4], ht⟩) (fun _ h => nomatch h) d_D_clashes_72
        · refine lv_aload_n hx hb d_D_clashes_42 rfl (lv_at hl 0 rfl) ?_
          refine va_get (D := (dC, dI)) (ci := 3) (v := .ref (r 5)) (C := R_D) (T := T_D) (N := 19) hx hb hts ti_D hown hK hP 0 rfl rfl 5 (by decide) (hts (Cond.fieldLink "MeasureRowsModel" 19 "MeasureRowsModel" "first" "[I") mw_263) (fun _ h9 => h9) rfl d_D_clashes_43 ?_
          refine lv_iload_n hx hb d_D_clashes_46 rfl (lv_at hl 1 rfl) ?_
          refine va_iald (D := (dC, dI)) hx hb hK hP 3 0 rfl rfl (i := nI i) (nI_in (by have := hM.1; omega) (by decide)) d_D_clashes_47 ?_
          refine mr_top (show ffi (nI i).toNatClampNeg = ffi i from mr_nc (by have := hM.1; omega)) ?_
          refine lv_iload hx hb d_D_clashes_48 (lv_at hl 5 rfl) ?_
          refine lv_icmp_gt (tgt := 71) hx hb d_D_clashes_50 (by decide) (fun c_5 => ?_) (fun c_5 => ?_)
          · refine lv_iconst (v := 0) hx hb d_D_clashes_71 (by decide) ?_
            exact W.zret (v := 0) hx hb hr (mr_narz mr_b0) (fun t ht _ => ⟨_, rfl, by unfold mv_D_clashes; rw [if_pos c_1, if_pos c_2, if_pos c_3, if_pos c_4, if_pos c_5], ht⟩) (fun _ h => nomatch h) d_D_clashes_72
          · refine lv_iload hx hb d_D_clashes_53 (lv_at hl 4 rfl) ?_
            refine lv_aload_n hx hb d_D_clashes_55 rfl (lv_at hl 0 rfl) ?_
            refine lv_iload_n hx hb d_D_clashes_56 rfl (lv_at hl 1 rfl) ?_
            refine lv_aload_n hx hb d_D_clashes_57 rfl (lv_at hl 0 rfl) ?_
            refine va_get (D := (dC, dI)) (ci := 3) (v := .int nw) (C := R_D) (T := T_D) (N := 19) hx hb hts ti_D hown hK hP 0 rfl rfl 14 (by decide) (hts (Cond.fieldLink "MeasureRowsModel" 84 "MeasureRowsModel" "now" "I") mw_273) (fun _ h9 => h9) rfl d_D_clashes_58 ?_
            obtain ⟨t_6, het_6, h1t_6, h8t_6⟩ := (hM.2 i (by omega) (by omega)).1
            refine vp_callSi (va_Run.run (va_runV (As := [.int (nI i), .int nw]) (rest := [.int a3]) (C := R_D) ⟨hx, hb, hml, hown, hts⟩ (mc_D_lastOfX l s0 dC dI cI cR cL cZ r th (nI n) nw pb lc fe fa fk i t_6 nw (by have := hM.1; omega) het_6 h8t_6) ⟨(mr_cB 2 (hts (Cond.code y_D_lastOf b_D_lastOf 6 (some .int)) mw_264) (hts (Cond.initialized y_D_lastOf.cls) mw_265) (hts (Cond.methodLink "MeasureRowsModel" 87 y_D_lastOf) mw_266) rfl rfl (by decide +kernel) ⟨Nat.le_of_ble_eq_true rfl, Nat.le_of_ble_eq_true rfl⟩), (hts (Cond.instanceMethod y_D_lastOf) mw_267), (hts (Cond.selects "MeasureRowsModel" y_D_lastOf y_D_lastOf) mw_268)⟩ (mr_preV hBH hK (hP.sub (ws' := [((r 0), .inr (3, mf_D r th (nI n) nw pb lc)), ((r 11), .inl (cI, 81, .inl fe)), ((r 12), .inl (cI, 648, .inl fa)), ((r 13), .inl (cI, 648, .inl fk))]) [0, 6, 7, 8] rfl) (ci := 3) (q0 := 0) rfl rfl) rfl rfl hl.1 rfl (lv_room (Nat.le_of_ble_eq_true rfl)) d_D_clashes_61 ⟨Nat.le_of_ble_eq_true rfl, Nat.le_of_ble_eq_true rfl⟩)) (fun r_7 h_8 => ?_)
            subst h_8
            refine lv_icmp_gt (tgt := 71) hx hb d_D_clashes_64 (by decide) (fun c_9 => ?_) (fun c_9 => ?_)
            · refine lv_iconst (v := 0) hx hb d_D_clashes_71 (by decide) ?_
              exact W.zret (v := 0) hx hb hr (mr_narz mr_b0) (fun t ht _ => ⟨_, rfl, by unfold mv_D_clashes; rw [if_pos c_1, if_pos c_2, if_pos c_3, if_pos c_4, if_neg c_5, if_pos c_9], ht⟩) (fun _ h => nomatch h) d_D_clashes_72
            · refine lv_iconst (v := 1) hx hb d_D_clashes_67 (by decide) ?_
              refine lv_goto (tgt := 72) hx hb d_D_clashes_68 (by decide) ?_
              exact W.zret (v := 1) hx hb hr (mr_narz mr_b1) (fun t ht _ => ⟨_, rfl, by unfold mv_D_clashes; rw [if_pos c_1, if_pos c_2, if_pos c_3, if_pos c_4, if_neg c_5, if_neg c_9], ht⟩) (fun _ h => nomatch h) d_D_clashes_72
