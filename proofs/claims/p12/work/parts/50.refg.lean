/-- the reference's rows: n of them; their ends and codes -/
def mr_MI (n : Nat) (fe fco : Nat → Int32) : Prop := n ≤ 80 ∧ ∀ i, 1 ≤ i → i ≤ n → (∃ t, fe i = nI t ∧ 1 ≤ t ∧ t ≤ 8) ∧ ¬ fco i < 0
theorem mr_mul8 (i : Nat) : (8 : Int32) * nI i = nI (8 * i) := by
  show Int32.ofNat 8 * Int32.ofNat i = Int32.ofNat (8 * i)
  rw [Int32.ofNat_mul]
theorem mr_nc {f : Nat → Int32} {i : Nat} (h : i ≤ 80) : f (nI i).toNatClampNeg = f i := by rw [nI_clamp (by omega)]
theorem mw_260 : Cond.fieldLink "MeasureRowsModel" 37 "MeasureRowsModel" "ends" "[I" ∈ lw_tbl := by decide +kernel
theorem mw_261 : Cond.fieldLink "MeasureRowsModel" 43 "MeasureRowsModel" "lastKnown" "[I" ∈ lw_tbl := by decide +kernel
theorem mw_262 : Cond.fieldLink "MeasureRowsModel" 40 "MeasureRowsModel" "last" "[I" ∈ lw_tbl := by decide +kernel
set_option maxHeartbeats 4000000 in
set_option maxRecDepth 100000 in
theorem mc_D_lastOf (l : Launch) (s0 : State) (dC : Nat → ClassId) (dI : Nat → Nat → Nat) (cI cR cL cZ : ClassId) (r : Nat → Nat) (th rw nw pb lc : Int32) (fe fa fk : Nat → Int32) (i t : Nat) (a1 : Int32) (hi : i ≤ 80) (het : fe i = nI t) (ht : t ≤ 8) : Met l y_D_lastOf [Cond.code y_D_lastOf b_D_lastOf 6 (some .int)] ({ frames := 0, cells := 0, slots := 0, locals := 0 }) (mr_PW s0 (dC, dI) [(cI, .int), (cR, .object "MeasureRows$Row"), (cL, .long), (cZ, .boolean)] [.ref (r 0), .int (nI i), .int a1] [((r 0), .inr (3, mf_D r th rw nw pb lc)), ((r 11), .inl (cI, 81, .inl fe)), ((r 12), .inl (cI, 648, .inl fa)), ((r 13), .inl (cI, 648, .inl fk))]) (vp_Si (fun _ => True)) 0 0 (fun _ => False) := by
  refine Met.ofW (cc := b_D_lastOf) (maxL := 6) (ret := (some .int)) (by decide) rfl ?_
  intro p e s m args below meth c s₁ B hml hv
  obtain ⟨rfl, hB, hK, hP⟩ := hv
  have hBH := hB.here
  have hx := B.exec
  have hb := B.bytes
  have hr := B.returns
  have hlocks := B.notSynchronized
  have hts : ∀ w ∈ lw_tbl, w.before [.ref (r 0), .int (nI i), .int a1].toArray s = true := hB.hts _
  have hown : s.vm.findClass "MeasureRowsModel" = some m.cls := findClass_of_methodNamed B.named
  have hl := lv_entry ([.ref (r 0), .int (nI i), .int a1]) (n := 6) (Nat.le_of_ble_eq_true rfl)
  rw [lg_entry_eq]
  generalize (lg_sl ([.ref (r 0), .int (nI i), .int a1]) ++ List.replicate (6 - (lg_sl ([.ref (r 0), .int (nI i), .int a1])).length) Slot.unset).toArray = ls at hl ⊢
  have hl : lv_has ls 6 [(0, .ref (r 0)), (1, .int (nI i)), (2, .int a1)] := hl
  refine lv_iconst (v := 0) hx hb d_D_lastOf_0 (by decide) ?_
  refine lv_istore_n (lv' := [(3, .int 0), (0, .ref (r 0)), (1, .int (nI i)), (2, .int a1)]) hx hb d_D_lastOf_1 rfl hl (by decide) rfl (fun ls hl => ?_)
  refine lv_iconst (v := 1) hx hb d_D_lastOf_2 (by decide) ?_
  refine lv_istore (lv' := [(4, .int 1), (3, .int 0), (0, .ref (r 0)), (1, .int (nI i)), (2, .int a1)]) hx hb d_D_lastOf_3 hl (by decide) rfl (fun ls hl => ?_)
  refine mr_loop (N := t - 1) (I := fun j H locs ls => H = s.heap ∧ locs = [] ∧ ∃ b9 : Nat, b9 ≤ j ∧ lv_has ls 6 [(4, .int (nI (j + 1))), (3, .int (nI b9)), (0, .ref (r 0)), (1, .int (nI i)), (2, .int a1)]) (fun j H locs ls hj hI ih => ?_) (fun H locs ls hI => ?_) 0 _ _ _ (Nat.zero_le _) ⟨rfl, rfl, 0, Nat.le_refl 0, (lv_sub hl [0, 1, 2, 3, 4] rfl)⟩
  · obtain ⟨rfl, rfl, b9, hb9, hl⟩ := hI
    refine lv_iload hx hb d_D_lastOf_5 (lv_at hl 0 rfl) ?_
    refine lv_aload_n hx hb d_D_lastOf_7 rfl (lv_at hl 2 rfl) ?_
    refine va_get (D := (dC, dI)) (ci := 3) (v := .ref (r 11)) (C := R_D) (T := T_D) (N := 19) hx hb hts ti_D hown hK hP 0 rfl rfl 11 (by decide) (hts (Cond.fieldLink "MeasureRowsModel" 37 "MeasureRowsModel" "ends" "[I") mw_260) (fun _ h9 => h9) rfl d_D_lastOf_8 ?_
    refine lv_iload_n hx hb d_D_lastOf_11 rfl (lv_at hl 3 rfl) ?_
    refine va_iald (D := (dC, dI)) hx hb hK hP 1 0 rfl rfl (i := nI i) (nI_in (by omega) (by decide)) d_D_lastOf_12 ?_
    refine mr_top ((mr_nc hi).trans het) ?_
    refine lv_icmp_ge (tgt := 85) hx hb d_D_lastOf_13 (by decide) (fun c_1 => absurd c_1 (nI_ge (by omega) (by omega))) (fun _ => ?_)
    refine lv_bipush (v := 8) hx hb d_D_lastOf_16 (by decide) ?_
    refine lv_iload_n hx hb d_D_lastOf_18 rfl (lv_at hl 3 rfl) ?_
    refine lv_imul hx hb d_D_lastOf_19 ?_
    refine mr_top (mr_mul8 i) ?_
    refine lv_iload hx hb d_D_lastOf_20 (lv_at hl 0 rfl) ?_
    refine lv_iadd hx hb d_D_lastOf_22 ?_
    refine mr_top (nI_add (8 * i) (j + 1)) ?_
    refine lv_istore (lv' := [(5, .int (nI (8 * i + (j + 1)))), (4, .int (nI (j + 1))), (3, .int (nI b9)), (0, .ref (r 0)), (1, .int (nI i)), (2, .int a1)]) hx hb d_D_lastOf_23 hl (by decide) rfl (fun ls hl => ?_)
    refine lv_aload_n hx hb d_D_lastOf_25 rfl (lv_at hl 3 rfl) ?_
    refine va_get (D := (dC, dI)) (ci := 3) (v := .ref (r 13)) (C := R_D) (T := T_D) (N := 19) hx hb hts ti_D hown hK hP 0 rfl rfl 13 (by decide) (hts (Cond.fieldLink "MeasureRowsModel" 43 "MeasureRowsModel" "lastKnown" "[I") mw_261) (fun _ h9 => h9) rfl d_D_lastOf_26 ?_
    refine lv_iload hx hb d_D_lastOf_29 (lv_at hl 0 rfl) ?_
    refine va_iald (D := (dC, dI)) hx hb hK hP 3 0 rfl rfl (i := nI (8 * i + (j + 1))) (nI_in (by omega) (by decide)) d_D_lastOf_31 ?_
    refine lv_iload_n hx hb d_D_lastOf_32 rfl (lv_at hl 5 rfl) ?_
    refine lv_icmp_gt (tgt := 77) hx hb d_D_lastOf_33 (by decide) (fun c_2 => ?_) (fun c_2 => ?_)
    · refine lv_iload_n hx hb d_D_lastOf_77 rfl (lv_at hl 2 rfl) ?_
      refine lv_istore_n (lv' := [(3, .int (nI b9)), (5, .int (nI (8 * i + (j + 1)))), (4, .int (nI (j + 1))), (0, .ref (r 0)), (1, .int (nI i)), (2, .int a1)]) hx hb d_D_lastOf_78 rfl hl (by decide) rfl (fun ls hl => ?_)
      refine lv_iinc (v := nI ((j + 1) + 1)) (lv' := [(4, .int (nI ((j + 1) + 1))), (3, .int (nI b9)), (5, .int (nI (8 * i + (j + 1)))), (0, .ref (r 0)), (1, .int (nI i)), (2, .int a1)]) hx hb d_D_lastOf_79 hl (k := 2) rfl ((nI_succ (j + 1)).symm) (by decide) rfl (fun ls hl => ?_)
      refine lv_goto (tgt := 5) hx hb d_D_lastOf_82 (by decide) ?_
      exact ih _ _ _ ⟨rfl, rfl, b9, by omega, lv_sub hl [0, 1, 3, 4, 5] rfl⟩
    · refine lv_aload_n hx hb d_D_lastOf_36 rfl (lv_at hl 3 rfl) ?_
      refine va_get (D := (dC, dI)) (ci := 3) (v := .ref (r 13)) (C := R_D) (T := T_D) (N := 19) hx hb hts ti_D hown hK hP 0 rfl rfl 13 (by decide) (hts (Cond.fieldLink "MeasureRowsModel" 43 "MeasureRowsModel" "lastKnown" "[I") mw_261) (fun _ h9 => h9) rfl d_D_lastOf_37 ?_
      refine lv_bipush (v := 8) hx hb d_D_lastOf_40 (by decide) ?_
      refine lv_iload_n hx hb d_D_lastOf_42 rfl (lv_at hl 4 rfl) ?_
      refine lv_imul hx hb d_D_lastOf_43 ?_
      refine mr_top (mr_mul8 i) ?_
      refine lv_iload_n hx hb d_D_lastOf_44 rfl (lv_at hl 2 rfl) ?_
      refine lv_iadd hx hb d_D_lastOf_45 ?_
      refine mr_top (nI_add (8 * i) b9) ?_
      refine va_iald (D := (dC, dI)) hx hb hK hP 3 0 rfl rfl (i := nI (8 * i + b9)) (nI_in (by omega) (by decide)) d_D_lastOf_46 ?_
      refine lv_iload_n hx hb d_D_lastOf_47 rfl (lv_at hl 5 rfl) ?_
      refine lv_icmp_gt (tgt := 72) hx hb d_D_lastOf_48 (by decide) (fun c_3 => ?_) (fun c_3 => ?_)
      · refine lv_iload hx hb d_D_lastOf_72 (lv_at hl 1 rfl) ?_
        refine lv_goto (tgt := 78) hx hb d_D_lastOf_74 (by decide) ?_
        refine lv_istore_n (lv' := [(3, .int (nI (j + 1))), (5, .int (nI (8 * i + (j + 1)))), (4, .int (nI (j + 1))), (0, .ref (r 0)), (1, .int (nI i)), (2, .int a1)]) hx hb d_D_lastOf_78 rfl hl (by decide) rfl (fun ls hl => ?_)
        refine lv_iinc (v := nI ((j + 1) + 1)) (lv' := [(4, .int (nI ((j + 1) + 1))), (3, .int (nI (j + 1))), (5, .int (nI (8 * i + (j + 1)))), (0, .ref (r 0)), (1, .int (nI i)), (2, .int a1)]) hx hb d_D_lastOf_79 hl (k := 2) rfl ((nI_succ (j + 1)).symm) (by decide) rfl (fun ls hl => ?_)
        refine lv_goto (tgt := 5) hx hb d_D_lastOf_82 (by decide) ?_
        exact ih _ _ _ ⟨rfl, rfl, (j + 1), by omega, lv_sub hl [0, 1, 3, 4, 5] rfl⟩
      · refine lv_aload_n hx hb d_D_lastOf_51 rfl (lv_at hl 3 rfl) ?_
        refine va_get (D := (dC, dI)) (ci := 3) (v := .ref (r 13)) (C := R_D) (T := T_D) (N := 19) hx hb hts ti_D hown hK hP 0 rfl rfl 13 (by decide) (hts (Cond.fieldLink "MeasureRowsModel" 43 "MeasureRowsModel" "lastKnown" "[I") mw_261) (fun _ h9 => h9) rfl d_D_lastOf_52 ?_
        refine lv_iload hx hb d_D_lastOf_55 (lv_at hl 0 rfl) ?_
        refine va_iald (D := (dC, dI)) hx hb hK hP 3 0 rfl rfl (i := nI (8 * i + (j + 1))) (nI_in (by omega) (by decide)) d_D_lastOf_57 ?_
        refine lv_aload_n hx hb d_D_lastOf_58 rfl (lv_at hl 3 rfl) ?_
        refine va_get (D := (dC, dI)) (ci := 3) (v := .ref (r 13)) (C := R_D) (T := T_D) (N := 19) hx hb hts ti_D hown hK hP 0 rfl rfl 13 (by decide) (hts (Cond.fieldLink "MeasureRowsModel" 43 "MeasureRowsModel" "lastKnown" "[I") mw_261) (fun _ h9 => h9) rfl d_D_lastOf_59 ?_
        refine lv_bipush (v := 8) hx hb d_D_lastOf_62 (by decide) ?_
        refine lv_iload_n hx hb d_D_lastOf_64 rfl (lv_at hl 4 rfl) ?_
        refine lv_imul hx hb d_D_lastOf_65 ?_
        refine mr_top (mr_mul8 i) ?_
        refine lv_iload_n hx hb d_D_lastOf_66 rfl (lv_at hl 2 rfl) ?_
        refine lv_iadd hx hb d_D_lastOf_67 ?_
        refine mr_top (nI_add (8 * i) b9) ?_
        refine va_iald (D := (dC, dI)) hx hb hK hP 3 0 rfl rfl (i := nI (8 * i + b9)) (nI_in (by omega) (by decide)) d_D_lastOf_68 ?_
        refine lv_icmp_lt (tgt := 77) hx hb d_D_lastOf_69 (by decide) (fun c_4 => ?_) (fun c_4 => ?_)
        · refine lv_iload_n hx hb d_D_lastOf_77 rfl (lv_at hl 2 rfl) ?_
          refine lv_istore_n (lv' := [(3, .int (nI b9)), (5, .int (nI (8 * i + (j + 1)))), (4, .int (nI (j + 1))), (0, .ref (r 0)), (1, .int (nI i)), (2, .int a1)]) hx hb d_D_lastOf_78 rfl hl (by decide) rfl (fun ls hl => ?_)
          refine lv_iinc (v := nI ((j + 1) + 1)) (lv' := [(4, .int (nI ((j + 1) + 1))), (3, .int (nI b9)), (5, .int (nI (8 * i + (j + 1)))), (0, .ref (r 0)), (1, .int (nI i)), (2, .int a1)]) hx hb d_D_lastOf_79 hl (k := 2) rfl ((nI_succ (j + 1)).symm) (by decide) rfl (fun ls hl => ?_)
          refine lv_goto (tgt := 5) hx hb d_D_lastOf_82 (by decide) ?_
          exact ih _ _ _ ⟨rfl, rfl, b9, by omega, lv_sub hl [0, 1, 3, 4, 5] rfl⟩
        · refine lv_iload hx hb d_D_lastOf_72 (lv_at hl 1 rfl) ?_
          refine lv_goto (tgt := 78) hx hb d_D_lastOf_74 (by decide) ?_
          refine lv_istore_n (lv' := [(3, .int (nI (j + 1))), (5, .int (nI (8 * i + (j + 1)))), (4, .int (nI (j + 1))), (0, .ref (r 0)), (1, .int (nI i)), (2, .int a1)]) hx hb d_D_lastOf_78 rfl hl (by decide) rfl (fun ls hl => ?_)
          refine lv_iinc (v := nI ((j + 1) + 1)) (lv' := [(4, .int (nI ((j + 1) + 1))), (3, .int (nI (j + 1))), (5, .int (nI (8 * i + (j + 1)))), (0, .ref (r 0)), (1, .int (nI i)), (2, .int a1)]) hx hb d_D_lastOf_79 hl (k := 2) rfl ((nI_succ (j + 1)).symm) (by decide) rfl (fun ls hl => ?_)
          refine lv_goto (tgt := 5) hx hb d_D_lastOf_82 (by decide) ?_
          exact ih _ _ _ ⟨rfl, rfl, (j + 1), by omega, lv_sub hl [0, 1, 3, 4, 5] rfl⟩
  · obtain ⟨rfl, rfl, b9, hb9, hl⟩ := hI
    refine lv_iload hx hb d_D_lastOf_5 (lv_at hl 0 rfl) ?_
    refine lv_aload_n hx hb d_D_lastOf_7 rfl (lv_at hl 2 rfl) ?_
    refine va_get (D := (dC, dI)) (ci := 3) (v := .ref (r 11)) (C := R_D) (T := T_D) (N := 19) hx hb hts ti_D hown hK hP 0 rfl rfl 11 (by decide) (hts (Cond.fieldLink "MeasureRowsModel" 37 "MeasureRowsModel" "ends" "[I") mw_260) (fun _ h9 => h9) rfl d_D_lastOf_8 ?_
    refine lv_iload_n hx hb d_D_lastOf_11 rfl (lv_at hl 3 rfl) ?_
    refine va_iald (D := (dC, dI)) hx hb hK hP 1 0 rfl rfl (i := nI i) (nI_in (by omega) (by decide)) d_D_lastOf_12 ?_
    refine mr_top ((mr_nc hi).trans het) ?_
    refine lv_icmp_ge (tgt := 85) hx hb d_D_lastOf_13 (by decide) (fun _ => ?_) (fun c_5 => absurd (nI_le (by omega) (by omega)) c_5)
    refine lv_aload_n hx hb d_D_lastOf_85 rfl (lv_at hl 2 rfl) ?_
    refine va_get (D := (dC, dI)) (ci := 3) (v := .ref (r 12)) (C := R_D) (T := T_D) (N := 19) hx hb hts ti_D hown hK hP 0 rfl rfl 12 (by decide) (hts (Cond.fieldLink "MeasureRowsModel" 40 "MeasureRowsModel" "last" "[I") mw_262) (fun _ h9 => h9) rfl d_D_lastOf_86 ?_
    refine lv_bipush (v := 8) hx hb d_D_lastOf_89 (by decide) ?_
    refine lv_iload_n hx hb d_D_lastOf_91 rfl (lv_at hl 3 rfl) ?_
    refine lv_imul hx hb d_D_lastOf_92 ?_
    refine mr_top (mr_mul8 i) ?_
    refine lv_iload_n hx hb d_D_lastOf_93 rfl (lv_at hl 1 rfl) ?_
    refine lv_iadd hx hb d_D_lastOf_94 ?_
    refine mr_top (nI_add (8 * i) b9) ?_
    refine va_iald (D := (dC, dI)) hx hb hK hP 2 0 rfl rfl (i := nI (8 * i + b9)) (nI_in (by omega) (by decide)) d_D_lastOf_95 ?_
    exact W.iret (v := fa (nI (8 * i + b9)).toNatClampNeg) hx hb hr (fun t ht _ => ⟨_, rfl, trivial, ht⟩) (fun _ h => nomatch h) d_D_lastOf_96
