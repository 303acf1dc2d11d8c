theorem mr_iu0 (a : Int32) : a.toInt + ((0 : Nat) : Int) ≤ (a.toNatClampNeg : Int) := by
  show a.toInt + 0 ≤ ((a.toInt.toNat : Nat) : Int)
  omega
theorem mr_iu {v a : Int32} {j : Nat} {N : Int} (h0 : ¬ a < 0) (h : ¬ v ≤ a) (hv : v.toInt + (j : Int) ≤ N) : (v / 100).toInt + ((j + 1 : Nat) : Int) ≤ N := by
  rw [Int32.lt_iff_toInt_lt] at h0
  rw [Int32.le_iff_toInt_le] at h
  have z0 : (0 : Int32).toInt = 0 := by decide
  have z1 : (100 : Int32).toInt = 100 := by decide
  rw [lg_idiv_nonneg (by omega) (by omega), z1]
  omega
theorem mr_iue {v a : Int32} {N : Nat} (h0 : ¬ a < 0) (hv : v.toInt + (N : Int) ≤ (N : Int)) : v ≤ a := by
  rw [Int32.lt_iff_toInt_lt] at h0
  rw [Int32.le_iff_toInt_le]
  have z0 : (0 : Int32).toInt = 0 := by decide
  omega
theorem mw_263 : Cond.fieldLink "MeasureRowsModel" 19 "MeasureRowsModel" "first" "[I" ∈ lw_tbl := by decide +kernel
theorem mw_264 : Cond.code y_D_lastOf b_D_lastOf 6 (some .int) ∈ lw_tbl := by decide +kernel
theorem mw_265 : Cond.initialized y_D_lastOf.cls ∈ lw_tbl := by decide +kernel
theorem mw_266 : Cond.methodLink "MeasureRowsModel" 87 y_D_lastOf ∈ lw_tbl := by decide +kernel
theorem mw_267 : Cond.instanceMethod y_D_lastOf ∈ lw_tbl := by decide +kernel
theorem mw_268 : Cond.selects "MeasureRowsModel" y_D_lastOf y_D_lastOf ∈ lw_tbl := by decide +kernel
theorem mw_269 : Cond.fieldLink "MeasureRowsModel" 13 "MeasureRowsModel" "code" "[I" ∈ lw_tbl := by decide +kernel
theorem mw_270 : Cond.fieldLink "MeasureRowsModel" 16 "MeasureRowsModel" "land" "[I" ∈ lw_tbl := by decide +kernel
theorem mw_271 : Cond.fieldLink "MeasureRowsModel" 22 "MeasureRowsModel" "kind" "[I" ∈ lw_tbl := by decide +kernel
theorem mw_272 : Cond.fieldLink "MeasureRowsModel" 25 "MeasureRowsModel" "rank" "[I" ∈ lw_tbl := by decide +kernel
theorem mw_273 : Cond.fieldLink "MeasureRowsModel" 84 "MeasureRowsModel" "now" "I" ∈ lw_tbl := by decide +kernel
set_option maxHeartbeats 4000000 in
set_option maxRecDepth 100000 in
theorem mc_D_lasts (l : Launch) (s0 : State) (dC : Nat → ClassId) (dI : Nat → Nat → Nat) (cI cR cL cZ : ClassId) (r : Nat → Nat) (th nw pb lc : Int32) (n : Nat) (fco ffi fe fa fk : Nat → Int32) (i : Nat) (a1 : Int32) (a2 : Int32) (hi1 : 1 ≤ i) (hin : i ≤ n) (hM : mr_MI n fe fco) : Met l y_D_lasts [Cond.code y_D_lasts b_D_lasts 4 (some .boolean)] ({ frames := 1, cells := 0, slots := 0, locals := 25 }) (mr_PW s0 (dC, dI) [(cI, .int), (cR, .object "MeasureRows$Row"), (cL, .long), (cZ, .boolean)] [.ref (r 0), .int (nI i), .int a1, .int a2] [((r 0), .inr (3, mf_D r th (nI n) nw pb lc)), ((r 3), .inl (cI, 81, .inl fco)), ((r 5), .inl (cI, 81, .inl ffi)), ((r 11), .inl (cI, 81, .inl fe)), ((r 12), .inl (cI, 648, .inl fa)), ((r 13), .inl (cI, 648, .inl fk))]) (vp_Si (fun r => mr_b01 r)) 0 0 (fun _ => False) := by
  refine Met.ofW (cc := b_D_lasts) (maxL := 4) (ret := (some .boolean)) (by decide) rfl ?_
  intro p e s m args below meth c s₁ B hml hv
  obtain ⟨rfl, hB, hK, hP⟩ := hv
  have hBH := hB.here
  have hx := B.exec
  have hb := B.bytes
  have hr := B.returns
  have hlocks := B.notSynchronized
  have hts : ∀ w ∈ lw_tbl, w.before [.ref (r 0), .int (nI i), .int a1, .int a2].toArray s = true := hB.hts _
  have hown : s.vm.findClass "MeasureRowsModel" = some m.cls := findClass_of_methodNamed B.named
  have hl := lv_entry ([.ref (r 0), .int (nI i), .int a1, .int a2]) (n := 4) (Nat.le_of_ble_eq_true rfl)
  rw [lg_entry_eq]
  generalize (lg_sl ([.ref (r 0), .int (nI i), .int a1, .int a2]) ++ List.replicate (4 - (lg_sl ([.ref (r 0), .int (nI i), .int a1, .int a2])).length) Slot.unset).toArray = ls at hl ⊢
  have hl : lv_has ls 4 [(0, .ref (r 0)), (1, .int (nI i)), (2, .int a1), (3, .int a2)] := hl
  refine lv_iload_n hx hb d_D_lasts_0 rfl (lv_at hl 2 rfl) ?_
  refine lv_aload_n hx hb d_D_lasts_1 rfl (lv_at hl 0 rfl) ?_
  refine va_get (D := (dC, dI)) (ci := 3) (v := .ref (r 5)) (C := R_D) (T := T_D) (N := 19) hx hb hts ti_D hown hK hP 0 rfl rfl 5 (by decide) (hts (Cond.fieldLink "MeasureRowsModel" 19 "MeasureRowsModel" "first" "[I") mw_263) (fun _ h9 => h9) rfl d_D_lasts_2 ?_
  refine lv_iload_n hx hb d_D_lasts_5 rfl (lv_at hl 1 rfl) ?_
  refine va_iald (D := (dC, dI)) hx hb hK hP 2 0 rfl rfl (i := nI i) (nI_in (by have := hM.1; omega) (by decide)) d_D_lasts_6 ?_
  refine mr_top (show ffi (nI i).toNatClampNeg = ffi i from mr_nc (by have := hM.1; omega)) ?_
  refine lv_icmp_lt (tgt := 24) hx hb d_D_lasts_7 (by decide) (fun c_1 => ?_) (fun c_1 => ?_)
  · refine lv_iconst (v := 0) hx hb d_D_lasts_24 (by decide) ?_
    exact W.zret (v := 0) hx hb hr (mr_narz mr_b0) (fun t ht _ => ⟨_, rfl, mr_b0, ht⟩) (fun _ h => nomatch h) d_D_lasts_25
  · refine lv_iload_n hx hb d_D_lasts_10 rfl (lv_at hl 2 rfl) ?_
    refine lv_aload_n hx hb d_D_lasts_11 rfl (lv_at hl 0 rfl) ?_
    refine lv_iload_n hx hb d_D_lasts_12 rfl (lv_at hl 1 rfl) ?_
    refine lv_iload_n hx hb d_D_lasts_13 rfl (lv_at hl 3 rfl) ?_
    obtain ⟨t_2, het_2, h1t_2, h8t_2⟩ := (hM.2 i (by omega) (by omega)).1
    refine vp_callSi (va_Run.run (va_runV (As := [.int (nI i), .int a2]) (rest := [.int a1]) (C := R_D) ⟨hx, hb, hml, hown, hts⟩ (mc_D_lastOf l s0 dC dI cI cR cL cZ r th (nI n) nw pb lc fe fa fk i t_2 a2 (by have := hM.1; omega) het_2 h8t_2) ⟨(mr_cB 2 (hts (Cond.code y_D_lastOf b_D_lastOf 6 (some .int)) mw_264) (hts (Cond.initialized y_D_lastOf.cls) mw_265) (hts (Cond.methodLink "MeasureRowsModel" 87 y_D_lastOf) mw_266) rfl rfl (by decide +kernel) ⟨Nat.le_of_ble_eq_true rfl, Nat.le_of_ble_eq_true rfl⟩), (hts (Cond.instanceMethod y_D_lastOf) mw_267), (hts (Cond.selects "MeasureRowsModel" y_D_lastOf y_D_lastOf) mw_268)⟩ (mr_preV hBH hK (hP.sub (ws' := [((r 0), .inr (3, mf_D r th (nI n) nw pb lc)), ((r 11), .inl (cI, 81, .inl fe)), ((r 12), .inl (cI, 648, .inl fa)), ((r 13), .inl (cI, 648, .inl fk))]) [0, 3, 4, 5] rfl) (ci := 3) (q0 := 0) rfl rfl) rfl rfl hl.1 rfl (lv_room (Nat.le_of_ble_eq_true rfl)) d_D_lasts_14 ⟨Nat.le_of_ble_eq_true rfl, Nat.le_of_ble_eq_true rfl⟩)) (fun r_3 h_4 => ?_)
    refine lv_icmp_gt (tgt := 24) hx hb d_D_lasts_17 (by decide) (fun c_5 => ?_) (fun c_5 => ?_)
    · refine lv_iconst (v := 0) hx hb d_D_lasts_24 (by decide) ?_
      exact W.zret (v := 0) hx hb hr (mr_narz mr_b0) (fun t ht _ => ⟨_, rfl, mr_b0, ht⟩) (fun _ h => nomatch h) d_D_lasts_25
    · refine lv_iconst (v := 1) hx hb d_D_lasts_20 (by decide) ?_
      refine lv_goto (tgt := 25) hx hb d_D_lasts_21 (by decide) ?_
      exact W.zret (v := 1) hx hb hr (mr_narz mr_b1) (fun t ht _ => ⟨_, rfl, mr_b1, ht⟩) (fun _ h => nomatch h) d_D_lasts_25
set_option maxHeartbeats 4000000 in
set_option maxRecDepth 100000 in
theorem mc_D_isUnder (l : Launch) (s0 : State) (a0 : Int32) (a1 : Int32) (h0 : ¬ a1 < 0) : Met l y_D_isUnder [Cond.code y_D_isUnder b_D_isUnder 3 (some .boolean)] ({ frames := 0, cells := 0, slots := 0, locals := 0 }) (va_Pc [.int a0, .int a1] (fun U => mr_B s0 U)) (vp_Si (fun r => mr_b01 r)) 0 0 (fun _ => False) := by
  refine Met.ofW (cc := b_D_isUnder) (maxL := 3) (ret := (some .boolean)) (by decide) rfl ?_
  intro p e s m args below meth c s₁ B hml hv
  obtain ⟨rfl, hB⟩ := hv
  have hBH := hB.here
  have hx := B.exec
  have hb := B.bytes
  have hr := B.returns
  have hlocks := B.notSynchronized
  have hts : ∀ w ∈ lw_tbl, w.before [.int a0, .int a1].toArray s = true := hB.hts _
  have hown : s.vm.findClass "MeasureRowsModel" = some m.cls := findClass_of_methodNamed B.named
  have hl := lv_entry ([.int a0, .int a1]) (n := 3) (Nat.le_of_ble_eq_true rfl)
  rw [lg_entry_eq]
  generalize (lg_sl ([.int a0, .int a1]) ++ List.replicate (3 - (lg_sl ([.int a0, .int a1])).length) Slot.unset).toArray = ls at hl ⊢
  have hl : lv_has ls 3 [(0, .int a0), (1, .int a1)] := hl
  refine lv_iload_n hx hb d_D_isUnder_0 rfl (lv_at hl 0 rfl) ?_
  refine lv_istore_n (lv' := [(2, .int a0), (0, .int a0), (1, .int a1)]) hx hb d_D_isUnder_1 rfl hl (by decide) rfl (fun ls hl => ?_)
  refine mr_loop (N := a0.toNatClampNeg) (I := fun j H locs ls => H = s.heap ∧ locs = [] ∧ ∃ v9 : Int32, v9.toInt + j ≤ (a0.toNatClampNeg : Int) ∧ lv_has ls 3 [(2, .int v9), (0, .int a0), (1, .int a1)]) (fun j H locs ls hj hI ih => ?_) (fun H locs ls hI => ?_) 0 _ _ _ (Nat.zero_le _) ⟨rfl, rfl, a0, mr_iu0 a0, (lv_sub hl [0, 1, 2] rfl)⟩
  · obtain ⟨rfl, rfl, v9, hv9, hl⟩ := hI
    refine lv_iload_n hx hb d_D_isUnder_2 rfl (lv_at hl 0 rfl) ?_
    refine lv_iload_n hx hb d_D_isUnder_3 rfl (lv_at hl 2 rfl) ?_
    refine lv_icmp_le (tgt := 15) hx hb d_D_isUnder_4 (by decide) (fun c_1 => ?_) (fun c_1 => ?_)
    · refine lv_iload_n hx hb d_D_isUnder_15 rfl (lv_at hl 0 rfl) ?_
      refine lv_iload_n hx hb d_D_isUnder_16 rfl (lv_at hl 2 rfl) ?_
      refine lv_icmp_ne (tgt := 24) hx hb d_D_isUnder_17 (by decide) (fun c_2 => ?_) (fun c_2 => ?_)
      · refine lv_iconst (v := 0) hx hb d_D_isUnder_24 (by decide) ?_
        exact W.zret (v := 0) hx hb hr (mr_narz mr_b0) (fun t ht _ => ⟨_, rfl, mr_b0, ht⟩) (fun _ h => nomatch h) d_D_isUnder_25
      · refine lv_iconst (v := 1) hx hb d_D_isUnder_20 (by decide) ?_
        refine lv_goto (tgt := 25) hx hb d_D_isUnder_21 (by decide) ?_
        exact W.zret (v := 1) hx hb hr (mr_narz mr_b1) (fun t ht _ => ⟨_, rfl, mr_b1, ht⟩) (fun _ h => nomatch h) d_D_isUnder_25
    · refine lv_iload_n hx hb d_D_isUnder_7 rfl (lv_at hl 0 rfl) ?_
      refine lv_bipush (v := 100) hx hb d_D_isUnder_8 (by decide) ?_
      refine lv_idiv hx hb d_D_isUnder_10 (by decide) ?_
      refine lv_istore_n (lv' := [(2, .int (v9 / 100)), (0, .int a0), (1, .int a1)]) hx hb d_D_isUnder_11 rfl hl (by decide) rfl (fun ls hl => ?_)
      refine lv_goto (tgt := 2) hx hb d_D_isUnder_12 (by decide) ?_
      exact ih _ _ _ ⟨rfl, rfl, v9 / 100, mr_iu h0 c_1 hv9, lv_sub hl [0, 1, 2] rfl⟩
  · obtain ⟨rfl, rfl, v9, hv9, hl⟩ := hI
    refine lv_iload_n hx hb d_D_isUnder_2 rfl (lv_at hl 0 rfl) ?_
    refine lv_iload_n hx hb d_D_isUnder_3 rfl (lv_at hl 2 rfl) ?_
    refine lv_icmp_le (tgt := 15) hx hb d_D_isUnder_4 (by decide) (fun _ => ?_) (fun c_3 => absurd (mr_iue h0 hv9) c_3)
    refine lv_iload_n hx hb d_D_isUnder_15 rfl (lv_at hl 0 rfl) ?_
    refine lv_iload_n hx hb d_D_isUnder_16 rfl (lv_at hl 2 rfl) ?_
    refine lv_icmp_ne (tgt := 24) hx hb d_D_isUnder_17 (by decide) (fun c_4 => ?_) (fun c_4 => ?_)
    · refine lv_iconst (v := 0) hx hb d_D_isUnder_24 (by decide) ?_
      exact W.zret (v := 0) hx hb hr (mr_narz mr_b0) (fun t ht _ => ⟨_, rfl, mr_b0, ht⟩) (fun _ h => nomatch h) d_D_isUnder_25
    · refine lv_iconst (v := 1) hx hb d_D_isUnder_20 (by decide) ?_
      refine lv_goto (tgt := 25) hx hb d_D_isUnder_21 (by decide) ?_
      exact W.zret (v := 1) hx hb hr (mr_narz mr_b1) (fun t ht _ => ⟨_, rfl, mr_b1, ht⟩) (fun _ h => nomatch h) d_D_isUnder_25
