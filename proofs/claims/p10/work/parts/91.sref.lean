/-- the first of v, v / 100, .. that is not above a -/
def mv_iuf (a : Int32) : Nat → Int32 → Int32
  | 0, v => v
  | k + 1, v => if v ≤ a then v else mv_iuf a k (v / 100)
theorem mv_iuf_y {a v : Int32} (k : Nat) (h : v ≤ a) : mv_iuf a k v = v := by
  cases k with
  | zero => rfl
  | succ k =>
    show (if v ≤ a then v else mv_iuf a k (v / 100)) = v
    rw [if_pos h]
theorem mv_iuf_n {a v : Int32} {k : Nat} (h : ¬ v ≤ a) : mv_iuf a (k + 1) v = mv_iuf a k (v / 100) := by
  show (if v ≤ a then v else mv_iuf a k (v / 100)) = _
  rw [if_neg h]
theorem mr_cnt_congr0 {P Q : Nat → Int32} {n : Nat} (h : ∀ i, i < n → (P i = 0 ↔ Q i = 0)) : mr_cnt P n = mr_cnt Q n := by
  induction n with
  | zero => rfl
  | succ n ih =>
    show mr_cnt P n + (if P n = 0 then 0 else 1) = mr_cnt Q n + (if Q n = 0 then 0 else 1)
    rw [ih (fun i hi => h i (by omega))]
    by_cases c : P n = 0
    · rw [if_pos c, if_pos ((h n (by omega)).mp c)]
    · rw [if_neg c, if_neg (fun q => c ((h n (by omega)).mpr q))]
theorem mr_cnt_le (P : Nat → Int32) (n : Nat) : mr_cnt P n ≤ n := by
  induction n with
  | zero => exact Nat.le_refl 0
  | succ n ih =>
    show mr_cnt P n + (if P n = 0 then 0 else 1) ≤ n + 1
    split <;> omega

def mv_D_isUnder (c a : Int32) : Int32 := if mv_iuf a c.toNatClampNeg c = a then 1 else 0
theorem mv_D_isUnder_b (c a : Int32) : mr_b01 (mv_D_isUnder c a) := mr_bi mr_b1 mr_b0
set_option maxHeartbeats 4000000 in
set_option maxRecDepth 100000 in
theorem mc_D_isUnderX (l : Launch) (s0 : State) (a0 : Int32) (a1 : Int32) (h0 : ¬ a1 < 0) : Met l y_D_isUnder [Cond.code y_D_isUnder b_D_isUnder 3 (some .boolean)] ({ frames := 0, cells := 0, slots := 0, locals := 0 }) (va_Pc [.int a0, .int a1] (fun U => mr_B s0 U)) (vp_Si (fun r => r = mv_D_isUnder a0 a1)) 0 0 (fun _ => False) := by
  refine Met.ofW (cc := b_D_isUnder) (maxL := 3) (ret := (some .boolean)) (by decide) rfl ?_
  intro p e s m args below meth c s₁ B hml hv
  obtain ⟨rfl, hB⟩ := hv
  have hBH := hB.here
  have hx := B.exec
  have hb := B.bytes
  have hr := B.returns
  have hlocks := B.notSynchronized
  have hts : ∀ w ∈ lw_tbl, w.before [.int a0, .int a1].toArray s = true := hB.hts _
  have hown : s.vm.findClass "MeasureRowsModel" = some m.cls := findClass_of_methodNamed B.named
  have hl := lv_entry ([.int a0, .int a1]) (n := 3) (Nat.le_of_ble_eq_true rfl)
  rw [lg_entry_eq]
  generalize (lg_sl ([.int a0, .int a1]) ++ List.replicate (3 - (lg_sl ([.int a0, .int a1])).length) Slot.unset).toArray = ls at hl ⊢
  have hl : lv_has ls 3 [(0, .int a0), (1, .int a1)] := hl
  refine lv_iload_n hx hb d_D_isUnder_0 rfl (lv_at hl 0 rfl) ?_
  refine lv_istore_n (lv' := [(2, .int a0), (0, .int a0), (1, .int a1)]) hx hb d_D_isUnder_1 rfl hl (by decide) rfl (fun ls hl => ?_)
  refine mr_loop (N := a0.toNatClampNeg) (I := fun j H locs ls => H = s.heap ∧ locs = [] ∧ ∃ v9 : Int32, v9.toInt + j ≤ (a0.toNatClampNeg : Int) ∧ mv_iuf a1 (a0.toNatClampNeg - j) v9 = mv_iuf a1 a0.toNatClampNeg a0 ∧ lv_has ls 3 [(2, .int v9), (0, .int a0), (1, .int a1)]) (fun j H locs ls hj hI ih => ?_) (fun H locs ls hI => ?_) 0 _ _ _ (Nat.zero_le _) ⟨rfl, rfl, a0, mr_iu0 a0, rfl, (lv_sub hl [0, 1, 2] rfl)⟩
  · obtain ⟨rfl, rfl, v9, hv9, hvi, hl⟩ := hI
    refine lv_iload_n hx hb d_D_isUnder_2 rfl (lv_at hl 0 rfl) ?_
    refine lv_iload_n hx hb d_D_isUnder_3 rfl (lv_at hl 2 rfl) ?_
    refine lv_icmp_le (tgt := 15) hx hb d_D_isUnder_4 (by decide) (fun c_1 => ?_) (fun c_1 => ?_)
    · refine lv_iload_n hx hb d_D_isUnder_15 rfl (lv_at hl 0 rfl) ?_
      refine lv_iload_n hx hb d_D_isUnder_16 rfl (lv_at hl 2 rfl) ?_
      refine lv_icmp_ne (tgt := 24) hx hb d_D_isUnder_17 (by decide) (fun c_2 => ?_) (fun c_2 => ?_)
      · refine lv_iconst (v := 0) hx hb d_D_isUnder_24 (by decide) ?_
        exact W.zret (v := 0) hx hb hr (mr_narz mr_b0) (fun t ht _ => ⟨_, rfl, (by unfold mv_D_isUnder; rw [← hvi, mv_iuf_y _ c_1, if_neg c_2]), ht⟩) (fun _ h => nomatch h) d_D_isUnder_25
      · refine lv_iconst (v := 1) hx hb d_D_isUnder_20 (by decide) ?_
        refine lv_goto (tgt := 25) hx hb d_D_isUnder_21 (by decide) ?_
        exact W.zret (v := 1) hx hb hr (mr_narz mr_b1) (fun t ht _ => ⟨_, rfl, (by unfold mv_D_isUnder; rw [← hvi, mv_iuf_y _ c_1, if_pos c_2]), ht⟩) (fun _ h => nomatch h) d_D_isUnder_25
    · refine lv_iload_n hx hb d_D_isUnder_7 rfl (lv_at hl 0 rfl) ?_
      refine lv_bipush (v := 100) hx hb d_D_isUnder_8 (by decide) ?_
      refine lv_idiv hx hb d_D_isUnder_10 (by decide) ?_
      refine lv_istore_n (lv' := [(2, .int (v9 / 100)), (0, .int a0), (1, .int a1)]) hx hb d_D_isUnder_11 rfl hl (by decide) rfl (fun ls hl => ?_)
      refine lv_goto (tgt := 2) hx hb d_D_isUnder_12 (by decide) ?_
      exact ih _ _ _ ⟨rfl, rfl, v9 / 100, mr_iu h0 c_1 hv9, (by rw [← hvi, show a0.toNatClampNeg - j = (a0.toNatClampNeg - (j + 1)) + 1 by omega, mv_iuf_n c_1]), lv_sub hl [0, 1, 2] rfl⟩
  · obtain ⟨rfl, rfl, v9, hv9, hvi, hl⟩ := hI
    refine lv_iload_n hx hb d_D_isUnder_2 rfl (lv_at hl 0 rfl) ?_
    refine lv_iload_n hx hb d_D_isUnder_3 rfl (lv_at hl 2 rfl) ?_
    refine lv_icmp_le (tgt := 15) hx hb d_D_isUnder_4 (by decide) (fun _ => ?_) (fun c_3 => absurd (mr_iue h0 hv9) c_3)
    refine lv_iload_n hx hb d_D_isUnder_15 rfl (lv_at hl 0 rfl) ?_
    refine lv_iload_n hx hb d_D_isUnder_16 rfl (lv_at hl 2 rfl) ?_
    refine lv_icmp_ne (tgt := 24) hx hb d_D_isUnder_17 (by decide) (fun c_4 => ?_) (fun c_4 => ?_)
    · refine lv_iconst (v := 0) hx hb d_D_isUnder_24 (by decide) ?_
      exact W.zret (v := 0) hx hb hr (mr_narz mr_b0) (fun t ht _ => ⟨_, rfl, (by unfold mv_D_isUnder; rw [← hvi, mv_iuf_y _ (mr_iue h0 hv9), if_neg c_4]), ht⟩) (fun _ h => nomatch h) d_D_isUnder_25
    · refine lv_iconst (v := 1) hx hb d_D_isUnder_20 (by decide) ?_
      refine lv_goto (tgt := 25) hx hb d_D_isUnder_21 (by decide) ?_
      exact W.zret (v := 1) hx hb hr (mr_narz mr_b1) (fun t ht _ => ⟨_, rfl, (by unfold mv_D_isUnder; rw [← hvi, mv_iuf_y _ (mr_iue h0 hv9), if_pos c_4]), ht⟩) (fun _ h => nomatch h) d_D_isUnder_25
def mv_D_isOf (fm : Nat → Int32) (fco : Nat → Int32) (fla : Nat → Int32) (ffi : Nat → Int32) (fkn : Nat → Int32) (fls : Nat → Int32) (fe : Nat → Int32) (fa : Nat → Int32) (fk : Nat → Int32) (i : Nat) (a1 : Int32) (a2 : Int32) (a3 : Int32) (a4 : Int32) : Int32 := if a4 < (fkn i) then 0 else if (mv_D_isUnder a1 (fco i)) = 0 then 0 else if (mv_D_isIn fm a2 (fla i)) = 0 then 0 else if (((fls i) >>> (a2 &&& 31)) &&& 1) = 0 then (if (mv_D_lasts ffi fe fa fk i a3 a4) = 0 then 0 else 1) else 0
theorem mv_D_isOf_b (fm : Nat → Int32) (fco : Nat → Int32) (fla : Nat → Int32) (ffi : Nat → Int32) (fkn : Nat → Int32) (fls : Nat → Int32) (fe : Nat → Int32) (fa : Nat → Int32) (fk : Nat → Int32) (i : Nat) (a1 : Int32) (a2 : Int32) (a3 : Int32) (a4 : Int32) : mr_b01 (mv_D_isOf fm fco fla ffi fkn fls fe fa fk i a1 a2 a3 a4) := (mr_bi mr_b0 (mr_bi mr_b0 (mr_bi mr_b0 (mr_bi (mr_bi mr_b0 mr_b1) mr_b0))))
set_option maxHeartbeats 4000000 in
set_option maxRecDepth 100000 in
theorem mc_D_isOfX (l : Launch) (s0 : State) (dC : Nat → ClassId) (dI : Nat → Nat → Nat) (cI cR cL cZ : ClassId) (r : Nat → Nat) (th nw pb lc : Int32) (n : Nat) (fm fco fla ffi fkn fls fe fa fk : Nat → Int32) (i : Nat) (a1 : Int32) (a2 : Int32) (a3 : Int32) (a4 : Int32) (hi1 : 1 ≤ i) (hin : i ≤ n) (hM : mr_MI n fe fco) : Met l y_D_isOf [Cond.code y_D_isOf b_D_isOf 6 (some .boolean)] ({ frames := 3, cells := 0, slots := 0, locals := 64 }) (mr_PW s0 (dC, dI) [(cI, .int), (cR, .object "MeasureRows$Row"), (cL, .long), (cZ, .boolean)] [.ref (r 0), .int (nI i), .int a1, .int a2, .int a3, .int a4] [((r 0), .inr (3, mf_D r th (nI n) nw pb lc)), ((r 1), .inl (cI, 8, .inl fm)), ((r 3), .inl (cI, 81, .inl fco)), ((r 4), .inl (cI, 81, .inl fla)), ((r 5), .inl (cI, 81, .inl ffi)), ((r 8), .inl (cI, 81, .inl fkn)), ((r 9), .inl (cI, 81, .inl fls)), ((r 11), .inl (cI, 81, .inl fe)), ((r 12), .inl (cI, 648, .inl fa)), ((r 13), .inl (cI, 648, .inl fk))]) (vp_Si (fun r => r = mv_D_isOf fm fco fla ffi fkn fls fe fa fk i a1 a2 a3 a4)) 0 0 (fun _ => False) := by
  refine Met.ofW (cc := b_D_isOf) (maxL := 6) (ret := (some .boolean)) (by decide) rfl ?_
  intro p e s m args below meth c s₁ B hml hv
  obtain ⟨rfl, hB, hK, hP⟩ := hv
  have hBH := hB.here
  have hx := B.exec
  have hb := B.bytes
  have hr := B.returns
  have hlocks := B.notSynchronized
  have hts : ∀ w ∈ lw_tbl, w.before [.ref (r 0), .int (nI i), .int a1, .int a2, .int a3, .int a4].toArray s = true := hB.hts _
  have hown : s.vm.findClass "MeasureRowsModel" = some m.cls := findClass_of_methodNamed B.named
  have hl := lv_entry ([.ref (r 0), .int (nI i), .int a1, .int a2, .int a3, .int a4]) (n := 6) (Nat.le_of_ble_eq_true rfl)
  rw [lg_entry_eq]
  generalize (lg_sl ([.ref (r 0), .int (nI i), .int a1, .int a2, .int a3, .int a4]) ++ List.replicate (6 - (lg_sl ([.ref (r 0), .int (nI i), .int a1, .int a2, .int a3, .int a4])).length) Slot.unset).toArray = ls at hl ⊢
  have hl : lv_has ls 6 [(0, .ref (r 0)), (1, .int (nI i)), (2, .int a1), (3, .int a2), (4, .int a3), (5, .int a4)] := hl
  refine lv_aload_n hx hb d_D_isOf_0 rfl (lv_at hl 0 rfl) ?_
  refine va_get (D := (dC, dI)) (ci := 3) (v := .ref (r 8)) (C := R_D) (T := T_D) (N := 19) hx hb hts ti_D hown hK hP 0 rfl rfl 8 (by decide) (hts (Cond.fieldLink "MeasureRowsModel" 28 "MeasureRowsModel" "known" "[I") mw_274) (fun _ h9 => h9) rfl d_D_isOf_1 ?_
  refine lv_iload_n hx hb d_D_isOf_4 rfl (lv_at hl 1 rfl) ?_
  refine va_iald (D := (dC, dI)) hx hb hK hP 5 0 rfl rfl (i := nI i) (nI_in (by have := hM.1; omega) (by decide)) d_D_isOf_5 ?_
  refine mr_top (show fkn (nI i).toNatClampNeg = fkn i from mr_nc (by have := hM.1; omega)) ?_
  refine lv_iload hx hb d_D_isOf_6 (lv_at hl 5 rfl) ?_
  refine lv_icmp_gt (tgt := 67) hx hb d_D_isOf_8 (by decide) (fun c_1 => ?_) (fun c_1 => ?_)
  · refine lv_iconst (v := 0) hx hb d_D_isOf_67 (by decide) ?_
    exact W.zret (v := 0) hx hb hr (mr_narz mr_b0) (fun t ht _ => ⟨_, rfl, by unfold mv_D_isOf; rw [if_pos c_1], ht⟩) (fun _ h => nomatch h) d_D_isOf_68
  · refine lv_iload_n hx hb d_D_isOf_11 rfl (lv_at hl 2 rfl) ?_
    refine lv_aload_n hx hb d_D_isOf_12 rfl (lv_at hl 0 rfl) ?_
    refine va_get (D := (dC, dI)) (ci := 3) (v := .ref (r 3)) (C := R_D) (T := T_D) (N := 19) hx hb hts ti_D hown hK hP 0 rfl rfl 3 (by decide) (hts (Cond.fieldLink "MeasureRowsModel" 13 "MeasureRowsModel" "code" "[I") mw_269) (fun _ h9 => h9) rfl d_D_isOf_13 ?_
    refine lv_iload_n hx hb d_D_isOf_16 rfl (lv_at hl 1 rfl) ?_
    refine va_iald (D := (dC, dI)) hx hb hK hP 2 0 rfl rfl (i := nI i) (nI_in (by have := hM.1; omega) (by decide)) d_D_isOf_17 ?_
    refine mr_top (show fco (nI i).toNatClampNeg = fco i from mr_nc (by have := hM.1; omega)) ?_
    refine vp_callSi (va_Run.run (va_runS (As := [.int a1, .int (fco i)]) (rest := []) ⟨hx, hb, hml, hown, hts⟩ (mc_D_isUnderX l s0 a1 (fco i) (hM.2 i (by omega) (by omega)).2) ⟨(mr_cB 2 (hts (Cond.code y_D_isUnder b_D_isUnder 3 (some .boolean)) mw_275) (hts (Cond.initialized y_D_isUnder.cls) mw_276) (hts (Cond.methodLink "MeasureRowsModel" 114 y_D_isUnder) mw_277) rfl rfl (by decide +kernel) ⟨Nat.le_of_ble_eq_true rfl, Nat.le_of_ble_eq_true rfl⟩), (hts (Cond.static y_D_isUnder) mw_278)⟩ (mr_pre0 hBH) rfl rfl hl.1 rfl (lv_room (Nat.le_of_ble_eq_true rfl)) d_D_isOf_18 ⟨Nat.le_of_ble_eq_true rfl, Nat.le_of_ble_eq_true rfl⟩)) (fun r_2 h_3 => ?_)
    subst h_3
    refine lv_if_eq (tgt := 67) hx hb d_D_isOf_21 (by decide) (fun c_4 => ?_) (fun c_4 => ?_)
    · refine lv_iconst (v := 0) hx hb d_D_isOf_67 (by decide) ?_
      exact W.zret (v := 0) hx hb hr (mr_narz mr_b0) (fun t ht _ => ⟨_, rfl, by unfold mv_D_isOf; rw [if_neg c_1, if_pos c_4], ht⟩) (fun _ h => nomatch h) d_D_isOf_68
    · refine lv_aload_n hx hb d_D_isOf_24 rfl (lv_at hl 0 rfl) ?_
      refine lv_iload_n hx hb d_D_isOf_25 rfl (lv_at hl 3 rfl) ?_
      refine lv_aload_n hx hb d_D_isOf_26 rfl (lv_at hl 0 rfl) ?_
      refine va_get (D := (dC, dI)) (ci := 3) (v := .ref (r 4)) (C := R_D) (T := T_D) (N := 19) hx hb hts ti_D hown hK hP 0 rfl rfl 4 (by decide) (hts (Cond.fieldLink "MeasureRowsModel" 16 "MeasureRowsModel" "land" "[I") mw_270) (fun _ h9 => h9) rfl d_D_isOf_27 ?_
      refine lv_iload_n hx hb d_D_isOf_30 rfl (lv_at hl 1 rfl) ?_
      refine va_iald (D := (dC, dI)) hx hb hK hP 3 0 rfl rfl (i := nI i) (nI_in (by have := hM.1; omega) (by decide)) d_D_isOf_31 ?_
      refine mr_top (show fla (nI i).toNatClampNeg = fla i from mr_nc (by have := hM.1; omega)) ?_
      refine vp_callSi (va_Run.run (va_runV (As := [.int a2, .int (fla i)]) (rest := []) (C := R_D) ⟨hx, hb, hml, hown, hts⟩ (mc_D_isIn l s0 dC dI cI cR cL cZ r th (nI n) nw pb lc fm a2 (fla i)) ⟨(mr_cB 2 (hts (Cond.code y_D_isIn b_D_isIn 3 (some .boolean)) mw_279) (hts (Cond.initialized y_D_isIn.cls) mw_280) (hts (Cond.methodLink "MeasureRowsModel" 78 y_D_isIn) mw_281) rfl rfl (by decide +kernel) ⟨Nat.le_of_ble_eq_true rfl, Nat.le_of_ble_eq_true rfl⟩), (hts (Cond.instanceMethod y_D_isIn) mw_282), (hts (Cond.selects "MeasureRowsModel" y_D_isIn y_D_isIn) mw_283)⟩ (mr_preV hBH hK (hP.sub (ws' := [((r 0), .inr (3, mf_D r th (nI n) nw pb lc)), ((r 1), .inl (cI, 8, .inl fm))]) [0, 1] rfl) (ci := 3) (q0 := 0) rfl rfl) rfl rfl hl.1 rfl (lv_room (Nat.le_of_ble_eq_true rfl)) d_D_isOf_32 ⟨Nat.le_of_ble_eq_true rfl, Nat.le_of_ble_eq_true rfl⟩)) (fun r_5 h_6 => ?_)
      subst h_6
      refine lv_if_eq (tgt := 67) hx hb d_D_isOf_35 (by decide) (fun c_7 => ?_) (fun c_7 => ?_)
      · refine lv_iconst (v := 0) hx hb d_D_isOf_67 (by decide) ?_
        exact W.zret (v := 0) hx hb hr (mr_narz mr_b0) (fun t ht _ => ⟨_, rfl, by unfold mv_D_isOf; rw [if_neg c_1, if_neg c_4, if_pos c_7], ht⟩) (fun _ h => nomatch h) d_D_isOf_68
      · refine lv_aload_n hx hb d_D_isOf_38 rfl (lv_at hl 0 rfl) ?_
        refine va_get (D := (dC, dI)) (ci := 3) (v := .ref (r 9)) (C := R_D) (T := T_D) (N := 19) hx hb hts ti_D hown hK hP 0 rfl rfl 9 (by decide) (hts (Cond.fieldLink "MeasureRowsModel" 31 "MeasureRowsModel" "lands" "[I") mw_284) (fun _ h9 => h9) rfl d_D_isOf_39 ?_
        refine lv_iload_n hx hb d_D_isOf_42 rfl (lv_at hl 1 rfl) ?_
        refine va_iald (D := (dC, dI)) hx hb hK hP 6 0 rfl rfl (i := nI i) (nI_in (by have := hM.1; omega) (by decide)) d_D_isOf_43 ?_
        refine mr_top (show fls (nI i).toNatClampNeg = fls i from mr_nc (by have := hM.1; omega)) ?_
        refine lv_iload_n hx hb d_D_isOf_44 rfl (lv_at hl 3 rfl) ?_
        refine lv_ishr hx hb d_D_isOf_45 ?_
        refine lv_iconst (v := 1) hx hb d_D_isOf_46 (by decide) ?_
        refine lv_iand hx hb d_D_isOf_47 ?_
        refine lv_if_ne (tgt := 67) hx hb d_D_isOf_48 (by decide) (fun c_8 => ?_) (fun c_8 => ?_)
        · refine lv_iconst (v := 0) hx hb d_D_isOf_67 (by decide) ?_
          exact W.zret (v := 0) hx hb hr (mr_narz mr_b0) (fun t ht _ => ⟨_, rfl, by unfold mv_D_isOf; rw [if_neg c_1, if_neg c_4, if_neg c_7, if_neg c_8], ht⟩) (fun _ h => nomatch h) d_D_isOf_68
        · refine lv_aload_n hx hb d_D_isOf_51 rfl (lv_at hl 0 rfl) ?_
          refine lv_iload_n hx hb d_D_isOf_52 rfl (lv_at hl 1 rfl) ?_
          refine lv_iload hx hb d_D_isOf_53 (lv_at hl 4 rfl) ?_
          refine lv_iload hx hb d_D_isOf_55 (lv_at hl 5 rfl) ?_
          refine vp_callSi (va_Run.run (va_runV (As := [.int (nI i), .int a3, .int a4]) (rest := []) (C := R_D) ⟨hx, hb, hml, hown, hts⟩ (mc_D_lastsX l s0 dC dI cI cR cL cZ r th nw pb lc n fco ffi fe fa fk i a3 a4 (by omega) (by omega) hM) ⟨(mr_cB 3 (hts (Cond.code y_D_lasts b_D_lasts 4 (some .boolean)) mw_285) (hts (Cond.initialized y_D_lasts.cls) mw_286) (hts (Cond.methodLink "MeasureRowsModel" 117 y_D_lasts) mw_287) rfl rfl (by decide +kernel) ⟨Nat.le_of_ble_eq_true rfl, Nat.le_of_ble_eq_true rfl⟩), (hts (Cond.instanceMethod y_D_lasts) mw_288), (hts (Cond.selects "MeasureRowsModel" y_D_lasts y_D_lasts) mw_289)⟩ (mr_preV hBH hK (hP.sub (ws' := [((r 0), .inr (3, mf_D r th (nI n) nw pb lc)), ((r 3), .inl (cI, 81, .inl fco)), ((r 5), .inl (cI, 81, .inl ffi)), ((r 11), .inl (cI, 81, .inl fe)), ((r 12), .inl (cI, 648, .inl fa)), ((r 13), .inl (cI, 648, .inl fk))]) [0, 2, 4, 7, 8, 9] rfl) (ci := 3) (q0 := 0) rfl rfl) rfl rfl hl.1 rfl (lv_room (Nat.le_of_ble_eq_true rfl)) d_D_isOf_57 ⟨Nat.le_of_ble_eq_true rfl, Nat.le_of_ble_eq_true rfl⟩)) (fun r_9 h_10 => ?_)
          subst h_10
          refine lv_if_eq (tgt := 67) hx hb d_D_isOf_60 (by decide) (fun c_11 => ?_) (fun c_11 => ?_)
          · refine lv_iconst (v := 0) hx hb d_D_isOf_67 (by decide) ?_
            exact W.zret (v := 0) hx hb hr (mr_narz mr_b0) (fun t ht _ => ⟨_, rfl, by unfold mv_D_isOf; rw [if_neg c_1, if_neg c_4, if_neg c_7, if_pos c_8, if_pos c_11], ht⟩) (fun _ h => nomatch h) d_D_isOf_68
          · refine lv_iconst (v := 1) hx hb d_D_isOf_63 (by decide) ?_
            refine lv_goto (tgt := 68) hx hb d_D_isOf_64 (by decide) ?_
            exact W.zret (v := 1) hx hb hr (mr_narz mr_b1) (fun t ht _ => ⟨_, rfl, by unfold mv_D_isOf; rw [if_neg c_1, if_neg c_4, if_neg c_7, if_pos c_8, if_neg c_11], ht⟩) (fun _ h => nomatch h) d_D_isOf_68
def mt_D_scan (a0 a1 a2 : Int32) : Int32 := if (mv_D_digits a0) = 0 then 1 else if (mv_D_isLand a1) = 0 then 1 else if (mv_D_isDay a2) = 0 then 1 else 0
def mv_D_scan (n : Nat) (nw : Int32) (fm fco fla ffi fkn fls fe fa fk : Nat → Int32) (a0 a1 a2 : Int32) : Int32 := if mt_D_scan a0 a1 a2 = 0 then nI (mr_cnt (fun j => mv_D_isOf fm fco fla ffi fkn fls fe fa fk (j + 1) a0 a1 a2 nw) n) else 0

set_option maxHeartbeats 4000000 in
set_option maxRecDepth 100000 in
theorem mc_D_scanX (l : Launch) (s0 : State) (dC : Nat → ClassId) (dI : Nat → Nat → Nat) (cI cR cL cZ : ClassId) (r : Nat → Nat) (th nw pb : Int32) (qc : Nat) (n : Nat) (fm fco fla ffi fkn fls fe fa fk fli : Nat → Int32) (sz : Nat) (a0 : Int32) (a1 : Int32) (a2 : Int32) (hq : qc ≤ 80) (hM : mr_MI n fe fco) : Met l y_D_scan [Cond.code y_D_scan b_D_scan 5 (some .int)] ({ frames := 4, cells := 0, slots := 0, locals := 89 }) (mr_PC s0 (dC, dI) [(cI, .int), (cR, .object "MeasureRows$Row"), (cL, .long), (cZ, .boolean)] [.ref (r 0), .int a0, .int a1, .int a2] [((r 0), .inr (3, mf_D r th (nI n) nw pb (nI qc))), ((r 1), .inl (cI, 8, .inl fm)), ((r 3), .inl (cI, 81, .inl fco)), ((r 4), .inl (cI, 81, .inl fla)), ((r 5), .inl (cI, 81, .inl ffi)), ((r 8), .inl (cI, 81, .inl fkn)), ((r 9), .inl (cI, 81, .inl fls)), ((r 11), .inl (cI, 81, .inl fe)), ((r 12), .inl (cI, 648, .inl fa)), ((r 13), .inl (cI, 648, .inl fk)), ((r 16), .inl (cI, 80, .inl fli))] sz) (va_Qi (fun rr _ => rr = mv_D_scan n nw fm fco fla ffi fkn fls fe fa fk a0 a1 a2) (fun (u : Unit) t => ∃ (th9 : Int32) (q9 : Nat) (fli9 : Nat → Int32), mr_W (dC, dI) [(cI, .int), (cR, .object "MeasureRows$Row"), (cL, .long), (cZ, .boolean)] (va_A [((r 0), .inr (3, mf_D r th (nI n) nw pb (nI qc))), ((r 1), .inl (cI, 8, .inl fm)), ((r 3), .inl (cI, 81, .inl fco)), ((r 4), .inl (cI, 81, .inl fla)), ((r 5), .inl (cI, 81, .inl ffi)), ((r 8), .inl (cI, 81, .inl fkn)), ((r 9), .inl (cI, 81, .inl fls)), ((r 11), .inl (cI, 81, .inl fe)), ((r 12), .inl (cI, 648, .inl fa)), ((r 13), .inl (cI, 648, .inl fk)), ((r 16), .inl (cI, 80, .inl fli))] sz) [((r 0), .inr (3, mf_D r th9 (nI n) nw pb (nI q9))), ((r 1), .inl (cI, 8, .inl fm)), ((r 3), .inl (cI, 81, .inl fco)), ((r 4), .inl (cI, 81, .inl fla)), ((r 5), .inl (cI, 81, .inl ffi)), ((r 8), .inl (cI, 81, .inl fkn)), ((r 9), .inl (cI, 81, .inl fls)), ((r 11), .inl (cI, 81, .inl fe)), ((r 12), .inl (cI, 648, .inl fa)), ((r 13), .inl (cI, 648, .inl fk)), ((r 16), .inl (cI, 80, .inl fli9))] t ∧ q9 ≤ 80 ∧ th9 = mt_D_scan a0 a1 a2) (va_A [((r 0), .inr (3, mf_D r th (nI n) nw pb (nI qc))), ((r 1), .inl (cI, 8, .inl fm)), ((r 3), .inl (cI, 81, .inl fco)), ((r 4), .inl (cI, 81, .inl fla)), ((r 5), .inl (cI, 81, .inl ffi)), ((r 8), .inl (cI, 81, .inl fkn)), ((r 9), .inl (cI, 81, .inl fls)), ((r 11), .inl (cI, 81, .inl fe)), ((r 12), .inl (cI, 648, .inl fa)), ((r 13), .inl (cI, 648, .inl fk)), ((r 16), .inl (cI, 80, .inl fli))] sz)) 0 0 (va_A [((r 0), .inr (3, mf_D r th (nI n) nw pb (nI qc))), ((r 1), .inl (cI, 8, .inl fm)), ((r 3), .inl (cI, 81, .inl fco)), ((r 4), .inl (cI, 81, .inl fla)), ((r 5), .inl (cI, 81, .inl ffi)), ((r 8), .inl (cI, 81, .inl fkn)), ((r 9), .inl (cI, 81, .inl fls)), ((r 11), .inl (cI, 81, .inl fe)), ((r 12), .inl (cI, 648, .inl fa)), ((r 13), .inl (cI, 648, .inl fk)), ((r 16), .inl (cI, 80, .inl fli))] sz) := by
  refine Met.ofW (cc := b_D_scan) (maxL := 5) (ret := (some .int)) (by decide) rfl ?_
  intro p e s m args below meth c s₁ B hml hv
  obtain ⟨rfl, hsz, hB, hK, hP, hD0⟩ := hv
  subst hsz
  have hA0 := mr_A hB hD0
  have hD := hD0.self (sz := s.heap.size)
  generalize hAe : va_A [((r 0), .inr (3, mf_D r th (nI n) nw pb (nI qc))), ((r 1), .inl (cI, 8, .inl fm)), ((r 3), .inl (cI, 81, .inl fco)), ((r 4), .inl (cI, 81, .inl fla)), ((r 5), .inl (cI, 81, .inl ffi)), ((r 8), .inl (cI, 81, .inl fkn)), ((r 9), .inl (cI, 81, .inl fls)), ((r 11), .inl (cI, 81, .inl fe)), ((r 12), .inl (cI, 648, .inl fa)), ((r 13), .inl (cI, 648, .inl fk)), ((r 16), .inl (cI, 80, .inl fli))] s.heap.size = A at hD hA0 ⊢
  have hA : ∀ q : Nat, s.heap.size ≤ q → A q := fun q h => by rw [← hAe]; exact Or.inr h
  have hS : va_S A s.heap s.heap [] := va_S.rf
  have hP : va_P (dC, dI) mr_cl [((r 0), .inr (3, mf_D r th (nI n) nw pb (nI qc))), ((r 1), .inl (cI, 8, .inl fm)), ((r 3), .inl (cI, 81, .inl fco)), ((r 4), .inl (cI, 81, .inl fla)), ((r 5), .inl (cI, 81, .inl ffi)), ((r 8), .inl (cI, 81, .inl fkn)), ((r 9), .inl (cI, 81, .inl fls)), ((r 11), .inl (cI, 81, .inl fe)), ((r 12), .inl (cI, 648, .inl fa)), ((r 13), .inl (cI, 648, .inl fk)), ((r 16), .inl (cI, 80, .inl fli))] s.heap := hP
  have hBH := hB.at hS hA0
  have hx := B.exec
  have hb := B.bytes
  have hr := B.returns
  have hlocks := B.notSynchronized
  have hts : ∀ w ∈ lw_tbl, w.before [.ref (r 0), .int a0, .int a1, .int a2].toArray s = true := hB.hts _
  have hown : s.vm.findClass "MeasureRowsModel" = some m.cls := findClass_of_methodNamed B.named
  have hl := lv_entry ([.ref (r 0), .int a0, .int a1, .int a2]) (n := 5) (Nat.le_of_ble_eq_true rfl)
  rw [lg_entry_eq]
  generalize (lg_sl ([.ref (r 0), .int a0, .int a1, .int a2]) ++ List.replicate (5 - (lg_sl ([.ref (r 0), .int a0, .int a1, .int a2])).length) Slot.unset).toArray = ls at hl ⊢
  have hl : lv_has ls 5 [(0, .ref (r 0)), (1, .int a0), (2, .int a1), (3, .int a2)] := hl
  refine lv_iload_n hx hb d_D_scan_0 rfl (lv_at hl 1 rfl) ?_
  refine vp_callSi (va_Run.run (va_runS (As := [.int a0]) (rest := []) ⟨hx, hb, hml, hown, hts⟩ (mc_D_digits l s0 a0) ⟨(mr_cB 1 (hts (Cond.code y_D_digits b_D_digits 1 (some .int)) mw_290) (hts (Cond.initialized y_D_digits.cls) mw_291) (hts (Cond.methodLink "MeasureRowsModel" 91 y_D_digits) mw_292) rfl rfl (by decide +kernel) ⟨Nat.le_of_ble_eq_true rfl, Nat.le_of_ble_eq_true rfl⟩), (hts (Cond.static y_D_digits) mw_293)⟩ (mr_pre0 hBH) rfl rfl hl.1 rfl (lv_room (Nat.le_of_ble_eq_true rfl)) d_D_scan_1 ⟨Nat.le_of_ble_eq_true rfl, Nat.le_of_ble_eq_true rfl⟩)) (fun r_1 h_2 => ?_)
  subst h_2
  refine lv_if_eq (tgt := 21) hx hb d_D_scan_4 (by decide) (fun c_3 => ?_) (fun c_3 => ?_)
  · refine lv_aload_n hx hb d_D_scan_21 rfl (lv_at hl 0 rfl) ?_
    refine lv_iconst (v := 1) hx hb d_D_scan_22 (by decide) ?_
    have hPc := hP.sub (ws' := [((r 0), .inr (3, mf_D r th (nI n) nw pb (nI qc)))]) [0] rfl
    have hDc := hD.sub (ws' := [((r 0), .inr (3, mf_D r th (nI n) nw pb (nI qc)))]) [0] (by decide) rfl
    have hFc := va_free (wc := [((r 0), .inr (3, mf_D r th (nI n) nw pb (nI qc)))]) hD hS hA [0] rfl
    refine va_calli (va_runV (As := [.int 1]) (rest := []) (C := R_D) ⟨hx, hb, hml, hown, hts⟩ (mc_D_fails l s0 dC dI cI cR cL cZ r th (nI n) nw pb (nI qc) _ 1) ⟨(mr_cB 1 (hts (Cond.code y_D_fails b_D_fails 2 (some .int)) mw_318) (hts (Cond.initialized y_D_fails.cls) mw_319) (hts (Cond.methodLink "MeasureRowsModel" 97 y_D_fails) mw_320) rfl rfl (by decide +kernel) ⟨Nat.le_of_ble_eq_true rfl, Nat.le_of_ble_eq_true rfl⟩), (hts (Cond.instanceMethod y_D_fails) mw_321), (hts (Cond.selects "MeasureRowsModel" y_D_fails y_D_fails) mw_322)⟩ (mr_preCV hBH hK hPc (hDc.weaken (fun _ _ _ h => hA0 _ h)) (ci := 3) (q0 := 0) rfl rfl) rfl rfl hl.1 rfl (lv_room (Nat.le_of_ble_eq_true rfl)) d_D_scan_23 ⟨Nat.le_of_ble_eq_true rfl, Nat.le_of_ble_eq_true rfl⟩) hS (fun q _ h => hFc q h) hFc (fun r_4 u_5 t H1 locs ht hvm hw hB1 hz1 hk1 hS => ?_)
    obtain ⟨hP1, hK1, hD1⟩ := hB1
    rw [ht] at hP1
    obtain ⟨hP, hD⟩ := va_join (wr := [((r 1), .inl (cI, 8, .inl fm)), ((r 3), .inl (cI, 81, .inl fco)), ((r 4), .inl (cI, 81, .inl fla)), ((r 5), .inl (cI, 81, .inl ffi)), ((r 8), .inl (cI, 81, .inl fkn)), ((r 9), .inl (cI, 81, .inl fls)), ((r 11), .inl (cI, 81, .inl fe)), ((r 12), .inl (cI, 648, .inl fa)), ((r 13), .inl (cI, 648, .inl fk)), ((r 16), .inl (cI, 80, .inl fli))]) (w1 := [((r 0), .inr (3, mf_D r 1 (nI n) nw pb (nI qc)))]) hP hD [0] [1, 2, 3, 4, 5, 6, 7, 8, 9, 10] rfl rfl (by decide) (by decide) hk1 hFc hP1 hD1
    clear hK1 hk1 hPc hDc hFc
    generalize H1 = H at hP hS ht ⊢
    have hP : va_P (dC, dI) mr_cl [((r 1), .inl (cI, 8, .inl fm)), ((r 3), .inl (cI, 81, .inl fco)), ((r 4), .inl (cI, 81, .inl fla)), ((r 5), .inl (cI, 81, .inl ffi)), ((r 8), .inl (cI, 81, .inl fkn)), ((r 9), .inl (cI, 81, .inl fls)), ((r 11), .inl (cI, 81, .inl fe)), ((r 12), .inl (cI, 648, .inl fa)), ((r 13), .inl (cI, 648, .inl fk)), ((r 16), .inl (cI, 80, .inl fli)), ((r 0), .inr (3, mf_D r 1 (nI n) nw pb (nI qc)))] H := hP
    have hD : va_D A [((r 1), .inl (cI, 8, .inl fm)), ((r 3), .inl (cI, 81, .inl fco)), ((r 4), .inl (cI, 81, .inl fla)), ((r 5), .inl (cI, 81, .inl ffi)), ((r 8), .inl (cI, 81, .inl fkn)), ((r 9), .inl (cI, 81, .inl fls)), ((r 11), .inl (cI, 81, .inl fe)), ((r 12), .inl (cI, 648, .inl fa)), ((r 13), .inl (cI, 648, .inl fk)), ((r 16), .inl (cI, 80, .inl fli)), ((r 0), .inr (3, mf_D r 1 (nI n) nw pb (nI qc)))] := hD
    have hBH := hB.at hS hA0
    obtain rfl : r_4 = 0 := hw
    have hP9 := hP.sub (ws' := [((r 0), .inr (3, mf_D r 1 (nI n) nw pb (nI qc))), ((r 1), .inl (cI, 8, .inl fm)), ((r 3), .inl (cI, 81, .inl fco)), ((r 4), .inl (cI, 81, .inl fla)), ((r 5), .inl (cI, 81, .inl ffi)), ((r 8), .inl (cI, 81, .inl fkn)), ((r 9), .inl (cI, 81, .inl fls)), ((r 11), .inl (cI, 81, .inl fe)), ((r 12), .inl (cI, 648, .inl fa)), ((r 13), .inl (cI, 648, .inl fk)), ((r 16), .inl (cI, 80, .inl fli))]) [10, 0, 1, 2, 3, 4, 5, 6, 7, 8, 9] rfl
    have hD9 := hD.sub (ws' := [((r 0), .inr (3, mf_D r 1 (nI n) nw pb (nI qc))), ((r 1), .inl (cI, 8, .inl fm)), ((r 3), .inl (cI, 81, .inl fco)), ((r 4), .inl (cI, 81, .inl fla)), ((r 5), .inl (cI, 81, .inl ffi)), ((r 8), .inl (cI, 81, .inl fkn)), ((r 9), .inl (cI, 81, .inl fls)), ((r 11), .inl (cI, 81, .inl fe)), ((r 12), .inl (cI, 648, .inl fa)), ((r 13), .inl (cI, 648, .inl fk)), ((r 16), .inl (cI, 80, .inl fli))]) [10, 0, 1, 2, 3, 4, 5, 6, 7, 8, 9] (by decide) rfl
    have hth : mt_D_scan a0 a1 a2 = 1 := by unfold mt_D_scan; rw [if_pos c_3]
    exact W.iret (v := 0) hx hb hr (fun t ht hW => ⟨⟨_, (), rfl, (by unfold mv_D_scan; rw [if_neg (by rw [hth]; decide)]), 1, qc, fli, ⟨by rw [ht]; exact hP9, va_K.moved hW.alike hK, hD9⟩, hq, hth.symm⟩, hS.F ht⟩) hS.2.2 d_D_scan_26
  · refine lv_iload_n hx hb d_D_scan_7 rfl (lv_at hl 2 rfl) ?_
    refine vp_callSi (va_Run.run (va_runS (As := [.int a1]) (rest := []) ⟨hx, hb, hml, hown, hts⟩ (mc_D_isLand l s0 a1) ⟨(mr_cB 1 (hts (Cond.code y_D_isLand b_D_isLand 1 (some .boolean)) mw_301) (hts (Cond.initialized y_D_isLand.cls) mw_302) (hts (Cond.methodLink "MeasureRowsModel" 71 y_D_isLand) mw_303) rfl rfl (by decide +kernel) ⟨Nat.le_of_ble_eq_true rfl, Nat.le_of_ble_eq_true rfl⟩), (hts (Cond.static y_D_isLand) mw_304)⟩ (mr_pre0 hBH) rfl rfl hl.1 rfl (lv_room (Nat.le_of_ble_eq_true rfl)) d_D_scan_8 ⟨Nat.le_of_ble_eq_true rfl, Nat.le_of_ble_eq_true rfl⟩)) (fun r_6 h_7 => ?_)
    subst h_7
    refine lv_if_eq (tgt := 21) hx hb d_D_scan_11 (by decide) (fun c_8 => ?_) (fun c_8 => ?_)
    · refine lv_aload_n hx hb d_D_scan_21 rfl (lv_at hl 0 rfl) ?_
      refine lv_iconst (v := 1) hx hb d_D_scan_22 (by decide) ?_
      have hPc := hP.sub (ws' := [((r 0), .inr (3, mf_D r th (nI n) nw pb (nI qc)))]) [0] rfl
      have hDc := hD.sub (ws' := [((r 0), .inr (3, mf_D r th (nI n) nw pb (nI qc)))]) [0] (by decide) rfl
      have hFc := va_free (wc := [((r 0), .inr (3, mf_D r th (nI n) nw pb (nI qc)))]) hD hS hA [0] rfl
      refine va_calli (va_runV (As := [.int 1]) (rest := []) (C := R_D) ⟨hx, hb, hml, hown, hts⟩ (mc_D_fails l s0 dC dI cI cR cL cZ r th (nI n) nw pb (nI qc) _ 1) ⟨(mr_cB 1 (hts (Cond.code y_D_fails b_D_fails 2 (some .int)) mw_318) (hts (Cond.initialized y_D_fails.cls) mw_319) (hts (Cond.methodLink "MeasureRowsModel" 97 y_D_fails) mw_320) rfl rfl (by decide +kernel) ⟨Nat.le_of_ble_eq_true rfl, Nat.le_of_ble_eq_true rfl⟩), (hts (Cond.instanceMethod y_D_fails) mw_321), (hts (Cond.selects "MeasureRowsModel" y_D_fails y_D_fails) mw_322)⟩ (mr_preCV hBH hK hPc (hDc.weaken (fun _ _ _ h => hA0 _ h)) (ci := 3) (q0 := 0) rfl rfl) rfl rfl hl.1 rfl (lv_room (Nat.le_of_ble_eq_true rfl)) d_D_scan_23 ⟨Nat.le_of_ble_eq_true rfl, Nat.le_of_ble_eq_true rfl⟩) hS (fun q _ h => hFc q h) hFc (fun r_9 u_10 t H1 locs ht hvm hw hB1 hz1 hk1 hS => ?_)
      obtain ⟨hP1, hK1, hD1⟩ := hB1
      rw [ht] at hP1
      obtain ⟨hP, hD⟩ := va_join (wr := [((r 1), .inl (cI, 8, .inl fm)), ((r 3), .inl (cI, 81, .inl fco)), ((r 4), .inl (cI, 81, .inl fla)), ((r 5), .inl (cI, 81, .inl ffi)), ((r 8), .inl (cI, 81, .inl fkn)), ((r 9), .inl (cI, 81, .inl fls)), ((r 11), .inl (cI, 81, .inl fe)), ((r 12), .inl (cI, 648, .inl fa)), ((r 13), .inl (cI, 648, .inl fk)), ((r 16), .inl (cI, 80, .inl fli))]) (w1 := [((r 0), .inr (3, mf_D r 1 (nI n) nw pb (nI qc)))]) hP hD [0] [1, 2, 3, 4, 5, 6, 7, 8, 9, 10] rfl rfl (by decide) (by decide) hk1 hFc hP1 hD1
      clear hK1 hk1 hPc hDc hFc
      generalize H1 = H at hP hS ht ⊢
      have hP : va_P (dC, dI) mr_cl [((r 1), .inl (cI, 8, .inl fm)), ((r 3), .inl (cI, 81, .inl fco)), ((r 4), .inl (cI, 81, .inl fla)), ((r 5), .inl (cI, 81, .inl ffi)), ((r 8), .inl (cI, 81, .inl fkn)), ((r 9), .inl (cI, 81, .inl fls)), ((r 11), .inl (cI, 81, .inl fe)), ((r 12), .inl (cI, 648, .inl fa)), ((r 13), .inl (cI, 648, .inl fk)), ((r 16), .inl (cI, 80, .inl fli)), ((r 0), .inr (3, mf_D r 1 (nI n) nw pb (nI qc)))] H := hP
      have hD : va_D A [((r 1), .inl (cI, 8, .inl fm)), ((r 3), .inl (cI, 81, .inl fco)), ((r 4), .inl (cI, 81, .inl fla)), ((r 5), .inl (cI, 81, .inl ffi)), ((r 8), .inl (cI, 81, .inl fkn)), ((r 9), .inl (cI, 81, .inl fls)), ((r 11), .inl (cI, 81, .inl fe)), ((r 12), .inl (cI, 648, .inl fa)), ((r 13), .inl (cI, 648, .inl fk)), ((r 16), .inl (cI, 80, .inl fli)), ((r 0), .inr (3, mf_D r 1 (nI n) nw pb (nI qc)))] := hD
      have hBH := hB.at hS hA0
      obtain rfl : r_9 = 0 := hw
      have hP9 := hP.sub (ws' := [((r 0), .inr (3, mf_D r 1 (nI n) nw pb (nI qc))), ((r 1), .inl (cI, 8, .inl fm)), ((r 3), .inl (cI, 81, .inl fco)), ((r 4), .inl (cI, 81, .inl fla)), ((r 5), .inl (cI, 81, .inl ffi)), ((r 8), .inl (cI, 81, .inl fkn)), ((r 9), .inl (cI, 81, .inl fls)), ((r 11), .inl (cI, 81, .inl fe)), ((r 12), .inl (cI, 648, .inl fa)), ((r 13), .inl (cI, 648, .inl fk)), ((r 16), .inl (cI, 80, .inl fli))]) [10, 0, 1, 2, 3, 4, 5, 6, 7, 8, 9] rfl
      have hD9 := hD.sub (ws' := [((r 0), .inr (3, mf_D r 1 (nI n) nw pb (nI qc))), ((r 1), .inl (cI, 8, .inl fm)), ((r 3), .inl (cI, 81, .inl fco)), ((r 4), .inl (cI, 81, .inl fla)), ((r 5), .inl (cI, 81, .inl ffi)), ((r 8), .inl (cI, 81, .inl fkn)), ((r 9), .inl (cI, 81, .inl fls)), ((r 11), .inl (cI, 81, .inl fe)), ((r 12), .inl (cI, 648, .inl fa)), ((r 13), .inl (cI, 648, .inl fk)), ((r 16), .inl (cI, 80, .inl fli))]) [10, 0, 1, 2, 3, 4, 5, 6, 7, 8, 9] (by decide) rfl
      have hth : mt_D_scan a0 a1 a2 = 1 := by unfold mt_D_scan; rw [if_neg c_3, if_pos c_8]
      exact W.iret (v := 0) hx hb hr (fun t ht hW => ⟨⟨_, (), rfl, (by unfold mv_D_scan; rw [if_neg (by rw [hth]; decide)]), 1, qc, fli, ⟨by rw [ht]; exact hP9, va_K.moved hW.alike hK, hD9⟩, hq, hth.symm⟩, hS.F ht⟩) hS.2.2 d_D_scan_26
    · refine lv_iload_n hx hb d_D_scan_14 rfl (lv_at hl 3 rfl) ?_
      refine vp_callSi (va_Run.run (va_runS (As := [.int a2]) (rest := []) ⟨hx, hb, hml, hown, hts⟩ (mc_D_isDay l s0 a2) ⟨(mr_cB 1 (hts (Cond.code y_D_isDay b_D_isDay 1 (some .boolean)) mw_314) (hts (Cond.initialized y_D_isDay.cls) mw_315) (hts (Cond.methodLink "MeasureRowsModel" 94 y_D_isDay) mw_316) rfl rfl (by decide +kernel) ⟨Nat.le_of_ble_eq_true rfl, Nat.le_of_ble_eq_true rfl⟩), (hts (Cond.static y_D_isDay) mw_317)⟩ (mr_pre0 hBH) rfl rfl hl.1 rfl (lv_room (Nat.le_of_ble_eq_true rfl)) d_D_scan_15 ⟨Nat.le_of_ble_eq_true rfl, Nat.le_of_ble_eq_true rfl⟩)) (fun r_11 h_12 => ?_)
      subst h_12
      refine lv_if_ne (tgt := 27) hx hb d_D_scan_18 (by decide) (fun c_13 => ?_) (fun c_13 => ?_)
      · refine lv_aload_n hx hb d_D_scan_27 rfl (lv_at hl 0 rfl) ?_
        refine lv_iconst (v := 0) hx hb d_D_scan_28 (by decide) ?_
        refine va_put (D := (dC, dI)) (ci := 3) (v := .int 0) (ty := .int) (C := R_D) (T := T_D) (N := 19) hx hb hts ti_D t_D to_D tn_D hown hK hP hD hS 0 rfl rfl 0 (by decide) (hts (Cond.fieldLink "MeasureRowsModel" 53 "MeasureRowsModel" "thrown" "I") mw_295) (fun _ h9 => h9) rfl (by decide +kernel) rfl rfl (Nat.le_of_ble_eq_true rfl) d_D_scan_29 (fun H locs hP hD hS => ?_)
        have hP : va_P (dC, dI) mr_cl [((r 0), .inr (3, mf_D r 0 (nI n) nw pb (nI qc))), ((r 1), .inl (cI, 8, .inl fm)), ((r 3), .inl (cI, 81, .inl fco)), ((r 4), .inl (cI, 81, .inl fla)), ((r 5), .inl (cI, 81, .inl ffi)), ((r 8), .inl (cI, 81, .inl fkn)), ((r 9), .inl (cI, 81, .inl fls)), ((r 11), .inl (cI, 81, .inl fe)), ((r 12), .inl (cI, 648, .inl fa)), ((r 13), .inl (cI, 648, .inl fk)), ((r 16), .inl (cI, 80, .inl fli))] H := hP
        have hD : va_D A [((r 0), .inr (3, mf_D r 0 (nI n) nw pb (nI qc))), ((r 1), .inl (cI, 8, .inl fm)), ((r 3), .inl (cI, 81, .inl fco)), ((r 4), .inl (cI, 81, .inl fla)), ((r 5), .inl (cI, 81, .inl ffi)), ((r 8), .inl (cI, 81, .inl fkn)), ((r 9), .inl (cI, 81, .inl fls)), ((r 11), .inl (cI, 81, .inl fe)), ((r 12), .inl (cI, 648, .inl fa)), ((r 13), .inl (cI, 648, .inl fk)), ((r 16), .inl (cI, 80, .inl fli))] := hD
        have hBH := hB.at hS hA0
        refine lv_aload_n hx hb d_D_scan_32 rfl (lv_at hl 0 rfl) ?_
        refine lv_iconst (v := 0) hx hb d_D_scan_33 (by decide) ?_
        refine va_put (D := (dC, dI)) (ci := 3) (v := .int 0) (ty := .int) (C := R_D) (T := T_D) (N := 19) hx hb hts ti_D t_D to_D tn_D hown hK hP hD hS 0 rfl rfl 17 (by decide) (hts (Cond.fieldLink "MeasureRowsModel" 124 "MeasureRowsModel" "listed" "I") mw_312) (fun _ h9 => h9) rfl (by decide +kernel) rfl rfl (Nat.le_of_ble_eq_true rfl) d_D_scan_34 (fun H locs hP hD hS => ?_)
        have hP : va_P (dC, dI) mr_cl [((r 0), .inr (3, mf_D r 0 (nI n) nw pb 0)), ((r 1), .inl (cI, 8, .inl fm)), ((r 3), .inl (cI, 81, .inl fco)), ((r 4), .inl (cI, 81, .inl fla)), ((r 5), .inl (cI, 81, .inl ffi)), ((r 8), .inl (cI, 81, .inl fkn)), ((r 9), .inl (cI, 81, .inl fls)), ((r 11), .inl (cI, 81, .inl fe)), ((r 12), .inl (cI, 648, .inl fa)), ((r 13), .inl (cI, 648, .inl fk)), ((r 16), .inl (cI, 80, .inl fli))] H := hP
        have hD : va_D A [((r 0), .inr (3, mf_D r 0 (nI n) nw pb 0)), ((r 1), .inl (cI, 8, .inl fm)), ((r 3), .inl (cI, 81, .inl fco)), ((r 4), .inl (cI, 81, .inl fla)), ((r 5), .inl (cI, 81, .inl ffi)), ((r 8), .inl (cI, 81, .inl fkn)), ((r 9), .inl (cI, 81, .inl fls)), ((r 11), .inl (cI, 81, .inl fe)), ((r 12), .inl (cI, 648, .inl fa)), ((r 13), .inl (cI, 648, .inl fk)), ((r 16), .inl (cI, 80, .inl fli))] := hD
        have hBH := hB.at hS hA0
        refine lv_iconst (v := 1) hx hb d_D_scan_37 (by decide) ?_
        refine lv_istore (lv' := [(4, .int 1), (0, .ref (r 0)), (1, .int a0), (2, .int a1), (3, .int a2)]) hx hb d_D_scan_38 hl (by decide) rfl (fun ls hl => ?_)
        refine mr_loop (N := n) (I := fun j H locs ls => ∃ q9 : Nat, ∃ li9 : Nat → Int32, (q9 = mr_cnt (fun j => mv_D_isOf fm fco fla ffi fkn fls fe fa fk (j + 1) a0 a1 a2 nw) j ∧ q9 ≤ j) ∧ va_P (dC, dI) mr_cl [((r 0), .inr (3, mf_D r 0 (nI n) nw pb (nI q9))), ((r 1), .inl (cI, 8, .inl fm)), ((r 3), .inl (cI, 81, .inl fco)), ((r 4), .inl (cI, 81, .inl fla)), ((r 5), .inl (cI, 81, .inl ffi)), ((r 8), .inl (cI, 81, .inl fkn)), ((r 9), .inl (cI, 81, .inl fls)), ((r 11), .inl (cI, 81, .inl fe)), ((r 12), .inl (cI, 648, .inl fa)), ((r 13), .inl (cI, 648, .inl fk)), ((r 16), .inl (cI, 80, .inl li9))] H ∧ va_D A [((r 0), .inr (3, mf_D r 0 (nI n) nw pb (nI q9))), ((r 1), .inl (cI, 8, .inl fm)), ((r 3), .inl (cI, 81, .inl fco)), ((r 4), .inl (cI, 81, .inl fla)), ((r 5), .inl (cI, 81, .inl ffi)), ((r 8), .inl (cI, 81, .inl fkn)), ((r 9), .inl (cI, 81, .inl fls)), ((r 11), .inl (cI, 81, .inl fe)), ((r 12), .inl (cI, 648, .inl fa)), ((r 13), .inl (cI, 648, .inl fk)), ((r 16), .inl (cI, 80, .inl li9))] ∧ va_S A s.heap H locs ∧ lv_has ls 5 [(4, .int (nI (j + 1))), (0, .ref (r 0)), (1, .int a0), (2, .int a1), (3, .int a2)]) (fun j H locs ls hj hI9 ih => ?_) (fun H locs ls hI9 => ?_) 0 _ _ _ (Nat.zero_le _) ⟨0, fli, ⟨rfl, Nat.zero_le _⟩, hP, hD, hS, (lv_sub hl [0, 1, 2, 3, 4] rfl)⟩
        · obtain ⟨q9, li9, hexj, hP, hD, hS, hl⟩ := hI9
          have hBH := hB.at hS hA0
          refine lv_iload hx hb d_D_scan_40 (lv_at hl 0 rfl) ?_
          refine lv_aload_n hx hb d_D_scan_42 rfl (lv_at hl 1 rfl) ?_
          refine va_get (D := (dC, dI)) (ci := 3) (v := .int (nI n)) (C := R_D) (T := T_D) (N := 19) hx hb hts ti_D hown hK hP 0 rfl rfl 2 (by decide) (hts (Cond.fieldLink "MeasureRowsModel" 81 "MeasureRowsModel" "rows" "I") mw_294) (fun _ h9 => h9) rfl d_D_scan_43 ?_
          refine lv_icmp_gt (tgt := 92) hx hb d_D_scan_46 (by decide) (fun c_14 => absurd c_14 (nI_nlt (by omega) (by have := hM.1; omega))) (fun _ => ?_)
          refine lv_aload_n hx hb d_D_scan_49 rfl (lv_at hl 1 rfl) ?_
          refine lv_iload hx hb d_D_scan_50 (lv_at hl 0 rfl) ?_
          refine lv_iload_n hx hb d_D_scan_52 rfl (lv_at hl 2 rfl) ?_
          refine lv_iload_n hx hb d_D_scan_53 rfl (lv_at hl 3 rfl) ?_
          refine lv_iload_n hx hb d_D_scan_54 rfl (lv_at hl 4 rfl) ?_
          refine lv_aload_n hx hb d_D_scan_55 rfl (lv_at hl 1 rfl) ?_
          refine va_get (D := (dC, dI)) (ci := 3) (v := .int nw) (C := R_D) (T := T_D) (N := 19) hx hb hts ti_D hown hK hP 0 rfl rfl 14 (by decide) (hts (Cond.fieldLink "MeasureRowsModel" 84 "MeasureRowsModel" "now" "I") mw_273) (fun _ h9 => h9) rfl d_D_scan_56 ?_
          refine vp_callSi (va_Run.run (va_runV (As := [.int (nI (j + 1)), .int a0, .int a1, .int a2, .int nw]) (rest := []) (C := R_D) ⟨hx, hb, hml, hown, hts⟩ (mc_D_isOfX l s0 dC dI cI cR cL cZ r 0 nw pb (nI q9) n fm fco fla ffi fkn fls fe fa fk (j + 1) a0 a1 a2 nw (by omega) (by omega) hM) ⟨(mr_cB 5 (hts (Cond.code y_D_isOf b_D_isOf 6 (some .boolean)) mw_323) (hts (Cond.initialized y_D_isOf.cls) mw_324) (hts (Cond.methodLink "MeasureRowsModel" 120 y_D_isOf) mw_325) rfl rfl (by decide +kernel) ⟨Nat.le_of_ble_eq_true rfl, Nat.le_of_ble_eq_true rfl⟩), (hts (Cond.instanceMethod y_D_isOf) mw_326), (hts (Cond.selects "MeasureRowsModel" y_D_isOf y_D_isOf) mw_327)⟩ (mr_preV hBH hK (hP.sub (ws' := [((r 0), .inr (3, mf_D r 0 (nI n) nw pb (nI q9))), ((r 1), .inl (cI, 8, .inl fm)), ((r 3), .inl (cI, 81, .inl fco)), ((r 4), .inl (cI, 81, .inl fla)), ((r 5), .inl (cI, 81, .inl ffi)), ((r 8), .inl (cI, 81, .inl fkn)), ((r 9), .inl (cI, 81, .inl fls)), ((r 11), .inl (cI, 81, .inl fe)), ((r 12), .inl (cI, 648, .inl fa)), ((r 13), .inl (cI, 648, .inl fk))]) [0, 1, 2, 3, 4, 5, 6, 7, 8, 9] rfl) (ci := 3) (q0 := 0) rfl rfl) rfl rfl hl.1 rfl (lv_room (Nat.le_of_ble_eq_true rfl)) d_D_scan_59 ⟨Nat.le_of_ble_eq_true rfl, Nat.le_of_ble_eq_true rfl⟩)) (fun r_15 h_16 => ?_)
          subst h_16
          refine lv_if_eq (tgt := 86) hx hb d_D_scan_62 (by decide) (fun c_17 => ?_) (fun c_17 => ?_)
          · refine lv_iinc (v := nI ((j + 1) + 1)) (lv' := [(4, .int (nI ((j + 1) + 1))), (0, .ref (r 0)), (1, .int a0), (2, .int a1), (3, .int a2)]) hx hb d_D_scan_86 hl (k := 0) rfl ((nI_succ (j + 1)).symm) (by decide) rfl (fun ls hl => ?_)
            refine lv_goto (tgt := 40) hx hb d_D_scan_89 (by decide) ?_
            exact ih _ _ _ ⟨q9, li9, ⟨(by rw [mr_cnt_n (P := (fun j => mv_D_isOf fm fco fla ffi fkn fls fe fa fk (j + 1) a0 a1 a2 nw)) (j := j) c_17]; exact hexj.1), by have := hexj.2; omega⟩, hP, hD, hS, lv_sub hl [0, 1, 2, 3, 4] rfl⟩
          · refine lv_aload_n hx hb d_D_scan_65 rfl (lv_at hl 1 rfl) ?_
            refine va_get (D := (dC, dI)) (ci := 3) (v := .ref (r 16)) (C := R_D) (T := T_D) (N := 19) hx hb hts ti_D hown hK hP 0 rfl rfl 16 (by decide) (hts (Cond.fieldLink "MeasureRowsModel" 46 "MeasureRowsModel" "list" "[I") mw_313) (fun _ h9 => h9) rfl d_D_scan_66 ?_
            refine lv_aload_n hx hb d_D_scan_69 rfl (lv_at hl 1 rfl) ?_
            refine va_get (D := (dC, dI)) (ci := 3) (v := .int (nI q9)) (C := R_D) (T := T_D) (N := 19) hx hb hts ti_D hown hK hP 0 rfl rfl 17 (by decide) (hts (Cond.fieldLink "MeasureRowsModel" 124 "MeasureRowsModel" "listed" "I") mw_312) (fun _ h9 => h9) rfl d_D_scan_70 ?_
            refine lv_iload hx hb d_D_scan_73 (lv_at hl 0 rfl) ?_
            refine va_iast (D := (dC, dI)) hx hb hK hP hD hS 10 0 rfl rfl (i := (nI q9)) (nI_in (by have := hM.1; have := hexj.2; omega) (by decide)) d_D_scan_75 (fun H locs hP hD hS => ?_)
            have hP : va_P (dC, dI) mr_cl [((r 0), .inr (3, mf_D r 0 (nI n) nw pb (nI q9))), ((r 1), .inl (cI, 8, .inl fm)), ((r 3), .inl (cI, 81, .inl fco)), ((r 4), .inl (cI, 81, .inl fla)), ((r 5), .inl (cI, 81, .inl ffi)), ((r 8), .inl (cI, 81, .inl fkn)), ((r 9), .inl (cI, 81, .inl fls)), ((r 11), .inl (cI, 81, .inl fe)), ((r 12), .inl (cI, 648, .inl fa)), ((r 13), .inl (cI, 648, .inl fk)), ((r 16), .inl (cI, 80, .inl (upd li9 (nI q9).toNatClampNeg (nI (j + 1)))))] H := hP
            have hD : va_D A [((r 0), .inr (3, mf_D r 0 (nI n) nw pb (nI q9))), ((r 1), .inl (cI, 8, .inl fm)), ((r 3), .inl (cI, 81, .inl fco)), ((r 4), .inl (cI, 81, .inl fla)), ((r 5), .inl (cI, 81, .inl ffi)), ((r 8), .inl (cI, 81, .inl fkn)), ((r 9), .inl (cI, 81, .inl fls)), ((r 11), .inl (cI, 81, .inl fe)), ((r 12), .inl (cI, 648, .inl fa)), ((r 13), .inl (cI, 648, .inl fk)), ((r 16), .inl (cI, 80, .inl (upd li9 (nI q9).toNatClampNeg (nI (j + 1)))))] := hD
            have hBH := hB.at hS hA0
            refine lv_aload_n hx hb d_D_scan_76 rfl (lv_at hl 1 rfl) ?_
            refine lv_dup hx hb d_D_scan_77 rfl ?_
            refine va_get (D := (dC, dI)) (ci := 3) (v := .int (nI q9)) (C := R_D) (T := T_D) (N := 19) hx hb hts ti_D hown hK hP 0 rfl rfl 17 (by decide) (hts (Cond.fieldLink "MeasureRowsModel" 124 "MeasureRowsModel" "listed" "I") mw_312) (fun _ h9 => h9) rfl d_D_scan_78 ?_
            refine lv_iconst (v := 1) hx hb d_D_scan_81 (by decide) ?_
            refine lv_iadd hx hb d_D_scan_82 ?_
            refine mr_top (nI_1 q9) ?_
            refine va_put (D := (dC, dI)) (ci := 3) (v := .int (nI (q9 + 1))) (ty := .int) (C := R_D) (T := T_D) (N := 19) hx hb hts ti_D t_D to_D tn_D hown hK hP hD hS 0 rfl rfl 17 (by decide) (hts (Cond.fieldLink "MeasureRowsModel" 124 "MeasureRowsModel" "listed" "I") mw_312) (fun _ h9 => h9) rfl (by decide +kernel) rfl rfl (Nat.le_of_ble_eq_true rfl) d_D_scan_83 (fun H locs hP hD hS => ?_)
            have hP : va_P (dC, dI) mr_cl [((r 0), .inr (3, mf_D r 0 (nI n) nw pb (nI (q9 + 1)))), ((r 1), .inl (cI, 8, .inl fm)), ((r 3), .inl (cI, 81, .inl fco)), ((r 4), .inl (cI, 81, .inl fla)), ((r 5), .inl (cI, 81, .inl ffi)), ((r 8), .inl (cI, 81, .inl fkn)), ((r 9), .inl (cI, 81, .inl fls)), ((r 11), .inl (cI, 81, .inl fe)), ((r 12), .inl (cI, 648, .inl fa)), ((r 13), .inl (cI, 648, .inl fk)), ((r 16), .inl (cI, 80, .inl (upd li9 (nI q9).toNatClampNeg (nI (j + 1)))))] H := hP
            have hD : va_D A [((r 0), .inr (3, mf_D r 0 (nI n) nw pb (nI (q9 + 1)))), ((r 1), .inl (cI, 8, .inl fm)), ((r 3), .inl (cI, 81, .inl fco)), ((r 4), .inl (cI, 81, .inl fla)), ((r 5), .inl (cI, 81, .inl ffi)), ((r 8), .inl (cI, 81, .inl fkn)), ((r 9), .inl (cI, 81, .inl fls)), ((r 11), .inl (cI, 81, .inl fe)), ((r 12), .inl (cI, 648, .inl fa)), ((r 13), .inl (cI, 648, .inl fk)), ((r 16), .inl (cI, 80, .inl (upd li9 (nI q9).toNatClampNeg (nI (j + 1)))))] := hD
            have hBH := hB.at hS hA0
            refine lv_iinc (v := nI ((j + 1) + 1)) (lv' := [(4, .int (nI ((j + 1) + 1))), (0, .ref (r 0)), (1, .int a0), (2, .int a1), (3, .int a2)]) hx hb d_D_scan_86 hl (k := 0) rfl ((nI_succ (j + 1)).symm) (by decide) rfl (fun ls hl => ?_)
            refine lv_goto (tgt := 40) hx hb d_D_scan_89 (by decide) ?_
            exact ih _ _ _ ⟨(q9 + 1), (upd li9 (nI q9).toNatClampNeg (nI (j + 1))), ⟨(by rw [mr_cnt_y (P := (fun j => mv_D_isOf fm fco fla ffi fkn fls fe fa fk (j + 1) a0 a1 a2 nw)) (j := j) c_17, hexj.1]), by have := hexj.2; omega⟩, hP, hD, hS, lv_sub hl [0, 1, 2, 3, 4] rfl⟩
        · obtain ⟨q9, li9, hexj, hP, hD, hS, hl⟩ := hI9
          have hBH := hB.at hS hA0
          refine lv_iload hx hb d_D_scan_40 (lv_at hl 0 rfl) ?_
          refine lv_aload_n hx hb d_D_scan_42 rfl (lv_at hl 1 rfl) ?_
          refine va_get (D := (dC, dI)) (ci := 3) (v := .int (nI n)) (C := R_D) (T := T_D) (N := 19) hx hb hts ti_D hown hK hP 0 rfl rfl 2 (by decide) (hts (Cond.fieldLink "MeasureRowsModel" 81 "MeasureRowsModel" "rows" "I") mw_294) (fun _ h9 => h9) rfl d_D_scan_43 ?_
          refine lv_icmp_gt (tgt := 92) hx hb d_D_scan_46 (by decide) (fun _ => ?_) (fun c_19 => absurd (nI_lt (by omega) (by have := hM.1; omega)) c_19)
          refine lv_aload_n hx hb d_D_scan_92 rfl (lv_at hl 1 rfl) ?_
          refine va_get (D := (dC, dI)) (ci := 3) (v := .int (nI q9)) (C := R_D) (T := T_D) (N := 19) hx hb hts ti_D hown hK hP 0 rfl rfl 17 (by decide) (hts (Cond.fieldLink "MeasureRowsModel" 124 "MeasureRowsModel" "listed" "I") mw_312) (fun _ h9 => h9) rfl d_D_scan_93 ?_
          have hP9 := hP.sub (ws' := [((r 0), .inr (3, mf_D r 0 (nI n) nw pb (nI q9))), ((r 1), .inl (cI, 8, .inl fm)), ((r 3), .inl (cI, 81, .inl fco)), ((r 4), .inl (cI, 81, .inl fla)), ((r 5), .inl (cI, 81, .inl ffi)), ((r 8), .inl (cI, 81, .inl fkn)), ((r 9), .inl (cI, 81, .inl fls)), ((r 11), .inl (cI, 81, .inl fe)), ((r 12), .inl (cI, 648, .inl fa)), ((r 13), .inl (cI, 648, .inl fk)), ((r 16), .inl (cI, 80, .inl li9))]) [0, 1, 2, 3, 4, 5, 6, 7, 8, 9, 10] rfl
          have hD9 := hD.sub (ws' := [((r 0), .inr (3, mf_D r 0 (nI n) nw pb (nI q9))), ((r 1), .inl (cI, 8, .inl fm)), ((r 3), .inl (cI, 81, .inl fco)), ((r 4), .inl (cI, 81, .inl fla)), ((r 5), .inl (cI, 81, .inl ffi)), ((r 8), .inl (cI, 81, .inl fkn)), ((r 9), .inl (cI, 81, .inl fls)), ((r 11), .inl (cI, 81, .inl fe)), ((r 12), .inl (cI, 648, .inl fa)), ((r 13), .inl (cI, 648, .inl fk)), ((r 16), .inl (cI, 80, .inl li9))]) [0, 1, 2, 3, 4, 5, 6, 7, 8, 9, 10] (by decide) rfl
          have hth : mt_D_scan a0 a1 a2 = 0 := by unfold mt_D_scan; rw [if_neg c_3, if_neg c_8, if_neg c_13]
          exact W.iret (v := (nI q9)) hx hb hr (fun t ht hW => ⟨⟨_, (), rfl, (by unfold mv_D_scan; rw [if_pos hth, ← hexj.1]), 0, q9, li9, ⟨by rw [ht]; exact hP9, va_K.moved hW.alike hK, hD9⟩, (by have := hM.1; have := hexj.2; omega), hth.symm⟩, hS.F ht⟩) hS.2.2 d_D_scan_96
      · refine lv_aload_n hx hb d_D_scan_21 rfl (lv_at hl 0 rfl) ?_
        refine lv_iconst (v := 1) hx hb d_D_scan_22 (by decide) ?_
        have hPc := hP.sub (ws' := [((r 0), .inr (3, mf_D r th (nI n) nw pb (nI qc)))]) [0] rfl
        have hDc := hD.sub (ws' := [((r 0), .inr (3, mf_D r th (nI n) nw pb (nI qc)))]) [0] (by decide) rfl
        have hFc := va_free (wc := [((r 0), .inr (3, mf_D r th (nI n) nw pb (nI qc)))]) hD hS hA [0] rfl
        refine va_calli (va_runV (As := [.int 1]) (rest := []) (C := R_D) ⟨hx, hb, hml, hown, hts⟩ (mc_D_fails l s0 dC dI cI cR cL cZ r th (nI n) nw pb (nI qc) _ 1) ⟨(mr_cB 1 (hts (Cond.code y_D_fails b_D_fails 2 (some .int)) mw_318) (hts (Cond.initialized y_D_fails.cls) mw_319) (hts (Cond.methodLink "MeasureRowsModel" 97 y_D_fails) mw_320) rfl rfl (by decide +kernel) ⟨Nat.le_of_ble_eq_true rfl, Nat.le_of_ble_eq_true rfl⟩), (hts (Cond.instanceMethod y_D_fails) mw_321), (hts (Cond.selects "MeasureRowsModel" y_D_fails y_D_fails) mw_322)⟩ (mr_preCV hBH hK hPc (hDc.weaken (fun _ _ _ h => hA0 _ h)) (ci := 3) (q0 := 0) rfl rfl) rfl rfl hl.1 rfl (lv_room (Nat.le_of_ble_eq_true rfl)) d_D_scan_23 ⟨Nat.le_of_ble_eq_true rfl, Nat.le_of_ble_eq_true rfl⟩) hS (fun q _ h => hFc q h) hFc (fun r_20 u_21 t H1 locs ht hvm hw hB1 hz1 hk1 hS => ?_)
        obtain ⟨hP1, hK1, hD1⟩ := hB1
        rw [ht] at hP1
        obtain ⟨hP, hD⟩ := va_join (wr := [((r 1), .inl (cI, 8, .inl fm)), ((r 3), .inl (cI, 81, .inl fco)), ((r 4), .inl (cI, 81, .inl fla)), ((r 5), .inl (cI, 81, .inl ffi)), ((r 8), .inl (cI, 81, .inl fkn)), ((r 9), .inl (cI, 81, .inl fls)), ((r 11), .inl (cI, 81, .inl fe)), ((r 12), .inl (cI, 648, .inl fa)), ((r 13), .inl (cI, 648, .inl fk)), ((r 16), .inl (cI, 80, .inl fli))]) (w1 := [((r 0), .inr (3, mf_D r 1 (nI n) nw pb (nI qc)))]) hP hD [0] [1, 2, 3, 4, 5, 6, 7, 8, 9, 10] rfl rfl (by decide) (by decide) hk1 hFc hP1 hD1
        clear hK1 hk1 hPc hDc hFc
        generalize H1 = H at hP hS ht ⊢
        have hP : va_P (dC, dI) mr_cl [((r 1), .inl (cI, 8, .inl fm)), ((r 3), .inl (cI, 81, .inl fco)), ((r 4), .inl (cI, 81, .inl fla)), ((r 5), .inl (cI, 81, .inl ffi)), ((r 8), .inl (cI, 81, .inl fkn)), ((r 9), .inl (cI, 81, .inl fls)), ((r 11), .inl (cI, 81, .inl fe)), ((r 12), .inl (cI, 648, .inl fa)), ((r 13), .inl (cI, 648, .inl fk)), ((r 16), .inl (cI, 80, .inl fli)), ((r 0), .inr (3, mf_D r 1 (nI n) nw pb (nI qc)))] H := hP
        have hD : va_D A [((r 1), .inl (cI, 8, .inl fm)), ((r 3), .inl (cI, 81, .inl fco)), ((r 4), .inl (cI, 81, .inl fla)), ((r 5), .inl (cI, 81, .inl ffi)), ((r 8), .inl (cI, 81, .inl fkn)), ((r 9), .inl (cI, 81, .inl fls)), ((r 11), .inl (cI, 81, .inl fe)), ((r 12), .inl (cI, 648, .inl fa)), ((r 13), .inl (cI, 648, .inl fk)), ((r 16), .inl (cI, 80, .inl fli)), ((r 0), .inr (3, mf_D r 1 (nI n) nw pb (nI qc)))] := hD
        have hBH := hB.at hS hA0
        obtain rfl : r_20 = 0 := hw
        have hP9 := hP.sub (ws' := [((r 0), .inr (3, mf_D r 1 (nI n) nw pb (nI qc))), ((r 1), .inl (cI, 8, .inl fm)), ((r 3), .inl (cI, 81, .inl fco)), ((r 4), .inl (cI, 81, .inl fla)), ((r 5), .inl (cI, 81, .inl ffi)), ((r 8), .inl (cI, 81, .inl fkn)), ((r 9), .inl (cI, 81, .inl fls)), ((r 11), .inl (cI, 81, .inl fe)), ((r 12), .inl (cI, 648, .inl fa)), ((r 13), .inl (cI, 648, .inl fk)), ((r 16), .inl (cI, 80, .inl fli))]) [10, 0, 1, 2, 3, 4, 5, 6, 7, 8, 9] rfl
        have hD9 := hD.sub (ws' := [((r 0), .inr (3, mf_D r 1 (nI n) nw pb (nI qc))), ((r 1), .inl (cI, 8, .inl fm)), ((r 3), .inl (cI, 81, .inl fco)), ((r 4), .inl (cI, 81, .inl fla)), ((r 5), .inl (cI, 81, .inl ffi)), ((r 8), .inl (cI, 81, .inl fkn)), ((r 9), .inl (cI, 81, .inl fls)), ((r 11), .inl (cI, 81, .inl fe)), ((r 12), .inl (cI, 648, .inl fa)), ((r 13), .inl (cI, 648, .inl fk)), ((r 16), .inl (cI, 80, .inl fli))]) [10, 0, 1, 2, 3, 4, 5, 6, 7, 8, 9] (by decide) rfl
        have hth : mt_D_scan a0 a1 a2 = 1 := by unfold mt_D_scan; rw [if_neg c_3, if_neg c_8, if_pos c_13]
        exact W.iret (v := 0) hx hb hr (fun t ht hW => ⟨⟨_, (), rfl, (by unfold mv_D_scan; rw [if_neg (by rw [hth]; decide)]), 1, qc, fli, ⟨by rw [ht]; exact hP9, va_K.moved hW.alike hK, hD9⟩, hq, hth.symm⟩, hS.F ht⟩) hS.2.2 d_D_scan_26
def mv_M_isOfLand (fi : Nat → Int32) (vp ve : Int32) (a1 : Int32) : Int32 := if vp = a1 then (if (mv_R_leavesOut ve a1) = 0 then 1 else 0) else if (mv_G_reaches fi vp a1) = 0 then 0 else if (mv_R_leavesOut ve a1) = 0 then 1 else 0
theorem mv_M_isOfLand_b (fi : Nat → Int32) (vp ve : Int32) (a1 : Int32) : mr_b01 (mv_M_isOfLand fi vp ve a1) := (mr_bi (mr_bi mr_b1 mr_b0) (mr_bi mr_b0 (mr_bi mr_b1 mr_b0)))
set_option maxHeartbeats 4000000 in
set_option maxRecDepth 100000 in
theorem mc_M_isOfLandX (l : Launch) (s0 : State) (dC : Nat → ClassId) (dI : Nat → Nat → Nat) (cI cR cL cZ : ClassId) (r : Nat → Nat) (n : Nat) (nw pb lc : Int32) (fi : Nat → Int32) (q ql qk : Nat) (vc vp vf vr vn ve vw vt : Int32) (k : Nat) (a1 : Int32) : Met l y_M_isOfLand [Cond.code y_M_isOfLand b_M_isOfLand 3 (some .boolean)] ({ frames := 3, cells := 0, slots := 0, locals := 63 }) (mr_PW s0 (dC, dI) [(cI, .int), (cR, .object "MeasureRows$Row"), (cL, .long), (cZ, .boolean)] [.ref (r 0), .ref q, .int a1] [((r 0), .inr (0, mf_M r (nI n) nw pb lc)), ((r 1), .inr (1, [.ref (r 2), .ref (r 3)])), ((r 3), .inl (cI, 8, .inl fi)), (q, .inr (2, [.int vc, .int vp, .int vf, .int (nI k), .int vr, .int vn, .int ve, .int vw, .int vt, .ref ql, .ref qk]))]) (vp_Si (fun r => r = mv_M_isOfLand fi vp ve a1)) 0 0 (fun _ => False) := by
  refine Met.ofW (cc := b_M_isOfLand) (maxL := 3) (ret := (some .boolean)) (by decide) rfl ?_
  intro p e s m args below meth c s₁ B hml hv
  obtain ⟨rfl, hB, hK, hP⟩ := hv
  have hBH := hB.here
  have hx := B.exec
  have hb := B.bytes
  have hr := B.returns
  have hlocks := B.notSynchronized
  have hts : ∀ w ∈ lw_tbl, w.before [.ref (r 0), .ref q, .int a1].toArray s = true := hB.hts _
  have hown : s.vm.findClass "MeasureRows" = some m.cls := findClass_of_methodNamed B.named
  have hl := lv_entry ([.ref (r 0), .ref q, .int a1]) (n := 3) (Nat.le_of_ble_eq_true rfl)
  rw [lg_entry_eq]
  generalize (lg_sl ([.ref (r 0), .ref q, .int a1]) ++ List.replicate (3 - (lg_sl ([.ref (r 0), .ref q, .int a1])).length) Slot.unset).toArray = ls at hl ⊢
  have hl : lv_has ls 3 [(0, .ref (r 0)), (1, .ref q), (2, .int a1)] := hl
  refine lv_aload_n hx hb d_M_isOfLand_0 rfl (lv_at hl 1 rfl) ?_
  refine va_get (D := (dC, dI)) (ci := 2) (v := .int vp) (C := R_R) (T := T_R) (N := 11) hx hb hts ti_R hown hK hP 3 rfl rfl 1 (by decide) (hts (Cond.fieldLink "MeasureRows" 158 "MeasureRows$Row" "place" "I") mw_148) (fun _ h9 => h9) rfl d_M_isOfLand_1 ?_
  refine lv_iload_n hx hb d_M_isOfLand_4 rfl (lv_at hl 2 rfl) ?_
  refine lv_icmp_eq (tgt := 23) hx hb d_M_isOfLand_5 (by decide) (fun c_1 => ?_) (fun c_1 => ?_)
  · refine lv_aload_n hx hb d_M_isOfLand_23 rfl (lv_at hl 1 rfl) ?_
    refine lv_iload_n hx hb d_M_isOfLand_24 rfl (lv_at hl 2 rfl) ?_
    refine vp_callSi (va_Run.run (va_runV (As := [.int a1]) (rest := []) (C := R_R) ⟨hx, hb, hml, hown, hts⟩ (mc_R_leavesOut l s0 dC dI cI cR cL cZ q ql qk vc vp vf (nI k) vr vn ve vw vt a1) ⟨(mr_cB 1 (hts (Cond.code y_R_leavesOut b_R_leavesOut 2 (some .boolean)) mw_159) (hts (Cond.initialized y_R_leavesOut.cls) mw_160) (hts (Cond.methodLink "MeasureRows" 204 y_R_leavesOut) mw_161) rfl rfl (by decide +kernel) ⟨Nat.le_of_ble_eq_true rfl, Nat.le_of_ble_eq_true rfl⟩), (hts (Cond.instanceMethod y_R_leavesOut) mw_162), (hts (Cond.selects "MeasureRows$Row" y_R_leavesOut y_R_leavesOut) mw_163)⟩ (mr_preV hBH hK (hP.sub (ws' := [(q, .inr (2, [.int vc, .int vp, .int vf, .int (nI k), .int vr, .int vn, .int ve, .int vw, .int vt, .ref ql, .ref qk]))]) [3] rfl) (ci := 2) (q0 := 0) rfl rfl) rfl rfl hl.1 rfl (lv_room (Nat.le_of_ble_eq_true rfl)) d_M_isOfLand_25 ⟨Nat.le_of_ble_eq_true rfl, Nat.le_of_ble_eq_true rfl⟩)) (fun r_2 h_3 => ?_)
    subst h_3
    refine lv_if_ne (tgt := 35) hx hb d_M_isOfLand_28 (by decide) (fun c_4 => ?_) (fun c_4 => ?_)
    · refine lv_iconst (v := 0) hx hb d_M_isOfLand_35 (by decide) ?_
      exact W.zret (v := 0) hx hb hr (mr_narz mr_b0) (fun t ht _ => ⟨_, rfl, by unfold mv_M_isOfLand; rw [if_pos c_1, if_neg c_4], ht⟩) (fun _ h => nomatch h) d_M_isOfLand_36
    · refine lv_iconst (v := 1) hx hb d_M_isOfLand_31 (by decide) ?_
      refine lv_goto (tgt := 36) hx hb d_M_isOfLand_32 (by decide) ?_
      exact W.zret (v := 1) hx hb hr (mr_narz mr_b1) (fun t ht _ => ⟨_, rfl, by unfold mv_M_isOfLand; rw [if_pos c_1, if_pos c_4], ht⟩) (fun _ h => nomatch h) d_M_isOfLand_36
  · refine lv_aload_n hx hb d_M_isOfLand_8 rfl (lv_at hl 0 rfl) ?_
    refine va_get (D := (dC, dI)) (ci := 0) (v := .ref (r 1)) (C := R_M) (T := T_M) (N := 9) hx hb hts ti_M hown hK hP 0 rfl rfl 0 (by decide) (hts (Cond.fieldLink "MeasureRows" 10 "MeasureRows" "groups" "LMeasureRows$Groups;") mw_53) (fun _ h9 => h9) rfl d_M_isOfLand_9 ?_
    refine lv_aload_n hx hb d_M_isOfLand_12 rfl (lv_at hl 1 rfl) ?_
    refine va_get (D := (dC, dI)) (ci := 2) (v := .int vp) (C := R_R) (T := T_R) (N := 11) hx hb hts ti_R hown hK hP 3 rfl rfl 1 (by decide) (hts (Cond.fieldLink "MeasureRows" 158 "MeasureRows$Row" "place" "I") mw_148) (fun _ h9 => h9) rfl d_M_isOfLand_13 ?_
    refine lv_iload_n hx hb d_M_isOfLand_16 rfl (lv_at hl 2 rfl) ?_
    refine vp_callSi (va_Run.run (va_runV (As := [.int vp, .int a1]) (rest := []) (C := R_G) ⟨hx, hb, hml, hown, hts⟩ (mc_G_reaches l s0 dC dI cI cR cL cZ (r 1) (r 2) (r 3) fi vp a1) ⟨(mr_cB 2 (hts (Cond.code y_G_reaches b_G_reaches 3 (some .boolean)) mw_132) (hts (Cond.initialized y_G_reaches.cls) mw_133) (hts (Cond.methodLink "MeasureRows" 68 y_G_reaches) mw_134) rfl rfl (by decide +kernel) ⟨Nat.le_of_ble_eq_true rfl, Nat.le_of_ble_eq_true rfl⟩), (hts (Cond.instanceMethod y_G_reaches) mw_135), (hts (Cond.selects "MeasureRows$Groups" y_G_reaches y_G_reaches) mw_136)⟩ (mr_preV hBH hK (hP.sub (ws' := [((r 1), .inr (1, [.ref (r 2), .ref (r 3)])), ((r 3), .inl (cI, 8, .inl fi))]) [1, 2] rfl) (ci := 1) (q0 := 0) rfl rfl) rfl rfl hl.1 rfl (lv_room (Nat.le_of_ble_eq_true rfl)) d_M_isOfLand_17 ⟨Nat.le_of_ble_eq_true rfl, Nat.le_of_ble_eq_true rfl⟩)) (fun r_5 h_6 => ?_)
    subst h_6
    refine lv_if_eq (tgt := 35) hx hb d_M_isOfLand_20 (by decide) (fun c_7 => ?_) (fun c_7 => ?_)
    · refine lv_iconst (v := 0) hx hb d_M_isOfLand_35 (by decide) ?_
      exact W.zret (v := 0) hx hb hr (mr_narz mr_b0) (fun t ht _ => ⟨_, rfl, by unfold mv_M_isOfLand; rw [if_neg c_1, if_pos c_7], ht⟩) (fun _ h => nomatch h) d_M_isOfLand_36
    · refine lv_aload_n hx hb d_M_isOfLand_23 rfl (lv_at hl 1 rfl) ?_
      refine lv_iload_n hx hb d_M_isOfLand_24 rfl (lv_at hl 2 rfl) ?_
      refine vp_callSi (va_Run.run (va_runV (As := [.int a1]) (rest := []) (C := R_R) ⟨hx, hb, hml, hown, hts⟩ (mc_R_leavesOut l s0 dC dI cI cR cL cZ q ql qk vc vp vf (nI k) vr vn ve vw vt a1) ⟨(mr_cB 1 (hts (Cond.code y_R_leavesOut b_R_leavesOut 2 (some .boolean)) mw_159) (hts (Cond.initialized y_R_leavesOut.cls) mw_160) (hts (Cond.methodLink "MeasureRows" 204 y_R_leavesOut) mw_161) rfl rfl (by decide +kernel) ⟨Nat.le_of_ble_eq_true rfl, Nat.le_of_ble_eq_true rfl⟩), (hts (Cond.instanceMethod y_R_leavesOut) mw_162), (hts (Cond.selects "MeasureRows$Row" y_R_leavesOut y_R_leavesOut) mw_163)⟩ (mr_preV hBH hK (hP.sub (ws' := [(q, .inr (2, [.int vc, .int vp, .int vf, .int (nI k), .int vr, .int vn, .int ve, .int vw, .int vt, .ref ql, .ref qk]))]) [3] rfl) (ci := 2) (q0 := 0) rfl rfl) rfl rfl hl.1 rfl (lv_room (Nat.le_of_ble_eq_true rfl)) d_M_isOfLand_25 ⟨Nat.le_of_ble_eq_true rfl, Nat.le_of_ble_eq_true rfl⟩)) (fun r_8 h_9 => ?_)
      subst h_9
      refine lv_if_ne (tgt := 35) hx hb d_M_isOfLand_28 (by decide) (fun c_10 => ?_) (fun c_10 => ?_)
      · refine lv_iconst (v := 0) hx hb d_M_isOfLand_35 (by decide) ?_
        exact W.zret (v := 0) hx hb hr (mr_narz mr_b0) (fun t ht _ => ⟨_, rfl, by unfold mv_M_isOfLand; rw [if_neg c_1, if_neg c_7, if_neg c_10], ht⟩) (fun _ h => nomatch h) d_M_isOfLand_36
      · refine lv_iconst (v := 1) hx hb d_M_isOfLand_31 (by decide) ?_
        refine lv_goto (tgt := 36) hx hb d_M_isOfLand_32 (by decide) ?_
        exact W.zret (v := 1) hx hb hr (mr_narz mr_b1) (fun t ht _ => ⟨_, rfl, by unfold mv_M_isOfLand; rw [if_neg c_1, if_neg c_7, if_pos c_10], ht⟩) (fun _ h => nomatch h) d_M_isOfLand_36
