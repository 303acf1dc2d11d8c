
def mv_D_beats (fco fki fra : Nat → Int32) (i i2 : Nat) : Int32 := if (fki i) = (fki i2) then (if (mv_D_digits (fco i2)) < (mv_D_digits (fco i)) then 1 else if (mv_D_digits (fco i)) = (mv_D_digits (fco i2)) then (if (fra i) ≤ (fra i2) then 0 else 1) else 0) else 0
theorem mv_D_beats_b (fco fki fra : Nat → Int32) (i i2 : Nat) : mr_b01 (mv_D_beats fco fki fra i i2 ) := (mr_bi (mr_bi mr_b1 (mr_bi (mr_bi mr_b0 mr_b1) mr_b0)) mr_b0)
set_option maxHeartbeats 4000000 in
set_option maxRecDepth 100000 in
theorem mc_D_beatsX (l : Launch) (s0 : State) (dC : Nat → ClassId) (dI : Nat → Nat → Nat) (cI cR cL cZ : ClassId) (r : Nat → Nat) (th nw pb lc : Int32) (n : Nat) (fco fki fra fe : Nat → Int32) (i i2 : Nat) (hin : i ≤ n) (hin2 : i2 ≤ n) (hM : mr_MI n fe fco) : Met l y_D_beats [Cond.code y_D_beats b_D_beats 5 (some .boolean)] ({ frames := 2, cells := 0, slots := 0, locals := 42 }) (mr_PW s0 (dC, dI) [(cI, .int), (cR, .object "MeasureRows$Row"), (cL, .long), (cZ, .boolean)] [.ref (r 0), .int (nI i), .int (nI i2)] [((r 0), .inr (3, mf_D r th (nI n) nw pb lc)), ((r 3), .inl (cI, 81, .inl fco)), ((r 6), .inl (cI, 81, .inl fki)), ((r 7), .inl (cI, 81, .inl fra)), ((r 11), .inl (cI, 81, .inl fe))]) (vp_Si (fun r => r = mv_D_beats fco fki fra i i2 )) 0 0 (fun _ => False) := by
  refine Met.ofW (cc := b_D_beats) (maxL := 5) (ret := (some .boolean)) (by decide) rfl ?_
  intro p e s m args below meth c s₁ B hml hv
  obtain ⟨rfl, hB, hK, hP⟩ := hv
  have hBH := hB.here
  have hx := B.exec
  have hb := B.bytes
  have hr := B.returns
  have hlocks := B.notSynchronized
  have hts : ∀ w ∈ lw_tbl, w.before [.ref (r 0), .int (nI i), .int (nI i2)].toArray s = true := hB.hts _
  have hown : s.vm.findClass "MeasureRowsModel" = some m.cls := findClass_of_methodNamed B.named
  have hl := lv_entry ([.ref (r 0), .int (nI i), .int (nI i2)]) (n := 5) (Nat.le_of_ble_eq_true rfl)
  rw [lg_entry_eq]
  generalize (lg_sl ([.ref (r 0), .int (nI i), .int (nI i2)]) ++ List.replicate (5 - (lg_sl ([.ref (r 0), .int (nI i), .int (nI i2)])).length) Slot.unset).toArray = ls at hl ⊢
  have hl : lv_has ls 5 [(0, .ref (r 0)), (1, .int (nI i)), (2, .int (nI i2))] := hl
  refine lv_aload_n hx hb d_D_beats_0 rfl (lv_at hl 0 rfl) ?_
  refine va_get (D := (dC, dI)) (ci := 3) (v := .ref (r 3)) (C := R_D) (T := T_D) (N := 19) hx hb hts ti_D hown hK hP 0 rfl rfl 3 (by decide) (hts (Cond.fieldLink "MeasureRowsModel" 13 "MeasureRowsModel" "code" "[I") mw_269) (fun _ h9 => h9) rfl d_D_beats_1 ?_
  refine lv_iload_n hx hb d_D_beats_4 rfl (lv_at hl 1 rfl) ?_
  refine va_iald (D := (dC, dI)) hx hb hK hP 1 0 rfl rfl (i := nI i) (nI_in (by have := hM.1; omega) (by decide)) d_D_beats_5 ?_
  refine mr_top (show fco (nI i).toNatClampNeg = fco i from mr_nc (by have := hM.1; omega)) ?_
  refine vp_callSi (va_Run.run (va_runS (As := [.int (fco i)]) (rest := []) ⟨hx, hb, hml, hown, hts⟩ (mc_D_digits l s0 (fco i)) ⟨(mr_cB 1 (hts (Cond.code y_D_digits b_D_digits 1 (some .int)) mw_290) (hts (Cond.initialized y_D_digits.cls) mw_291) (hts (Cond.methodLink "MeasureRowsModel" 91 y_D_digits) mw_292) rfl rfl (by decide +kernel) ⟨Nat.le_of_ble_eq_true rfl, Nat.le_of_ble_eq_true rfl⟩), (hts (Cond.static y_D_digits) mw_293)⟩ (mr_pre0 hBH) rfl rfl hl.1 rfl (lv_room (Nat.le_of_ble_eq_true rfl)) d_D_beats_6 ⟨Nat.le_of_ble_eq_true rfl, Nat.le_of_ble_eq_true rfl⟩)) (fun r_1 h_2 => ?_)
  subst h_2
  refine lv_istore_n (lv' := [(3, .int (mv_D_digits (fco i))), (0, .ref (r 0)), (1, .int (nI i)), (2, .int (nI i2))]) hx hb d_D_beats_9 rfl hl (by decide) rfl (fun ls hl => ?_)
  refine lv_aload_n hx hb d_D_beats_10 rfl (lv_at hl 1 rfl) ?_
  refine va_get (D := (dC, dI)) (ci := 3) (v := .ref (r 3)) (C := R_D) (T := T_D) (N := 19) hx hb hts ti_D hown hK hP 0 rfl rfl 3 (by decide) (hts (Cond.fieldLink "MeasureRowsModel" 13 "MeasureRowsModel" "code" "[I") mw_269) (fun _ h9 => h9) rfl d_D_beats_11 ?_
  refine lv_iload_n hx hb d_D_beats_14 rfl (lv_at hl 3 rfl) ?_
  refine va_iald (D := (dC, dI)) hx hb hK hP 1 0 rfl rfl (i := nI i2) (nI_in (by have := hM.1; omega) (by decide)) d_D_beats_15 ?_
  refine mr_top (show fco (nI i2).toNatClampNeg = fco i2 from mr_nc (by have := hM.1; omega)) ?_
  refine vp_callSi (va_Run.run (va_runS (As := [.int (fco i2)]) (rest := []) ⟨hx, hb, hml, hown, hts⟩ (mc_D_digits l s0 (fco i2)) ⟨(mr_cB 1 (hts (Cond.code y_D_digits b_D_digits 1 (some .int)) mw_290) (hts (Cond.initialized y_D_digits.cls) mw_291) (hts (Cond.methodLink "MeasureRowsModel" 91 y_D_digits) mw_292) rfl rfl (by decide +kernel) ⟨Nat.le_of_ble_eq_true rfl, Nat.le_of_ble_eq_true rfl⟩), (hts (Cond.static y_D_digits) mw_293)⟩ (mr_pre0 hBH) rfl rfl hl.1 rfl (lv_room (Nat.le_of_ble_eq_true rfl)) d_D_beats_16 ⟨Nat.le_of_ble_eq_true rfl, Nat.le_of_ble_eq_true rfl⟩)) (fun r_3 h_4 => ?_)
  subst h_4
  refine lv_istore (lv' := [(4, .int (mv_D_digits (fco i2))), (3, .int (mv_D_digits (fco i))), (0, .ref (r 0)), (1, .int (nI i)), (2, .int (nI i2))]) hx hb d_D_beats_19 hl (by decide) rfl (fun ls hl => ?_)
  refine lv_aload_n hx hb d_D_beats_21 rfl (lv_at hl 2 rfl) ?_
  refine va_get (D := (dC, dI)) (ci := 3) (v := .ref (r 6)) (C := R_D) (T := T_D) (N := 19) hx hb hts ti_D hown hK hP 0 rfl rfl 6 (by decide) (hts (Cond.fieldLink "MeasureRowsModel" 22 "MeasureRowsModel" "kind" "[I") mw_271) (fun _ h9 => h9) rfl d_D_beats_22 ?_
  refine lv_iload_n hx hb d_D_beats_25 rfl (lv_at hl 3 rfl) ?_
  refine va_iald (D := (dC, dI)) hx hb hK hP 2 0 rfl rfl (i := nI i) (nI_in (by have := hM.1; omega) (by decide)) d_D_beats_26 ?_
  refine mr_top (show fki (nI i).toNatClampNeg = fki i from mr_nc (by have := hM.1; omega)) ?_
  refine lv_aload_n hx hb d_D_beats_27 rfl (lv_at hl 2 rfl) ?_
  refine va_get (D := (dC, dI)) (ci := 3) (v := .ref (r 6)) (C := R_D) (T := T_D) (N := 19) hx hb hts ti_D hown hK hP 0 rfl rfl 6 (by decide) (hts (Cond.fieldLink "MeasureRowsModel" 22 "MeasureRowsModel" "kind" "[I") mw_271) (fun _ h9 => h9) rfl d_D_beats_28 ?_
  refine lv_iload_n hx hb d_D_beats_31 rfl (lv_at hl 4 rfl) ?_
  refine va_iald (D := (dC, dI)) hx hb hK hP 2 0 rfl rfl (i := nI i2) (nI_in (by have := hM.1; omega) (by decide)) d_D_beats_32 ?_
  refine mr_top (show fki (nI i2).toNatClampNeg = fki i2 from mr_nc (by have := hM.1; omega)) ?_
  refine lv_icmp_ne (tgt := 67) hx hb d_D_beats_33 (by decide) (fun c_5 => ?_) (fun c_5 => ?_)
  · refine lv_iconst (v := 0) hx hb d_D_beats_67 (by decide) ?_
    exact W.zret (v := 0) hx hb hr (mr_narz mr_b0) (fun t ht _ => ⟨_, rfl, by unfold mv_D_beats; rw [if_neg c_5], ht⟩) (fun _ h => nomatch h) d_D_beats_68
  · refine lv_iload_n hx hb d_D_beats_36 rfl (lv_at hl 1 rfl) ?_
    refine lv_iload hx hb d_D_beats_37 (lv_at hl 0 rfl) ?_
    refine lv_icmp_gt (tgt := 63) hx hb d_D_beats_39 (by decide) (fun c_6 => ?_) (fun c_6 => ?_)
    · refine lv_iconst (v := 1) hx hb d_D_beats_63 (by decide) ?_
      refine lv_goto (tgt := 68) hx hb d_D_beats_64 (by decide) ?_
      exact W.zret (v := 1) hx hb hr (mr_narz mr_b1) (fun t ht _ => ⟨_, rfl, by unfold mv_D_beats; rw [if_pos c_5, if_pos c_6], ht⟩) (fun _ h => nomatch h) d_D_beats_68
    · refine lv_iload_n hx hb d_D_beats_42 rfl (lv_at hl 1 rfl) ?_
      refine lv_iload hx hb d_D_beats_43 (lv_at hl 0 rfl) ?_
      refine lv_icmp_ne (tgt := 67) hx hb d_D_beats_45 (by decide) (fun c_7 => ?_) (fun c_7 => ?_)
      · refine lv_iconst (v := 0) hx hb d_D_beats_67 (by decide) ?_
        exact W.zret (v := 0) hx hb hr (mr_narz mr_b0) (fun t ht _ => ⟨_, rfl, by unfold mv_D_beats; rw [if_pos c_5, if_neg c_6, if_neg c_7], ht⟩) (fun _ h => nomatch h) d_D_beats_68
      · refine lv_aload_n hx hb d_D_beats_48 rfl (lv_at hl 2 rfl) ?_
        refine va_get (D := (dC, dI)) (ci := 3) (v := .ref (r 7)) (C := R_D) (T := T_D) (N := 19) hx hb hts ti_D hown hK hP 0 rfl rfl 7 (by decide) (hts (Cond.fieldLink "MeasureRowsModel" 25 "MeasureRowsModel" "rank" "[I") mw_272) (fun _ h9 => h9) rfl d_D_beats_49 ?_
        refine lv_iload_n hx hb d_D_beats_52 rfl (lv_at hl 3 rfl) ?_
        refine va_iald (D := (dC, dI)) hx hb hK hP 3 0 rfl rfl (i := nI i) (nI_in (by have := hM.1; omega) (by decide)) d_D_beats_53 ?_
        refine mr_top (show fra (nI i).toNatClampNeg = fra i from mr_nc (by have := hM.1; omega)) ?_
        refine lv_aload_n hx hb d_D_beats_54 rfl (lv_at hl 2 rfl) ?_
        refine va_get (D := (dC, dI)) (ci := 3) (v := .ref (r 7)) (C := R_D) (T := T_D) (N := 19) hx hb hts ti_D hown hK hP 0 rfl rfl 7 (by decide) (hts (Cond.fieldLink "MeasureRowsModel" 25 "MeasureRowsModel" "rank" "[I") mw_272) (fun _ h9 => h9) rfl d_D_beats_55 ?_
        refine lv_iload_n hx hb d_D_beats_58 rfl (lv_at hl 4 rfl) ?_
        refine va_iald (D := (dC, dI)) hx hb hK hP 3 0 rfl rfl (i := nI i2) (nI_in (by have := hM.1; omega) (by decide)) d_D_beats_59 ?_
        refine mr_top (show fra (nI i2).toNatClampNeg = fra i2 from mr_nc (by have := hM.1; omega)) ?_
        refine lv_icmp_le (tgt := 67) hx hb d_D_beats_60 (by decide) (fun c_8 => ?_) (fun c_8 => ?_)
        · refine lv_iconst (v := 0) hx hb d_D_beats_67 (by decide) ?_
          exact W.zret (v := 0) hx hb hr (mr_narz mr_b0) (fun t ht _ => ⟨_, rfl, by unfold mv_D_beats; rw [if_pos c_5, if_neg c_6, if_pos c_7, if_pos c_8], ht⟩) (fun _ h => nomatch h) d_D_beats_68
        · refine lv_iconst (v := 1) hx hb d_D_beats_63 (by decide) ?_
          refine lv_goto (tgt := 68) hx hb d_D_beats_64 (by decide) ?_
          exact W.zret (v := 1) hx hb hr (mr_narz mr_b1) (fun t ht _ => ⟨_, rfl, by unfold mv_D_beats; rw [if_pos c_5, if_neg c_6, if_pos c_7, if_neg c_8], ht⟩) (fun _ h => nomatch h) d_D_beats_68
/-- good: of them, and its papers are there -/
def mv_gd (fm fco fla ffi fkn fls fpa fe fa fk : Nat → Int32) (pb a0 a1 a2 a3 : Int32) (m : Nat) : Int32 := if (mv_D_isOf fm fco fla ffi fkn fls fe fa fk (m + 1) a0 a1 a2 a3) = 0 then 0 else if (fpa (m + 1)) = 0 then 1 else if ((fpa (m + 1)) &&& pb) = 0 then 0 else 1
/-- x beats m -/
def mv_bx (G fco fki fra : Nat → Int32) (m x : Nat) : Int32 := if G x = 0 then 0 else mv_D_beats fco fki fra (x + 1) (m + 1)
def mv_ur (G fco fki fra : Nat → Int32) (n m : Nat) : Int32 := if G m = 0 then 0 else if mr_kd fki m < 4 then (if mr_cnt (mv_bx G fco fki fra m) n = 0 then 1 else 0) else 1
theorem mr_gds {G go : Nat → Int32} {y : Nat} {v : Int32} (hy : y < 80) (h : ∀ m, m < y → go (m + 1) = G m) (hv : v = G y) : ∀ m, m < y + 1 → upd go (nI (y + 1)).toNatClampNeg v (m + 1) = G m := fun m hm => by
  rw [nI_clamp (by omega)]
  by_cases e : m = y
  · subst e; simp [upd, hv]
  · have : upd go (y + 1) v (m + 1) = go (m + 1) := by simp [upd, e]
    rw [this]; exact h m (by omega)
section BX
variable {P : Nat → Int32} {x : Nat} {s : Int32}
theorem mr_bxA (h : s = if mr_cnt P x = 0 then 1 else 0) (c : s = 0) : (0 : Int32) = if mr_cnt P (x + 1) = 0 then 1 else 0 := by
  by_cases e : mr_cnt P x = 0
  · rw [if_pos e] at h; rw [c] at h; exact absurd h (by decide)
  · have := mr_cnt_mono P (m := x) 1
    rw [if_neg (by omega)]
theorem mr_bxZ (h : s = if mr_cnt P x = 0 then 1 else 0) (c : ¬ s = 0) (hz : P x = 0) : (1 : Int32) = if mr_cnt P (x + 1) = 0 then 1 else 0 := by
  rw [mr_cnt_n hz]
  by_cases e : mr_cnt P x = 0
  · rw [if_pos e]
  · rw [if_neg e] at h; exact absurd h c
theorem mr_bxY (hy : ¬ P x = 0) : (0 : Int32) = if mr_cnt P (x + 1) = 0 then 1 else 0 := by
  rw [mr_cnt_y hy, if_neg (by omega)]
end BX
theorem mr_totU (U : Nat → Int32) (kd : Nat → Nat) {n M : Nat} (j : Nat) (hM : M ≤ n) : mr_tot U kd n j + mr_cnt (mr_ofk U kd j) M ≤ n := by
  have a := mr_tot_le U kd n (j + 1)
  have b := mr_cnt_mono (mr_ofk U kd j) (m := M) (n - M)
  rw [show M + (n - M) = n by omega] at b
  have c := mr_cnt_le (fun m => if kd m < j + 1 then U m else 0) n
  have d : mr_tot U kd n (j + 1) = mr_tot U kd n j + mr_cnt (mr_ofk U kd j) n := rfl
  omega
section UR
variable {G fco fki fra : Nat → Int32} {n i j : Nat} {s : Int32}
theorem mr_urG (h : G i = 0) : mr_ofk (mv_ur G fco fki fra n) (mr_kd fki) j i = 0 := by
  unfold mr_ofk mv_ur
  rw [if_pos h]
  split <;> rfl
theorem mr_urK (h : ¬ mr_kd fki i = j) : mr_ofk (mv_ur G fco fki fra n) (mr_kd fki) j i = 0 := by
  unfold mr_ofk; rw [if_neg h]
theorem mr_ur4 {x : Nat} (hG : ¬ G i = 0) (hk : mr_kd fki i = j) (h4 : ¬ j < 4) (h0 : x = 0 ∨ j < 4) (h : s = if mr_cnt (mv_bx G fco fki fra i) x = 0 then 1 else 0) : s = mv_ur G fco fki fra n i := by
  obtain rfl : x = 0 := h0.resolve_right h4
  unfold mv_ur
  rw [if_neg hG, hk, if_neg h4, h]
  rfl
theorem mr_urN (hG : ¬ G i = 0) (hk : mr_kd fki i = j) (h4 : j < 4) (h : s = if mr_cnt (mv_bx G fco fki fra i) n = 0 then 1 else 0) : s = mv_ur G fco fki fra n i := by
  unfold mv_ur
  rw [if_neg hG, hk, if_pos h4, h]
theorem mr_urS (hk : mr_kd fki i = j) (h : s = mv_ur G fco fki fra n i) : mr_ofk (mv_ur G fco fki fra n) (mr_kd fki) j i = s := by
  unfold mr_ofk; rw [if_pos hk, h]
end UR
theorem mr_kdj {fki : Nat → Int32} {i j : Nat} (h : fki (i + 1) = nI j) (hj : j < 8) : mr_kd fki i = j := mr_kd_eq h hj
def mt_D_apply (a0 a1 a2 a3 : Int32) : Int32 := if (mv_D_digits a0) = 6 then (if (mv_D_isLand a1) = 0 then 1 else if (mv_D_isDay a2) = 0 then 1 else if (mv_D_isDay a3) = 0 then 1 else 0) else 1
def mv_D_apply (n : Nat) (pb : Int32) (fm fco fla ffi fki fra fkn fls fpa fe fa fk : Nat → Int32) (a0 a1 a2 a3 : Int32) : Int32 := if mt_D_apply a0 a1 a2 a3 = 0 then nI (mr_tot (mv_ur (mv_gd fm fco fla ffi fkn fls fpa fe fa fk pb a0 a1 a2 a3) fco fki fra n) (mr_kd fki) n 8) else 0

def mN_D_papers_th  (a0 : Int32) : Int32 := 0
def mN_D_papers_pb  (a0 : Int32) : Int32 := (a0 &&& 65535)
set_option maxHeartbeats 4000000 in
set_option maxRecDepth 100000 in
theorem mc_D_papersX (l : Launch) (s0 : State) (dC : Nat → ClassId) (dI : Nat → Nat → Nat) (cI cR cL cZ : ClassId) (r : Nat → Nat) (th nw pb lc : Int32) (n : Nat)  (sz : Nat) (a0 : Int32)  : Met l y_D_papers [Cond.code y_D_papers b_D_papers 2 none] ({ frames := 0, cells := 0, slots := 0, locals := 0 }) (mr_PC s0 (dC, dI) [(cI, .int), (cR, .object "MeasureRows$Row"), (cL, .long), (cZ, .boolean)] [.ref (r 0), .int a0] [((r 0), .inr (3, mf_D r th (nI n) nw pb lc))] sz) (va_Qv (fun _ => True) (fun (u : Unit) t => ∃ (th9 : Int32) (pb9 : Int32), mr_W (dC, dI) [(cI, .int), (cR, .object "MeasureRows$Row"), (cL, .long), (cZ, .boolean)] (va_A [((r 0), .inr (3, mf_D r th (nI n) nw pb lc))] sz) [((r 0), .inr (3, mf_D r th9 (nI n) nw pb9 lc))] t ∧ th9 = (mN_D_papers_th a0) ∧ pb9 = (mN_D_papers_pb a0)) (va_A [((r 0), .inr (3, mf_D r th (nI n) nw pb lc))] sz)) 0 0 (va_A [((r 0), .inr (3, mf_D r th (nI n) nw pb lc))] sz) := by
  refine Met.ofW (cc := b_D_papers) (maxL := 2) (ret := none) (by decide) rfl ?_
  intro p e s m args below meth c s₁ B hml hv
  obtain ⟨rfl, hsz, hB, hK, hP, hD0⟩ := hv
  subst hsz
  have hA0 := mr_A hB hD0
  have hD := hD0.self (sz := s.heap.size)
  generalize hAe : va_A [((r 0), .inr (3, mf_D r th (nI n) nw pb lc))] s.heap.size = A at hD hA0 ⊢
  have hA : ∀ q : Nat, s.heap.size ≤ q → A q := fun q h => by rw [← hAe]; exact Or.inr h
  have hS : va_S A s.heap s.heap [] := va_S.rf
  have hP : va_P (dC, dI) mr_cl [((r 0), .inr (3, mf_D r th (nI n) nw pb lc))] s.heap := hP
  have hBH := hB.at hS hA0
  have hx := B.exec
  have hb := B.bytes
  have hr := B.returns
  have hlocks := B.notSynchronized
  have hts : ∀ w ∈ lw_tbl, w.before [.ref (r 0), .int a0].toArray s = true := hB.hts _
  have hown : s.vm.findClass "MeasureRowsModel" = some m.cls := findClass_of_methodNamed B.named
  have hl := lv_entry ([.ref (r 0), .int a0]) (n := 2) (Nat.le_of_ble_eq_true rfl)
  rw [lg_entry_eq]
  generalize (lg_sl ([.ref (r 0), .int a0]) ++ List.replicate (2 - (lg_sl ([.ref (r 0), .int a0])).length) Slot.unset).toArray = ls at hl ⊢
  have hl : lv_has ls 2 [(0, .ref (r 0)), (1, .int a0)] := hl
  refine lv_aload_n hx hb d_D_papers_0 rfl (lv_at hl 0 rfl) ?_
  refine lv_iconst (v := 0) hx hb d_D_papers_1 (by decide) ?_
  refine va_put (D := (dC, dI)) (ci := 3) (v := .int 0) (ty := .int) (C := R_D) (T := T_D) (N := 19) hx hb hts ti_D t_D to_D tn_D hown hK hP hD hS 0 rfl rfl 0 (by decide) (hts (Cond.fieldLink "MeasureRowsModel" 53 "MeasureRowsModel" "thrown" "I") mw_295) (fun _ h9 => h9) rfl (by decide +kernel) rfl rfl (Nat.le_of_ble_eq_true rfl) d_D_papers_2 (fun H locs hP hD hS => ?_)
  have hP : va_P (dC, dI) mr_cl [((r 0), .inr (3, mf_D r 0 (nI n) nw pb lc))] H := hP
  have hD : va_D A [((r 0), .inr (3, mf_D r 0 (nI n) nw pb lc))] := hD
  have hBH := hB.at hS hA0
  refine lv_aload_n hx hb d_D_papers_5 rfl (lv_at hl 0 rfl) ?_
  refine lv_iload_n hx hb d_D_papers_6 rfl (lv_at hl 1 rfl) ?_
  refine lv_ldc (v := 65535) hx hb hown (hts (Cond.constant "MeasureRowsModel" 110 65535) mw_310) d_D_papers_7 ?_
  refine lv_iand hx hb d_D_papers_9 ?_
  refine va_put (D := (dC, dI)) (ci := 3) (v := .int (a0 &&& 65535)) (ty := .int) (C := R_D) (T := T_D) (N := 19) hx hb hts ti_D t_D to_D tn_D hown hK hP hD hS 0 rfl rfl 15 (by decide) (hts (Cond.fieldLink "MeasureRowsModel" 111 "MeasureRowsModel" "there" "I") mw_311) (fun _ h9 => h9) rfl (by decide +kernel) rfl rfl (Nat.le_of_ble_eq_true rfl) d_D_papers_10 (fun H locs hP hD hS => ?_)
  have hP : va_P (dC, dI) mr_cl [((r 0), .inr (3, mf_D r 0 (nI n) nw (a0 &&& 65535) lc))] H := hP
  have hD : va_D A [((r 0), .inr (3, mf_D r 0 (nI n) nw (a0 &&& 65535) lc))] := hD
  have hBH := hB.at hS hA0
  have hP9 := hP.sub (ws' := [((r 0), .inr (3, mf_D r 0 (nI n) nw (a0 &&& 65535) lc))]) [0] rfl
  have hD9 := hD.sub (ws' := [((r 0), .inr (3, mf_D r 0 (nI n) nw (a0 &&& 65535) lc))]) [0] (by decide) rfl
  exact W.vret hx hb hr (fun t ht hW => ⟨⟨(), rfl, trivial, 0, (a0 &&& 65535), ⟨by rw [ht]; exact hP9, va_K.moved hW.alike hK, hD9⟩, (rfl), (rfl)⟩, hS.F ht⟩) hS.2.2 d_D_papers_13
theorem mr_kdn {n i j : Nat} {fki : Nat → Int32} (h : ∀ i, i < n → ∃ k, fki (i + 1) = nI k ∧ k < 8) (hi : i < n) (hj : j < 8) (c : ¬ fki (i + 1) = nI j) : ¬ mr_kd fki i = j := fun e => by
  obtain ⟨k, ek, k8⟩ := h i hi
  rw [mr_kd_eq ek k8] at e
  exact c (by rw [ek, e])
theorem mr_j4 {j : Nat} (h : ¬ 4 ≤ nI j) (hj : j < 8) : j < 4 := Classical.byContradiction fun g => h (nI_le (a := 4) (by omega) (by omega))
theorem mr_j4n {j : Nat} (h : 4 ≤ nI j) : ¬ j < 4 := fun g => absurd h (nI_ge (b := 4) g (by decide))
set_option maxHeartbeats 4000000 in
set_option maxRecDepth 100000 in
theorem mc_D_applyX (l : Launch) (s0 : State) (dC : Nat → ClassId) (dI : Nat → Nat → Nat) (cI cR cL cZ : ClassId) (r : Nat → Nat) (th nw pb : Int32) (qc : Nat) (n : Nat) (fm fco fla ffi fki fra fkn fls fpa fe fa fk fli fgo : Nat → Int32) (sz : Nat) (a0 : Int32) (a1 : Int32) (a2 : Int32) (a3 : Int32) (hq : qc ≤ 80) (hN8 : ∀ i, i < n → ∃ k, fki (i + 1) = nI k ∧ k < 8) (hM : mr_MI n fe fco) : Met l y_D_apply [Cond.code y_D_apply b_D_apply 9 (some .int)] ({ frames := 4, cells := 0, slots := 0, locals := 89 }) (mr_PC s0 (dC, dI) [(cI, .int), (cR, .object "MeasureRows$Row"), (cL, .long), (cZ, .boolean)] [.ref (r 0), .int a0, .int a1, .int a2, .int a3] [((r 0), .inr (3, mf_D r th (nI n) nw pb (nI qc))), ((r 1), .inl (cI, 8, .inl fm)), ((r 3), .inl (cI, 81, .inl fco)), ((r 4), .inl (cI, 81, .inl fla)), ((r 5), .inl (cI, 81, .inl ffi)), ((r 6), .inl (cI, 81, .inl fki)), ((r 7), .inl (cI, 81, .inl fra)), ((r 8), .inl (cI, 81, .inl fkn)), ((r 9), .inl (cI, 81, .inl fls)), ((r 10), .inl (cI, 81, .inl fpa)), ((r 11), .inl (cI, 81, .inl fe)), ((r 12), .inl (cI, 648, .inl fa)), ((r 13), .inl (cI, 648, .inl fk)), ((r 16), .inl (cI, 80, .inl fli)), ((r 18), .inl (cZ, 81, .inl fgo))] sz) (va_Qi (fun rr _ => rr = mv_D_apply n pb fm fco fla ffi fki fra fkn fls fpa fe fa fk a0 a1 a2 a3) (fun (u : Unit) t => ∃ (th9 : Int32) (q9 : Nat) (fli9 fgo9 : Nat → Int32), mr_W (dC, dI) [(cI, .int), (cR, .object "MeasureRows$Row"), (cL, .long), (cZ, .boolean)] (va_A [((r 0), .inr (3, mf_D r th (nI n) nw pb (nI qc))), ((r 1), .inl (cI, 8, .inl fm)), ((r 3), .inl (cI, 81, .inl fco)), ((r 4), .inl (cI, 81, .inl fla)), ((r 5), .inl (cI, 81, .inl ffi)), ((r 6), .inl (cI, 81, .inl fki)), ((r 7), .inl (cI, 81, .inl fra)), ((r 8), .inl (cI, 81, .inl fkn)), ((r 9), .inl (cI, 81, .inl fls)), ((r 10), .inl (cI, 81, .inl fpa)), ((r 11), .inl (cI, 81, .inl fe)), ((r 12), .inl (cI, 648, .inl fa)), ((r 13), .inl (cI, 648, .inl fk)), ((r 16), .inl (cI, 80, .inl fli)), ((r 18), .inl (cZ, 81, .inl fgo))] sz) [((r 0), .inr (3, mf_D r th9 (nI n) nw pb (nI q9))), ((r 1), .inl (cI, 8, .inl fm)), ((r 3), .inl (cI, 81, .inl fco)), ((r 4), .inl (cI, 81, .inl fla)), ((r 5), .inl (cI, 81, .inl ffi)), ((r 6), .inl (cI, 81, .inl fki)), ((r 7), .inl (cI, 81, .inl fra)), ((r 8), .inl (cI, 81, .inl fkn)), ((r 9), .inl (cI, 81, .inl fls)), ((r 10), .inl (cI, 81, .inl fpa)), ((r 11), .inl (cI, 81, .inl fe)), ((r 12), .inl (cI, 648, .inl fa)), ((r 13), .inl (cI, 648, .inl fk)), ((r 16), .inl (cI, 80, .inl fli9)), ((r 18), .inl (cZ, 81, .inl fgo9))] t ∧ q9 ≤ 80 ∧ th9 = mt_D_apply a0 a1 a2 a3) (va_A [((r 0), .inr (3, mf_D r th (nI n) nw pb (nI qc))), ((r 1), .inl (cI, 8, .inl fm)), ((r 3), .inl (cI, 81, .inl fco)), ((r 4), .inl (cI, 81, .inl fla)), ((r 5), .inl (cI, 81, .inl ffi)), ((r 6), .inl (cI, 81, .inl fki)), ((r 7), .inl (cI, 81, .inl fra)), ((r 8), .inl (cI, 81, .inl fkn)), ((r 9), .inl (cI, 81, .inl fls)), ((r 10), .inl (cI, 81, .inl fpa)), ((r 11), .inl (cI, 81, .inl fe)), ((r 12), .inl (cI, 648, .inl fa)), ((r 13), .inl (cI, 648, .inl fk)), ((r 16), .inl (cI, 80, .inl fli)), ((r 18), .inl (cZ, 81, .inl fgo))] sz)) 0 0 (va_A [((r 0), .inr (3, mf_D r th (nI n) nw pb (nI qc))), ((r 1), .inl (cI, 8, .inl fm)), ((r 3), .inl (cI, 81, .inl fco)), ((r 4), .inl (cI, 81, .inl fla)), ((r 5), .inl (cI, 81, .inl ffi)), ((r 6), .inl (cI, 81, .inl fki)), ((r 7), .inl (cI, 81, .inl fra)), ((r 8), .inl (cI, 81, .inl fkn)), ((r 9), .inl (cI, 81, .inl fls)), ((r 10), .inl (cI, 81, .inl fpa)), ((r 11), .inl (cI, 81, .inl fe)), ((r 12), .inl (cI, 648, .inl fa)), ((r 13), .inl (cI, 648, .inl fk)), ((r 16), .inl (cI, 80, .inl fli)), ((r 18), .inl (cZ, 81, .inl fgo))] sz) := by
  refine Met.ofW (cc := b_D_apply) (maxL := 9) (ret := (some .int)) (by decide) rfl ?_
  intro p e s m args below meth c s₁ B hml hv
  obtain ⟨rfl, hsz, hB, hK, hP, hD0⟩ := hv
  subst hsz
  have hA0 := mr_A hB hD0
  have hD := hD0.self (sz := s.heap.size)
  generalize hAe : va_A [((r 0), .inr (3, mf_D r th (nI n) nw pb (nI qc))), ((r 1), .inl (cI, 8, .inl fm)), ((r 3), .inl (cI, 81, .inl fco)), ((r 4), .inl (cI, 81, .inl fla)), ((r 5), .inl (cI, 81, .inl ffi)), ((r 6), .inl (cI, 81, .inl fki)), ((r 7), .inl (cI, 81, .inl fra)), ((r 8), .inl (cI, 81, .inl fkn)), ((r 9), .inl (cI, 81, .inl fls)), ((r 10), .inl (cI, 81, .inl fpa)), ((r 11), .inl (cI, 81, .inl fe)), ((r 12), .inl (cI, 648, .inl fa)), ((r 13), .inl (cI, 648, .inl fk)), ((r 16), .inl (cI, 80, .inl fli)), ((r 18), .inl (cZ, 81, .inl fgo))] s.heap.size = A at hD hA0 ⊢
  have hA : ∀ q : Nat, s.heap.size ≤ q → A q := fun q h => by rw [← hAe]; exact Or.inr h
  have hS : va_S A s.heap s.heap [] := va_S.rf
  have hP : va_P (dC, dI) mr_cl [((r 0), .inr (3, mf_D r th (nI n) nw pb (nI qc))), ((r 1), .inl (cI, 8, .inl fm)), ((r 3), .inl (cI, 81, .inl fco)), ((r 4), .inl (cI, 81, .inl fla)), ((r 5), .inl (cI, 81, .inl ffi)), ((r 6), .inl (cI, 81, .inl fki)), ((r 7), .inl (cI, 81, .inl fra)), ((r 8), .inl (cI, 81, .inl fkn)), ((r 9), .inl (cI, 81, .inl fls)), ((r 10), .inl (cI, 81, .inl fpa)), ((r 11), .inl (cI, 81, .inl fe)), ((r 12), .inl (cI, 648, .inl fa)), ((r 13), .inl (cI, 648, .inl fk)), ((r 16), .inl (cI, 80, .inl fli)), ((r 18), .inl (cZ, 81, .inl fgo))] s.heap := hP
  have hBH := hB.at hS hA0
  have hx := B.exec
  have hb := B.bytes
  have hr := B.returns
  have hlocks := B.notSynchronized
  have hts : ∀ w ∈ lw_tbl, w.before [.ref (r 0), .int a0, .int a1, .int a2, .int a3].toArray s = true := hB.hts _
  have hown : s.vm.findClass "MeasureRowsModel" = some m.cls := findClass_of_methodNamed B.named
  have hl := lv_entry ([.ref (r 0), .int a0, .int a1, .int a2, .int a3]) (n := 9) (Nat.le_of_ble_eq_true rfl)
  rw [lg_entry_eq]
  generalize (lg_sl ([.ref (r 0), .int a0, .int a1, .int a2, .int a3]) ++ List.replicate (9 - (lg_sl ([.ref (r 0), .int a0, .int a1, .int a2, .int a3])).length) Slot.unset).toArray = ls at hl ⊢
  have hl : lv_has ls 9 [(0, .ref (r 0)), (1, .int a0), (2, .int a1), (3, .int a2), (4, .int a3)] := hl
  refine lv_iload_n hx hb d_D_apply_0 rfl (lv_at hl 1 rfl) ?_
  refine vp_callSi (va_Run.run (va_runS (As := [.int a0]) (rest := []) ⟨hx, hb, hml, hown, hts⟩ (mc_D_digits l s0 a0) ⟨(mr_cB 1 (hts (Cond.code y_D_digits b_D_digits 1 (some .int)) mw_290) (hts (Cond.initialized y_D_digits.cls) mw_291) (hts (Cond.methodLink "MeasureRowsModel" 91 y_D_digits) mw_292) rfl rfl (by decide +kernel) ⟨Nat.le_of_ble_eq_true rfl, Nat.le_of_ble_eq_true rfl⟩), (hts (Cond.static y_D_digits) mw_293)⟩ (mr_pre0 hBH) rfl rfl hl.1 rfl (lv_room (Nat.le_of_ble_eq_true rfl)) d_D_apply_1 ⟨Nat.le_of_ble_eq_true rfl, Nat.le_of_ble_eq_true rfl⟩)) (fun r_1 h_2 => ?_)
  subst h_2
  refine lv_bipush (v := 6) hx hb d_D_apply_4 (by decide) ?_
  refine lv_icmp_ne (tgt := 31) hx hb d_D_apply_6 (by decide) (fun c_3 => ?_) (fun c_3 => ?_)
  · refine lv_aload_n hx hb d_D_apply_31 rfl (lv_at hl 0 rfl) ?_
    refine lv_iconst (v := 1) hx hb d_D_apply_32 (by decide) ?_
    have hPc := hP.sub (ws' := [((r 0), .inr (3, mf_D r th (nI n) nw pb (nI qc)))]) [0] rfl
    have hDc := hD.sub (ws' := [((r 0), .inr (3, mf_D r th (nI n) nw pb (nI qc)))]) [0] (by decide) rfl
    have hFc := va_free (wc := [((r 0), .inr (3, mf_D r th (nI n) nw pb (nI qc)))]) hD hS hA [0] rfl
    refine va_calli (va_runV (As := [.int 1]) (rest := []) (C := R_D) ⟨hx, hb, hml, hown, hts⟩ (mc_D_fails l s0 dC dI cI cR cL cZ r th (nI n) nw pb (nI qc) _ 1) ⟨(mr_cB 1 (hts (Cond.code y_D_fails b_D_fails 2 (some .int)) mw_318) (hts (Cond.initialized y_D_fails.cls) mw_319) (hts (Cond.methodLink "MeasureRowsModel" 97 y_D_fails) mw_320) rfl rfl (by decide +kernel) ⟨Nat.le_of_ble_eq_true rfl, Nat.le_of_ble_eq_true rfl⟩), (hts (Cond.instanceMethod y_D_fails) mw_321), (hts (Cond.selects "MeasureRowsModel" y_D_fails y_D_fails) mw_322)⟩ (mr_preCV hBH hK hPc (hDc.weaken (fun _ _ _ h => hA0 _ h)) (ci := 3) (q0 := 0) rfl rfl) rfl rfl hl.1 rfl (lv_room (Nat.le_of_ble_eq_true rfl)) d_D_apply_33 ⟨Nat.le_of_ble_eq_true rfl, Nat.le_of_ble_eq_true rfl⟩) hS (fun q _ h => hFc q h) hFc (fun r_4 u_5 t H1 locs ht hvm hw hB1 hz1 hk1 hS => ?_)
    obtain ⟨hP1, hK1, hD1⟩ := hB1
    rw [ht] at hP1
    obtain ⟨hP, hD⟩ := va_join (wr := [((r 1), .inl (cI, 8, .inl fm)), ((r 3), .inl (cI, 81, .inl fco)), ((r 4), .inl (cI, 81, .inl fla)), ((r 5), .inl (cI, 81, .inl ffi)), ((r 6), .inl (cI, 81, .inl fki)), ((r 7), .inl (cI, 81, .inl fra)), ((r 8), .inl (cI, 81, .inl fkn)), ((r 9), .inl (cI, 81, .inl fls)), ((r 10), .inl (cI, 81, .inl fpa)), ((r 11), .inl (cI, 81, .inl fe)), ((r 12), .inl (cI, 648, .inl fa)), ((r 13), .inl (cI, 648, .inl fk)), ((r 16), .inl (cI, 80, .inl fli)), ((r 18), .inl (cZ, 81, .inl fgo))]) (w1 := [((r 0), .inr (3, mf_D r 1 (nI n) nw pb (nI qc)))]) hP hD [0] [1, 2, 3, 4, 5, 6, 7, 8, 9, 10, 11, 12, 13, 14] rfl rfl (by decide) (by decide) hk1 hFc hP1 hD1
    clear hK1 hk1 hPc hDc hFc
    generalize H1 = H at hP hS ht ⊢
    have hP : va_P (dC, dI) mr_cl [((r 1), .inl (cI, 8, .inl fm)), ((r 3), .inl (cI, 81, .inl fco)), ((r 4), .inl (cI, 81, .inl fla)), ((r 5), .inl (cI, 81, .inl ffi)), ((r 6), .inl (cI, 81, .inl fki)), ((r 7), .inl (cI, 81, .inl fra)), ((r 8), .inl (cI, 81, .inl fkn)), ((r 9), .inl (cI, 81, .inl fls)), ((r 10), .inl (cI, 81, .inl fpa)), ((r 11), .inl (cI, 81, .inl fe)), ((r 12), .inl (cI, 648, .inl fa)), ((r 13), .inl (cI, 648, .inl fk)), ((r 16), .inl (cI, 80, .inl fli)), ((r 18), .inl (cZ, 81, .inl fgo)), ((r 0), .inr (3, mf_D r 1 (nI n) nw pb (nI qc)))] H := hP
    have hD : va_D A [((r 1), .inl (cI, 8, .inl fm)), ((r 3), .inl (cI, 81, .inl fco)), ((r 4), .inl (cI, 81, .inl fla)), ((r 5), .inl (cI, 81, .inl ffi)), ((r 6), .inl (cI, 81, .inl fki)), ((r 7), .inl (cI, 81, .inl fra)), ((r 8), .inl (cI, 81, .inl fkn)), ((r 9), .inl (cI, 81, .inl fls)), ((r 10), .inl (cI, 81, .inl fpa)), ((r 11), .inl (cI, 81, .inl fe)), ((r 12), .inl (cI, 648, .inl fa)), ((r 13), .inl (cI, 648, .inl fk)), ((r 16), .inl (cI, 80, .inl fli)), ((r 18), .inl (cZ, 81, .inl fgo)), ((r 0), .inr (3, mf_D r 1 (nI n) nw pb (nI qc)))] := hD
    have hBH := hB.at hS hA0
    obtain rfl : r_4 = 0 := hw
    have hP9 := hP.sub (ws' := [((r 0), .inr (3, mf_D r 1 (nI n) nw pb (nI qc))), ((r 1), .inl (cI, 8, .inl fm)), ((r 3), .inl (cI, 81, .inl fco)), ((r 4), .inl (cI, 81, .inl fla)), ((r 5), .inl (cI, 81, .inl ffi)), ((r 6), .inl (cI, 81, .inl fki)), ((r 7), .inl (cI, 81, .inl fra)), ((r 8), .inl (cI, 81, .inl fkn)), ((r 9), .inl (cI, 81, .inl fls)), ((r 10), .inl (cI, 81, .inl fpa)), ((r 11), .inl (cI, 81, .inl fe)), ((r 12), .inl (cI, 648, .inl fa)), ((r 13), .inl (cI, 648, .inl fk)), ((r 16), .inl (cI, 80, .inl fli)), ((r 18), .inl (cZ, 81, .inl fgo))]) [14, 0, 1, 2, 3, 4, 5, 6, 7, 8, 9, 10, 11, 12, 13] rfl
    have hD9 := hD.sub (ws' := [((r 0), .inr (3, mf_D r 1 (nI n) nw pb (nI qc))), ((r 1), .inl (cI, 8, .inl fm)), ((r 3), .inl (cI, 81, .inl fco)), ((r 4), .inl (cI, 81, .inl fla)), ((r 5), .inl (cI, 81, .inl ffi)), ((r 6), .inl (cI, 81, .inl fki)), ((r 7), .inl (cI, 81, .inl fra)), ((r 8), .inl (cI, 81, .inl fkn)), ((r 9), .inl (cI, 81, .inl fls)), ((r 10), .inl (cI, 81, .inl fpa)), ((r 11), .inl (cI, 81, .inl fe)), ((r 12), .inl (cI, 648, .inl fa)), ((r 13), .inl (cI, 648, .inl fk)), ((r 16), .inl (cI, 80, .inl fli)), ((r 18), .inl (cZ, 81, .inl fgo))]) [14, 0, 1, 2, 3, 4, 5, 6, 7, 8, 9, 10, 11, 12, 13] (by decide) rfl
    have hth : mt_D_apply a0 a1 a2 a3 = 1 := by unfold mt_D_apply; rw [if_neg c_3]
    exact W.iret (v := 0) hx hb hr (fun t ht hW => ⟨⟨_, (), rfl, (by unfold mv_D_apply; rw [if_neg (by rw [hth]; decide)]), 1, qc, fli, fgo, ⟨by rw [ht]; exact hP9, va_K.moved hW.alike hK, hD9⟩, hq, hth.symm⟩, hS.F ht⟩) hS.2.2 d_D_apply_36
  · refine lv_iload_n hx hb d_D_apply_9 rfl (lv_at hl 2 rfl) ?_
    refine vp_callSi (va_Run.run (va_runS (As := [.int a1]) (rest := []) ⟨hx, hb, hml, hown, hts⟩ (mc_D_isLand l s0 a1) ⟨(mr_cB 1 (hts (Cond.code y_D_isLand b_D_isLand 1 (some .boolean)) mw_301) (hts (Cond.initialized y_D_isLand.cls) mw_302) (hts (Cond.methodLink "MeasureRowsModel" 71 y_D_isLand) mw_303) rfl rfl (by decide +kernel) ⟨Nat.le_of_ble_eq_true rfl, Nat.le_of_ble_eq_true rfl⟩), (hts (Cond.static y_D_isLand) mw_304)⟩ (mr_pre0 hBH) rfl rfl hl.1 rfl (lv_room (Nat.le_of_ble_eq_true rfl)) d_D_apply_10 ⟨Nat.le_of_ble_eq_true rfl, Nat.le_of_ble_eq_true rfl⟩)) (fun r_6 h_7 => ?_)
    subst h_7
    refine lv_if_eq (tgt := 31) hx hb d_D_apply_13 (by decide) (fun c_8 => ?_) (fun c_8 => ?_)
    · refine lv_aload_n hx hb d_D_apply_31 rfl (lv_at hl 0 rfl) ?_
      refine lv_iconst (v := 1) hx hb d_D_apply_32 (by decide) ?_
      have hPc := hP.sub (ws' := [((r 0), .inr (3, mf_D r th (nI n) nw pb (nI qc)))]) [0] rfl
      have hDc := hD.sub (ws' := [((r 0), .inr (3, mf_D r th (nI n) nw pb (nI qc)))]) [0] (by decide) rfl
      have hFc := va_free (wc := [((r 0), .inr (3, mf_D r th (nI n) nw pb (nI qc)))]) hD hS hA [0] rfl
      refine va_calli (va_runV (As := [.int 1]) (rest := []) (C := R_D) ⟨hx, hb, hml, hown, hts⟩ (mc_D_fails l s0 dC dI cI cR cL cZ r th (nI n) nw pb (nI qc) _ 1) ⟨(mr_cB 1 (hts (Cond.code y_D_fails b_D_fails 2 (some .int)) mw_318) (hts (Cond.initialized y_D_fails.cls) mw_319) (hts (Cond.methodLink "MeasureRowsModel" 97 y_D_fails) mw_320) rfl rfl (by decide +kernel) ⟨Nat.le_of_ble_eq_true rfl, Nat.le_of_ble_eq_true rfl⟩), (hts (Cond.instanceMethod y_D_fails) mw_321), (hts (Cond.selects "MeasureRowsModel" y_D_fails y_D_fails) mw_322)⟩ (mr_preCV hBH hK hPc (hDc.weaken (fun _ _ _ h => hA0 _ h)) (ci := 3) (q0 := 0) rfl rfl) rfl rfl hl.1 rfl (lv_room (Nat.le_of_ble_eq_true rfl)) d_D_apply_33 ⟨Nat.le_of_ble_eq_true rfl, Nat.le_of_ble_eq_true rfl⟩) hS (fun q _ h => hFc q h) hFc (fun r_9 u_10 t H1 locs ht hvm hw hB1 hz1 hk1 hS => ?_)
      obtain ⟨hP1, hK1, hD1⟩ := hB1
      rw [ht] at hP1
      obtain ⟨hP, hD⟩ := va_join (wr := [((r 1), .inl (cI, 8, .inl fm)), ((r 3), .inl (cI, 81, .inl fco)), ((r 4), .inl (cI, 81, .inl fla)), ((r 5), .inl (cI, 81, .inl ffi)), ((r 6), .inl (cI, 81, .inl fki)), ((r 7), .inl (cI, 81, .inl fra)), ((r 8), .inl (cI, 81, .inl fkn)), ((r 9), .inl (cI, 81, .inl fls)), ((r 10), .inl (cI, 81, .inl fpa)), ((r 11), .inl (cI, 81, .inl fe)), ((r 12), .inl (cI, 648, .inl fa)), ((r 13), .inl (cI, 648, .inl fk)), ((r 16), .inl (cI, 80, .inl fli)), ((r 18), .inl (cZ, 81, .inl fgo))]) (w1 := [((r 0), .inr (3, mf_D r 1 (nI n) nw pb (nI qc)))]) hP hD [0] [1, 2, 3, 4, 5, 6, 7, 8, 9, 10, 11, 12, 13, 14] rfl rfl (by decide) (by decide) hk1 hFc hP1 hD1
      clear hK1 hk1 hPc hDc hFc
      generalize H1 = H at hP hS ht ⊢
      have hP : va_P (dC, dI) mr_cl [((r 1), .inl (cI, 8, .inl fm)), ((r 3), .inl (cI, 81, .inl fco)), ((r 4), .inl (cI, 81, .inl fla)), ((r 5), .inl (cI, 81, .inl ffi)), ((r 6), .inl (cI, 81, .inl fki)), ((r 7), .inl (cI, 81, .inl fra)), ((r 8), .inl (cI, 81, .inl fkn)), ((r 9), .inl (cI, 81, .inl fls)), ((r 10), .inl (cI, 81, .inl fpa)), ((r 11), .inl (cI, 81, .inl fe)), ((r 12), .inl (cI, 648, .inl fa)), ((r 13), .inl (cI, 648, .inl fk)), ((r 16), .inl (cI, 80, .inl fli)), ((r 18), .inl (cZ, 81, .inl fgo)), ((r 0), .inr (3, mf_D r 1 (nI n) nw pb (nI qc)))] H := hP
      have hD : va_D A [((r 1), .inl (cI, 8, .inl fm)), ((r 3), .inl (cI, 81, .inl fco)), ((r 4), .inl (cI, 81, .inl fla)), ((r 5), .inl (cI, 81, .inl ffi)), ((r 6), .inl (cI, 81, .inl fki)), ((r 7), .inl (cI, 81, .inl fra)), ((r 8), .inl (cI, 81, .inl fkn)), ((r 9), .inl (cI, 81, .inl fls)), ((r 10), .inl (cI, 81, .inl fpa)), ((r 11), .inl (cI, 81, .inl fe)), ((r 12), .inl (cI, 648, .inl fa)), ((r 13), .inl (cI, 648, .inl fk)), ((r 16), .inl (cI, 80, .inl fli)), ((r 18), .inl (cZ, 81, .inl fgo)), ((r 0), .inr (3, mf_D r 1 (nI n) nw pb (nI qc)))] := hD
      have hBH := hB.at hS hA0
      obtain rfl : r_9 = 0 := hw
      have hP9 := hP.sub (ws' := [((r 0), .inr (3, mf_D r 1 (nI n) nw pb (nI qc))), ((r 1), .inl (cI, 8, .inl fm)), ((r 3), .inl (cI, 81, .inl fco)), ((r 4), .inl (cI, 81, .inl fla)), ((r 5), .inl (cI, 81, .inl ffi)), ((r 6), .inl (cI, 81, .inl fki)), ((r 7), .inl (cI, 81, .inl fra)), ((r 8), .inl (cI, 81, .inl fkn)), ((r 9), .inl (cI, 81, .inl fls)), ((r 10), .inl (cI, 81, .inl fpa)), ((r 11), .inl (cI, 81, .inl fe)), ((r 12), .inl (cI, 648, .inl fa)), ((r 13), .inl (cI, 648, .inl fk)), ((r 16), .inl (cI, 80, .inl fli)), ((r 18), .inl (cZ, 81, .inl fgo))]) [14, 0, 1, 2, 3, 4, 5, 6, 7, 8, 9, 10, 11, 12, 13] rfl
      have hD9 := hD.sub (ws' := [((r 0), .inr (3, mf_D r 1 (nI n) nw pb (nI qc))), ((r 1), .inl (cI, 8, .inl fm)), ((r 3), .inl (cI, 81, .inl fco)), ((r 4), .inl (cI, 81, .inl fla)), ((r 5), .inl (cI, 81, .inl ffi)), ((r 6), .inl (cI, 81, .inl fki)), ((r 7), .inl (cI, 81, .inl fra)), ((r 8), .inl (cI, 81, .inl fkn)), ((r 9), .inl (cI, 81, .inl fls)), ((r 10), .inl (cI, 81, .inl fpa)), ((r 11), .inl (cI, 81, .inl fe)), ((r 12), .inl (cI, 648, .inl fa)), ((r 13), .inl (cI, 648, .inl fk)), ((r 16), .inl (cI, 80, .inl fli)), ((r 18), .inl (cZ, 81, .inl fgo))]) [14, 0, 1, 2, 3, 4, 5, 6, 7, 8, 9, 10, 11, 12, 13] (by decide) rfl
      have hth : mt_D_apply a0 a1 a2 a3 = 1 := by unfold mt_D_apply; rw [if_pos c_3, if_pos c_8]
      exact W.iret (v := 0) hx hb hr (fun t ht hW => ⟨⟨_, (), rfl, (by unfold mv_D_apply; rw [if_neg (by rw [hth]; decide)]), 1, qc, fli, fgo, ⟨by rw [ht]; exact hP9, va_K.moved hW.alike hK, hD9⟩, hq, hth.symm⟩, hS.F ht⟩) hS.2.2 d_D_apply_36
    · refine lv_iload_n hx hb d_D_apply_16 rfl (lv_at hl 3 rfl) ?_
      refine vp_callSi (va_Run.run (va_runS (As := [.int a2]) (rest := []) ⟨hx, hb, hml, hown, hts⟩ (mc_D_isDay l s0 a2) ⟨(mr_cB 1 (hts (Cond.code y_D_isDay b_D_isDay 1 (some .boolean)) mw_314) (hts (Cond.initialized y_D_isDay.cls) mw_315) (hts (Cond.methodLink "MeasureRowsModel" 94 y_D_isDay) mw_316) rfl rfl (by decide +kernel) ⟨Nat.le_of_ble_eq_true rfl, Nat.le_of_ble_eq_true rfl⟩), (hts (Cond.static y_D_isDay) mw_317)⟩ (mr_pre0 hBH) rfl rfl hl.1 rfl (lv_room (Nat.le_of_ble_eq_true rfl)) d_D_apply_17 ⟨Nat.le_of_ble_eq_true rfl, Nat.le_of_ble_eq_true rfl⟩)) (fun r_11 h_12 => ?_)
      subst h_12
      refine lv_if_eq (tgt := 31) hx hb d_D_apply_20 (by decide) (fun c_13 => ?_) (fun c_13 => ?_)
      · refine lv_aload_n hx hb d_D_apply_31 rfl (lv_at hl 0 rfl) ?_
        refine lv_iconst (v := 1) hx hb d_D_apply_32 (by decide) ?_
        have hPc := hP.sub (ws' := [((r 0), .inr (3, mf_D r th (nI n) nw pb (nI qc)))]) [0] rfl
        have hDc := hD.sub (ws' := [((r 0), .inr (3, mf_D r th (nI n) nw pb (nI qc)))]) [0] (by decide) rfl
        have hFc := va_free (wc := [((r 0), .inr (3, mf_D r th (nI n) nw pb (nI qc)))]) hD hS hA [0] rfl
        refine va_calli (va_runV (As := [.int 1]) (rest := []) (C := R_D) ⟨hx, hb, hml, hown, hts⟩ (mc_D_fails l s0 dC dI cI cR cL cZ r th (nI n) nw pb (nI qc) _ 1) ⟨(mr_cB 1 (hts (Cond.code y_D_fails b_D_fails 2 (some .int)) mw_318) (hts (Cond.initialized y_D_fails.cls) mw_319) (hts (Cond.methodLink "MeasureRowsModel" 97 y_D_fails) mw_320) rfl rfl (by decide +kernel) ⟨Nat.le_of_ble_eq_true rfl, Nat.le_of_ble_eq_true rfl⟩), (hts (Cond.instanceMethod y_D_fails) mw_321), (hts (Cond.selects "MeasureRowsModel" y_D_fails y_D_fails) mw_322)⟩ (mr_preCV hBH hK hPc (hDc.weaken (fun _ _ _ h => hA0 _ h)) (ci := 3) (q0 := 0) rfl rfl) rfl rfl hl.1 rfl (lv_room (Nat.le_of_ble_eq_true rfl)) d_D_apply_33 ⟨Nat.le_of_ble_eq_true rfl, Nat.le_of_ble_eq_true rfl⟩) hS (fun q _ h => hFc q h) hFc (fun r_14 u_15 t H1 locs ht hvm hw hB1 hz1 hk1 hS => ?_)
        obtain ⟨hP1, hK1, hD1⟩ := hB1
        rw [ht] at hP1
        obtain ⟨hP, hD⟩ := va_join (wr := [((r 1), .inl (cI, 8, .inl fm)), ((r 3), .inl (cI, 81, .inl fco)), ((r 4), .inl (cI, 81, .inl fla)), ((r 5), .inl (cI, 81, .inl ffi)), ((r 6), .inl (cI, 81, .inl fki)), ((r 7), .inl (cI, 81, .inl fra)), ((r 8), .inl (cI, 81, .inl fkn)), ((r 9), .inl (cI, 81, .inl fls)), ((r 10), .inl (cI, 81, .inl fpa)), ((r 11), .inl (cI, 81, .inl fe)), ((r 12), .inl (cI, 648, .inl fa)), ((r 13), .inl (cI, 648, .inl fk)), ((r 16), .inl (cI, 80, .inl fli)), ((r 18), .inl (cZ, 81, .inl fgo))]) (w1 := [((r 0), .inr (3, mf_D r 1 (nI n) nw pb (nI qc)))]) hP hD [0] [1, 2, 3, 4, 5, 6, 7, 8, 9, 10, 11, 12, 13, 14] rfl rfl (by decide) (by decide) hk1 hFc hP1 hD1
        clear hK1 hk1 hPc hDc hFc
        generalize H1 = H at hP hS ht ⊢
        have hP : va_P (dC, dI) mr_cl [((r 1), .inl (cI, 8, .inl fm)), ((r 3), .inl (cI, 81, .inl fco)), ((r 4), .inl (cI, 81, .inl fla)), ((r 5), .inl (cI, 81, .inl ffi)), ((r 6), .inl (cI, 81, .inl fki)), ((r 7), .inl (cI, 81, .inl fra)), ((r 8), .inl (cI, 81, .inl fkn)), ((r 9), .inl (cI, 81, .inl fls)), ((r 10), .inl (cI, 81, .inl fpa)), ((r 11), .inl (cI, 81, .inl fe)), ((r 12), .inl (cI, 648, .inl fa)), ((r 13), .inl (cI, 648, .inl fk)), ((r 16), .inl (cI, 80, .inl fli)), ((r 18), .inl (cZ, 81, .inl fgo)), ((r 0), .inr (3, mf_D r 1 (nI n) nw pb (nI qc)))] H := hP
        have hD : va_D A [((r 1), .inl (cI, 8, .inl fm)), ((r 3), .inl (cI, 81, .inl fco)), ((r 4), .inl (cI, 81, .inl fla)), ((r 5), .inl (cI, 81, .inl ffi)), ((r 6), .inl (cI, 81, .inl fki)), ((r 7), .inl (cI, 81, .inl fra)), ((r 8), .inl (cI, 81, .inl fkn)), ((r 9), .inl (cI, 81, .inl fls)), ((r 10), .inl (cI, 81, .inl fpa)), ((r 11), .inl (cI, 81, .inl fe)), ((r 12), .inl (cI, 648, .inl fa)), ((r 13), .inl (cI, 648, .inl fk)), ((r 16), .inl (cI, 80, .inl fli)), ((r 18), .inl (cZ, 81, .inl fgo)), ((r 0), .inr (3, mf_D r 1 (nI n) nw pb (nI qc)))] := hD
        have hBH := hB.at hS hA0
        obtain rfl : r_14 = 0 := hw
        have hP9 := hP.sub (ws' := [((r 0), .inr (3, mf_D r 1 (nI n) nw pb (nI qc))), ((r 1), .inl (cI, 8, .inl fm)), ((r 3), .inl (cI, 81, .inl fco)), ((r 4), .inl (cI, 81, .inl fla)), ((r 5), .inl (cI, 81, .inl ffi)), ((r 6), .inl (cI, 81, .inl fki)), ((r 7), .inl (cI, 81, .inl fra)), ((r 8), .inl (cI, 81, .inl fkn)), ((r 9), .inl (cI, 81, .inl fls)), ((r 10), .inl (cI, 81, .inl fpa)), ((r 11), .inl (cI, 81, .inl fe)), ((r 12), .inl (cI, 648, .inl fa)), ((r 13), .inl (cI, 648, .inl fk)), ((r 16), .inl (cI, 80, .inl fli)), ((r 18), .inl (cZ, 81, .inl fgo))]) [14, 0, 1, 2, 3, 4, 5, 6, 7, 8, 9, 10, 11, 12, 13] rfl
        have hD9 := hD.sub (ws' := [((r 0), .inr (3, mf_D r 1 (nI n) nw pb (nI qc))), ((r 1), .inl (cI, 8, .inl fm)), ((r 3), .inl (cI, 81, .inl fco)), ((r 4), .inl (cI, 81, .inl fla)), ((r 5), .inl (cI, 81, .inl ffi)), ((r 6), .inl (cI, 81, .inl fki)), ((r 7), .inl (cI, 81, .inl fra)), ((r 8), .inl (cI, 81, .inl fkn)), ((r 9), .inl (cI, 81, .inl fls)), ((r 10), .inl (cI, 81, .inl fpa)), ((r 11), .inl (cI, 81, .inl fe)), ((r 12), .inl (cI, 648, .inl fa)), ((r 13), .inl (cI, 648, .inl fk)), ((r 16), .inl (cI, 80, .inl fli)), ((r 18), .inl (cZ, 81, .inl fgo))]) [14, 0, 1, 2, 3, 4, 5, 6, 7, 8, 9, 10, 11, 12, 13] (by decide) rfl
        have hth : mt_D_apply a0 a1 a2 a3 = 1 := by unfold mt_D_apply; rw [if_pos c_3, if_neg c_8, if_pos c_13]
        exact W.iret (v := 0) hx hb hr (fun t ht hW => ⟨⟨_, (), rfl, (by unfold mv_D_apply; rw [if_neg (by rw [hth]; decide)]), 1, qc, fli, fgo, ⟨by rw [ht]; exact hP9, va_K.moved hW.alike hK, hD9⟩, hq, hth.symm⟩, hS.F ht⟩) hS.2.2 d_D_apply_36
      · refine lv_iload hx hb d_D_apply_23 (lv_at hl 4 rfl) ?_
        refine vp_callSi (va_Run.run (va_runS (As := [.int a3]) (rest := []) ⟨hx, hb, hml, hown, hts⟩ (mc_D_isDay l s0 a3) ⟨(mr_cB 1 (hts (Cond.code y_D_isDay b_D_isDay 1 (some .boolean)) mw_314) (hts (Cond.initialized y_D_isDay.cls) mw_315) (hts (Cond.methodLink "MeasureRowsModel" 94 y_D_isDay) mw_316) rfl rfl (by decide +kernel) ⟨Nat.le_of_ble_eq_true rfl, Nat.le_of_ble_eq_true rfl⟩), (hts (Cond.static y_D_isDay) mw_317)⟩ (mr_pre0 hBH) rfl rfl hl.1 rfl (lv_room (Nat.le_of_ble_eq_true rfl)) d_D_apply_25 ⟨Nat.le_of_ble_eq_true rfl, Nat.le_of_ble_eq_true rfl⟩)) (fun r_16 h_17 => ?_)
        subst h_17
        refine lv_if_ne (tgt := 37) hx hb d_D_apply_28 (by decide) (fun c_18 => ?_) (fun c_18 => ?_)
        · refine lv_aload_n hx hb d_D_apply_37 rfl (lv_at hl 0 rfl) ?_
          refine lv_iconst (v := 0) hx hb d_D_apply_38 (by decide) ?_
          refine va_put (D := (dC, dI)) (ci := 3) (v := .int 0) (ty := .int) (C := R_D) (T := T_D) (N := 19) hx hb hts ti_D t_D to_D tn_D hown hK hP hD hS 0 rfl rfl 0 (by decide) (hts (Cond.fieldLink "MeasureRowsModel" 53 "MeasureRowsModel" "thrown" "I") mw_295) (fun _ h9 => h9) rfl (by decide +kernel) rfl rfl (Nat.le_of_ble_eq_true rfl) d_D_apply_39 (fun H locs hP hD hS => ?_)
          have hP : va_P (dC, dI) mr_cl [((r 0), .inr (3, mf_D r 0 (nI n) nw pb (nI qc))), ((r 1), .inl (cI, 8, .inl fm)), ((r 3), .inl (cI, 81, .inl fco)), ((r 4), .inl (cI, 81, .inl fla)), ((r 5), .inl (cI, 81, .inl ffi)), ((r 6), .inl (cI, 81, .inl fki)), ((r 7), .inl (cI, 81, .inl fra)), ((r 8), .inl (cI, 81, .inl fkn)), ((r 9), .inl (cI, 81, .inl fls)), ((r 10), .inl (cI, 81, .inl fpa)), ((r 11), .inl (cI, 81, .inl fe)), ((r 12), .inl (cI, 648, .inl fa)), ((r 13), .inl (cI, 648, .inl fk)), ((r 16), .inl (cI, 80, .inl fli)), ((r 18), .inl (cZ, 81, .inl fgo))] H := hP
          have hD : va_D A [((r 0), .inr (3, mf_D r 0 (nI n) nw pb (nI qc))), ((r 1), .inl (cI, 8, .inl fm)), ((r 3), .inl (cI, 81, .inl fco)), ((r 4), .inl (cI, 81, .inl fla)), ((r 5), .inl (cI, 81, .inl ffi)), ((r 6), .inl (cI, 81, .inl fki)), ((r 7), .inl (cI, 81, .inl fra)), ((r 8), .inl (cI, 81, .inl fkn)), ((r 9), .inl (cI, 81, .inl fls)), ((r 10), .inl (cI, 81, .inl fpa)), ((r 11), .inl (cI, 81, .inl fe)), ((r 12), .inl (cI, 648, .inl fa)), ((r 13), .inl (cI, 648, .inl fk)), ((r 16), .inl (cI, 80, .inl fli)), ((r 18), .inl (cZ, 81, .inl fgo))] := hD
          have hBH := hB.at hS hA0
          refine lv_iconst (v := 1) hx hb d_D_apply_42 (by decide) ?_
          refine lv_istore (lv' := [(5, .int 1), (0, .ref (r 0)), (1, .int a0), (2, .int a1), (3, .int a2), (4, .int a3)]) hx hb d_D_apply_43 hl (by decide) rfl (fun ls hl => ?_)
          refine mr_loop (N := n) (I := fun y H locs ls => ∃ go9 : Nat → Int32, (∀ m, m < y → go9 (m + 1) = (mv_gd fm fco fla ffi fkn fls fpa fe fa fk pb a0 a1 a2 a3) m) ∧ va_P (dC, dI) mr_cl [((r 0), .inr (3, mf_D r 0 (nI n) nw pb (nI qc))), ((r 1), .inl (cI, 8, .inl fm)), ((r 3), .inl (cI, 81, .inl fco)), ((r 4), .inl (cI, 81, .inl fla)), ((r 5), .inl (cI, 81, .inl ffi)), ((r 6), .inl (cI, 81, .inl fki)), ((r 7), .inl (cI, 81, .inl fra)), ((r 8), .inl (cI, 81, .inl fkn)), ((r 9), .inl (cI, 81, .inl fls)), ((r 10), .inl (cI, 81, .inl fpa)), ((r 11), .inl (cI, 81, .inl fe)), ((r 12), .inl (cI, 648, .inl fa)), ((r 13), .inl (cI, 648, .inl fk)), ((r 16), .inl (cI, 80, .inl fli)), ((r 18), .inl (cZ, 81, .inl go9))] H ∧ va_D A [((r 0), .inr (3, mf_D r 0 (nI n) nw pb (nI qc))), ((r 1), .inl (cI, 8, .inl fm)), ((r 3), .inl (cI, 81, .inl fco)), ((r 4), .inl (cI, 81, .inl fla)), ((r 5), .inl (cI, 81, .inl ffi)), ((r 6), .inl (cI, 81, .inl fki)), ((r 7), .inl (cI, 81, .inl fra)), ((r 8), .inl (cI, 81, .inl fkn)), ((r 9), .inl (cI, 81, .inl fls)), ((r 10), .inl (cI, 81, .inl fpa)), ((r 11), .inl (cI, 81, .inl fe)), ((r 12), .inl (cI, 648, .inl fa)), ((r 13), .inl (cI, 648, .inl fk)), ((r 16), .inl (cI, 80, .inl fli)), ((r 18), .inl (cZ, 81, .inl go9))] ∧ va_S A s.heap H locs ∧ lv_has ls 9 [(5, .int (nI (y + 1))), (0, .ref (r 0)), (1, .int a0), (2, .int a1), (3, .int a2), (4, .int a3)]) (fun y H locs ls hy9 hI9 ih1 => ?_) (fun H locs ls hI9 => ?_) 0 _ _ _ (Nat.zero_le _) ⟨fgo, (fun m hm => absurd hm (Nat.not_lt_zero m)), hP, hD, hS, (lv_sub hl [0, 1, 2, 3, 4, 5] rfl)⟩
          · obtain ⟨go9, hexy, hP, hD, hS, hl⟩ := hI9
            have hBH := hB.at hS hA0
            refine lv_iload hx hb d_D_apply_45 (lv_at hl 0 rfl) ?_
            refine lv_aload_n hx hb d_D_apply_47 rfl (lv_at hl 1 rfl) ?_
            refine va_get (D := (dC, dI)) (ci := 3) (v := .int (nI n)) (C := R_D) (T := T_D) (N := 19) hx hb hts ti_D hown hK hP 0 rfl rfl 2 (by decide) (hts (Cond.fieldLink "MeasureRowsModel" 81 "MeasureRowsModel" "rows" "I") mw_294) (fun _ h9 => h9) rfl d_D_apply_48 ?_
            refine lv_icmp_gt (tgt := 111) hx hb d_D_apply_51 (by decide) (fun c_19 => absurd c_19 (nI_nlt (by omega) (by have := hM.1; omega))) (fun _ => ?_)
            refine lv_aload_n hx hb d_D_apply_54 rfl (lv_at hl 1 rfl) ?_
            refine va_get (D := (dC, dI)) (ci := 3) (v := .ref (r 18)) (C := R_D) (T := T_D) (N := 19) hx hb hts ti_D hown hK hP 0 rfl rfl 18 (by decide) (hts (Cond.fieldLink "MeasureRowsModel" 49 "MeasureRowsModel" "good" "[Z") mw_333) (fun _ h9 => h9) rfl d_D_apply_55 ?_
            refine lv_iload hx hb d_D_apply_58 (lv_at hl 0 rfl) ?_
            refine lv_aload_n hx hb d_D_apply_60 rfl (lv_at hl 1 rfl) ?_
            refine lv_iload hx hb d_D_apply_61 (lv_at hl 0 rfl) ?_
            refine lv_iload_n hx hb d_D_apply_63 rfl (lv_at hl 2 rfl) ?_
            refine lv_iload_n hx hb d_D_apply_64 rfl (lv_at hl 3 rfl) ?_
            refine lv_iload_n hx hb d_D_apply_65 rfl (lv_at hl 4 rfl) ?_
            refine lv_iload hx hb d_D_apply_66 (lv_at hl 5 rfl) ?_
            refine vp_callSi (va_Run.run (va_runV (As := [.int (nI (y + 1)), .int a0, .int a1, .int a2, .int a3]) (rest := [.int (nI (y + 1)), .ref (r 18)]) (C := R_D) ⟨hx, hb, hml, hown, hts⟩ (mc_D_isOfX l s0 dC dI cI cR cL cZ r 0 nw pb (nI qc) n fm fco fla ffi fkn fls fe fa fk (y + 1) a0 a1 a2 a3 (by omega) (by omega) hM) ⟨(mr_cB 5 (hts (Cond.code y_D_isOf b_D_isOf 6 (some .boolean)) mw_323) (hts (Cond.initialized y_D_isOf.cls) mw_324) (hts (Cond.methodLink "MeasureRowsModel" 120 y_D_isOf) mw_325) rfl rfl (by decide +kernel) ⟨Nat.le_of_ble_eq_true rfl, Nat.le_of_ble_eq_true rfl⟩), (hts (Cond.instanceMethod y_D_isOf) mw_326), (hts (Cond.selects "MeasureRowsModel" y_D_isOf y_D_isOf) mw_327)⟩ (mr_preV hBH hK (hP.sub (ws' := [((r 0), .inr (3, mf_D r 0 (nI n) nw pb (nI qc))), ((r 1), .inl (cI, 8, .inl fm)), ((r 3), .inl (cI, 81, .inl fco)), ((r 4), .inl (cI, 81, .inl fla)), ((r 5), .inl (cI, 81, .inl ffi)), ((r 8), .inl (cI, 81, .inl fkn)), ((r 9), .inl (cI, 81, .inl fls)), ((r 11), .inl (cI, 81, .inl fe)), ((r 12), .inl (cI, 648, .inl fa)), ((r 13), .inl (cI, 648, .inl fk))]) [0, 1, 2, 3, 4, 7, 8, 10, 11, 12] rfl) (ci := 3) (q0 := 0) rfl rfl) rfl rfl hl.1 rfl (lv_room (Nat.le_of_ble_eq_true rfl)) d_D_apply_68 ⟨Nat.le_of_ble_eq_true rfl, Nat.le_of_ble_eq_true rfl⟩)) (fun r_20 h_21 => ?_)
            subst h_21
            refine lv_if_eq (tgt := 103) hx hb d_D_apply_71 (by decide) (fun c_22 => ?_) (fun c_22 => ?_)
            · refine lv_iconst (v := 0) hx hb d_D_apply_103 (by decide) ?_
              refine va_zast (D := (dC, dI)) hx hb hK hP hD hS 14 3 rfl rfl (i := nI (y + 1)) (nI_in (by have := hM.1; omega) (by decide)) d_D_apply_104 (fun H locs hP hD hS => ?_)
              have hP : va_P (dC, dI) mr_cl [((r 0), .inr (3, mf_D r 0 (nI n) nw pb (nI qc))), ((r 1), .inl (cI, 8, .inl fm)), ((r 3), .inl (cI, 81, .inl fco)), ((r 4), .inl (cI, 81, .inl fla)), ((r 5), .inl (cI, 81, .inl ffi)), ((r 6), .inl (cI, 81, .inl fki)), ((r 7), .inl (cI, 81, .inl fra)), ((r 8), .inl (cI, 81, .inl fkn)), ((r 9), .inl (cI, 81, .inl fls)), ((r 10), .inl (cI, 81, .inl fpa)), ((r 11), .inl (cI, 81, .inl fe)), ((r 12), .inl (cI, 648, .inl fa)), ((r 13), .inl (cI, 648, .inl fk)), ((r 16), .inl (cI, 80, .inl fli)), ((r 18), .inl (cZ, 81, .inl (upd go9 (nI (y + 1)).toNatClampNeg (vp_nar .boolean 0))))] H := hP
              have hD : va_D A [((r 0), .inr (3, mf_D r 0 (nI n) nw pb (nI qc))), ((r 1), .inl (cI, 8, .inl fm)), ((r 3), .inl (cI, 81, .inl fco)), ((r 4), .inl (cI, 81, .inl fla)), ((r 5), .inl (cI, 81, .inl ffi)), ((r 6), .inl (cI, 81, .inl fki)), ((r 7), .inl (cI, 81, .inl fra)), ((r 8), .inl (cI, 81, .inl fkn)), ((r 9), .inl (cI, 81, .inl fls)), ((r 10), .inl (cI, 81, .inl fpa)), ((r 11), .inl (cI, 81, .inl fe)), ((r 12), .inl (cI, 648, .inl fa)), ((r 13), .inl (cI, 648, .inl fk)), ((r 16), .inl (cI, 80, .inl fli)), ((r 18), .inl (cZ, 81, .inl (upd go9 (nI (y + 1)).toNatClampNeg (vp_nar .boolean 0))))] := hD
              have hBH := hB.at hS hA0
              refine lv_iinc (v := nI ((y + 1) + 1)) (lv' := [(5, .int (nI ((y + 1) + 1))), (0, .ref (r 0)), (1, .int a0), (2, .int a1), (3, .int a2), (4, .int a3)]) hx hb d_D_apply_105 hl (k := 0) rfl ((nI_succ (y + 1)).symm) (by decide) rfl (fun ls hl => ?_)
              refine lv_goto (tgt := 45) hx hb d_D_apply_108 (by decide) ?_
              exact ih1 _ _ _ ⟨(upd go9 (nI (y + 1)).toNatClampNeg (vp_nar .boolean 0)), (mr_gds (by have := hM.1; omega) hexy (show vp_nar .boolean 0 = (mv_gd fm fco fla ffi fkn fls fpa fe fa fk pb a0 a1 a2 a3) y by unfold mv_gd; rw [if_pos c_22]; rfl)), hP, hD, hS, lv_sub hl [0, 1, 2, 3, 4, 5] rfl⟩
            · refine lv_aload_n hx hb d_D_apply_74 rfl (lv_at hl 1 rfl) ?_
              refine va_get (D := (dC, dI)) (ci := 3) (v := .ref (r 10)) (C := R_D) (T := T_D) (N := 19) hx hb hts ti_D hown hK hP 0 rfl rfl 10 (by decide) (hts (Cond.fieldLink "MeasureRowsModel" 34 "MeasureRowsModel" "papers" "[I") mw_309) (fun _ h9 => h9) rfl d_D_apply_75 ?_
              refine lv_iload hx hb d_D_apply_78 (lv_at hl 0 rfl) ?_
              refine va_iald (D := (dC, dI)) hx hb hK hP 9 0 rfl rfl (i := nI (y + 1)) (nI_in (by have := hM.1; omega) (by decide)) d_D_apply_80 ?_
              refine mr_top (show fpa (nI (y + 1)).toNatClampNeg = fpa (y + 1) from mr_nc (by have := hM.1; omega)) ?_
              refine lv_if_eq (tgt := 99) hx hb d_D_apply_81 (by decide) (fun c_23 => ?_) (fun c_23 => ?_)
              · refine lv_iconst (v := 1) hx hb d_D_apply_99 (by decide) ?_
                refine lv_goto (tgt := 104) hx hb d_D_apply_100 (by decide) ?_
                refine va_zast (D := (dC, dI)) hx hb hK hP hD hS 14 3 rfl rfl (i := nI (y + 1)) (nI_in (by have := hM.1; omega) (by decide)) d_D_apply_104 (fun H locs hP hD hS => ?_)
                have hP : va_P (dC, dI) mr_cl [((r 0), .inr (3, mf_D r 0 (nI n) nw pb (nI qc))), ((r 1), .inl (cI, 8, .inl fm)), ((r 3), .inl (cI, 81, .inl fco)), ((r 4), .inl (cI, 81, .inl fla)), ((r 5), .inl (cI, 81, .inl ffi)), ((r 6), .inl (cI, 81, .inl fki)), ((r 7), .inl (cI, 81, .inl fra)), ((r 8), .inl (cI, 81, .inl fkn)), ((r 9), .inl (cI, 81, .inl fls)), ((r 10), .inl (cI, 81, .inl fpa)), ((r 11), .inl (cI, 81, .inl fe)), ((r 12), .inl (cI, 648, .inl fa)), ((r 13), .inl (cI, 648, .inl fk)), ((r 16), .inl (cI, 80, .inl fli)), ((r 18), .inl (cZ, 81, .inl (upd go9 (nI (y + 1)).toNatClampNeg (vp_nar .boolean 1))))] H := hP
                have hD : va_D A [((r 0), .inr (3, mf_D r 0 (nI n) nw pb (nI qc))), ((r 1), .inl (cI, 8, .inl fm)), ((r 3), .inl (cI, 81, .inl fco)), ((r 4), .inl (cI, 81, .inl fla)), ((r 5), .inl (cI, 81, .inl ffi)), ((r 6), .inl (cI, 81, .inl fki)), ((r 7), .inl (cI, 81, .inl fra)), ((r 8), .inl (cI, 81, .inl fkn)), ((r 9), .inl (cI, 81, .inl fls)), ((r 10), .inl (cI, 81, .inl fpa)), ((r 11), .inl (cI, 81, .inl fe)), ((r 12), .inl (cI, 648, .inl fa)), ((r 13), .inl (cI, 648, .inl fk)), ((r 16), .inl (cI, 80, .inl fli)), ((r 18), .inl (cZ, 81, .inl (upd go9 (nI (y + 1)).toNatClampNeg (vp_nar .boolean 1))))] := hD
                have hBH := hB.at hS hA0
                refine lv_iinc (v := nI ((y + 1) + 1)) (lv' := [(5, .int (nI ((y + 1) + 1))), (0, .ref (r 0)), (1, .int a0), (2, .int a1), (3, .int a2), (4, .int a3)]) hx hb d_D_apply_105 hl (k := 0) rfl ((nI_succ (y + 1)).symm) (by decide) rfl (fun ls hl => ?_)
                refine lv_goto (tgt := 45) hx hb d_D_apply_108 (by decide) ?_
                exact ih1 _ _ _ ⟨(upd go9 (nI (y + 1)).toNatClampNeg (vp_nar .boolean 1)), (mr_gds (by have := hM.1; omega) hexy (show vp_nar .boolean 1 = (mv_gd fm fco fla ffi fkn fls fpa fe fa fk pb a0 a1 a2 a3) y by unfold mv_gd; rw [if_neg c_22, if_pos c_23]; rfl)), hP, hD, hS, lv_sub hl [0, 1, 2, 3, 4, 5] rfl⟩
              · refine lv_aload_n hx hb d_D_apply_84 rfl (lv_at hl 1 rfl) ?_
                refine va_get (D := (dC, dI)) (ci := 3) (v := .ref (r 10)) (C := R_D) (T := T_D) (N := 19) hx hb hts ti_D hown hK hP 0 rfl rfl 10 (by decide) (hts (Cond.fieldLink "MeasureRowsModel" 34 "MeasureRowsModel" "papers" "[I") mw_309) (fun _ h9 => h9) rfl d_D_apply_85 ?_
                refine lv_iload hx hb d_D_apply_88 (lv_at hl 0 rfl) ?_
                refine va_iald (D := (dC, dI)) hx hb hK hP 9 0 rfl rfl (i := nI (y + 1)) (nI_in (by have := hM.1; omega) (by decide)) d_D_apply_90 ?_
                refine mr_top (show fpa (nI (y + 1)).toNatClampNeg = fpa (y + 1) from mr_nc (by have := hM.1; omega)) ?_
                refine lv_aload_n hx hb d_D_apply_91 rfl (lv_at hl 1 rfl) ?_
                refine va_get (D := (dC, dI)) (ci := 3) (v := .int pb) (C := R_D) (T := T_D) (N := 19) hx hb hts ti_D hown hK hP 0 rfl rfl 15 (by decide) (hts (Cond.fieldLink "MeasureRowsModel" 111 "MeasureRowsModel" "there" "I") mw_311) (fun _ h9 => h9) rfl d_D_apply_92 ?_
                refine lv_iand hx hb d_D_apply_95 ?_
                refine lv_if_eq (tgt := 103) hx hb d_D_apply_96 (by decide) (fun c_24 => ?_) (fun c_24 => ?_)
                · refine lv_iconst (v := 0) hx hb d_D_apply_103 (by decide) ?_
                  refine va_zast (D := (dC, dI)) hx hb hK hP hD hS 14 3 rfl rfl (i := nI (y + 1)) (nI_in (by have := hM.1; omega) (by decide)) d_D_apply_104 (fun H locs hP hD hS => ?_)
                  have hP : va_P (dC, dI) mr_cl [((r 0), .inr (3, mf_D r 0 (nI n) nw pb (nI qc))), ((r 1), .inl (cI, 8, .inl fm)), ((r 3), .inl (cI, 81, .inl fco)), ((r 4), .inl (cI, 81, .inl fla)), ((r 5), .inl (cI, 81, .inl ffi)), ((r 6), .inl (cI, 81, .inl fki)), ((r 7), .inl (cI, 81, .inl fra)), ((r 8), .inl (cI, 81, .inl fkn)), ((r 9), .inl (cI, 81, .inl fls)), ((r 10), .inl (cI, 81, .inl fpa)), ((r 11), .inl (cI, 81, .inl fe)), ((r 12), .inl (cI, 648, .inl fa)), ((r 13), .inl (cI, 648, .inl fk)), ((r 16), .inl (cI, 80, .inl fli)), ((r 18), .inl (cZ, 81, .inl (upd go9 (nI (y + 1)).toNatClampNeg (vp_nar .boolean 0))))] H := hP
                  have hD : va_D A [((r 0), .inr (3, mf_D r 0 (nI n) nw pb (nI qc))), ((r 1), .inl (cI, 8, .inl fm)), ((r 3), .inl (cI, 81, .inl fco)), ((r 4), .inl (cI, 81, .inl fla)), ((r 5), .inl (cI, 81, .inl ffi)), ((r 6), .inl (cI, 81, .inl fki)), ((r 7), .inl (cI, 81, .inl fra)), ((r 8), .inl (cI, 81, .inl fkn)), ((r 9), .inl (cI, 81, .inl fls)), ((r 10), .inl (cI, 81, .inl fpa)), ((r 11), .inl (cI, 81, .inl fe)), ((r 12), .inl (cI, 648, .inl fa)), ((r 13), .inl (cI, 648, .inl fk)), ((r 16), .inl (cI, 80, .inl fli)), ((r 18), .inl (cZ, 81, .inl (upd go9 (nI (y + 1)).toNatClampNeg (vp_nar .boolean 0))))] := hD
                  have hBH := hB.at hS hA0
                  refine lv_iinc (v := nI ((y + 1) + 1)) (lv' := [(5, .int (nI ((y + 1) + 1))), (0, .ref (r 0)), (1, .int a0), (2, .int a1), (3, .int a2), (4, .int a3)]) hx hb d_D_apply_105 hl (k := 0) rfl ((nI_succ (y + 1)).symm) (by decide) rfl (fun ls hl => ?_)
                  refine lv_goto (tgt := 45) hx hb d_D_apply_108 (by decide) ?_
                  exact ih1 _ _ _ ⟨(upd go9 (nI (y + 1)).toNatClampNeg (vp_nar .boolean 0)), (mr_gds (by have := hM.1; omega) hexy (show vp_nar .boolean 0 = (mv_gd fm fco fla ffi fkn fls fpa fe fa fk pb a0 a1 a2 a3) y by unfold mv_gd; rw [if_neg c_22, if_neg c_23, if_pos c_24]; rfl)), hP, hD, hS, lv_sub hl [0, 1, 2, 3, 4, 5] rfl⟩
                · refine lv_iconst (v := 1) hx hb d_D_apply_99 (by decide) ?_
                  refine lv_goto (tgt := 104) hx hb d_D_apply_100 (by decide) ?_
                  refine va_zast (D := (dC, dI)) hx hb hK hP hD hS 14 3 rfl rfl (i := nI (y + 1)) (nI_in (by have := hM.1; omega) (by decide)) d_D_apply_104 (fun H locs hP hD hS => ?_)
                  have hP : va_P (dC, dI) mr_cl [((r 0), .inr (3, mf_D r 0 (nI n) nw pb (nI qc))), ((r 1), .inl (cI, 8, .inl fm)), ((r 3), .inl (cI, 81, .inl fco)), ((r 4), .inl (cI, 81, .inl fla)), ((r 5), .inl (cI, 81, .inl ffi)), ((r 6), .inl (cI, 81, .inl fki)), ((r 7), .inl (cI, 81, .inl fra)), ((r 8), .inl (cI, 81, .inl fkn)), ((r 9), .inl (cI, 81, .inl fls)), ((r 10), .inl (cI, 81, .inl fpa)), ((r 11), .inl (cI, 81, .inl fe)), ((r 12), .inl (cI, 648, .inl fa)), ((r 13), .inl (cI, 648, .inl fk)), ((r 16), .inl (cI, 80, .inl fli)), ((r 18), .inl (cZ, 81, .inl (upd go9 (nI (y + 1)).toNatClampNeg (vp_nar .boolean 1))))] H := hP
                  have hD : va_D A [((r 0), .inr (3, mf_D r 0 (nI n) nw pb (nI qc))), ((r 1), .inl (cI, 8, .inl fm)), ((r 3), .inl (cI, 81, .inl fco)), ((r 4), .inl (cI, 81, .inl fla)), ((r 5), .inl (cI, 81, .inl ffi)), ((r 6), .inl (cI, 81, .inl fki)), ((r 7), .inl (cI, 81, .inl fra)), ((r 8), .inl (cI, 81, .inl fkn)), ((r 9), .inl (cI, 81, .inl fls)), ((r 10), .inl (cI, 81, .inl fpa)), ((r 11), .inl (cI, 81, .inl fe)), ((r 12), .inl (cI, 648, .inl fa)), ((r 13), .inl (cI, 648, .inl fk)), ((r 16), .inl (cI, 80, .inl fli)), ((r 18), .inl (cZ, 81, .inl (upd go9 (nI (y + 1)).toNatClampNeg (vp_nar .boolean 1))))] := hD
                  have hBH := hB.at hS hA0
                  refine lv_iinc (v := nI ((y + 1) + 1)) (lv' := [(5, .int (nI ((y + 1) + 1))), (0, .ref (r 0)), (1, .int a0), (2, .int a1), (3, .int a2), (4, .int a3)]) hx hb d_D_apply_105 hl (k := 0) rfl ((nI_succ (y + 1)).symm) (by decide) rfl (fun ls hl => ?_)
                  refine lv_goto (tgt := 45) hx hb d_D_apply_108 (by decide) ?_
                  exact ih1 _ _ _ ⟨(upd go9 (nI (y + 1)).toNatClampNeg (vp_nar .boolean 1)), (mr_gds (by have := hM.1; omega) hexy (show vp_nar .boolean 1 = (mv_gd fm fco fla ffi fkn fls fpa fe fa fk pb a0 a1 a2 a3) y by unfold mv_gd; rw [if_neg c_22, if_neg c_23, if_neg c_24]; rfl)), hP, hD, hS, lv_sub hl [0, 1, 2, 3, 4, 5] rfl⟩
          · obtain ⟨go9, hexy, hP, hD, hS, hl⟩ := hI9
            have hBH := hB.at hS hA0
            refine lv_iload hx hb d_D_apply_45 (lv_at hl 0 rfl) ?_
            refine lv_aload_n hx hb d_D_apply_47 rfl (lv_at hl 1 rfl) ?_
            refine va_get (D := (dC, dI)) (ci := 3) (v := .int (nI n)) (C := R_D) (T := T_D) (N := 19) hx hb hts ti_D hown hK hP 0 rfl rfl 2 (by decide) (hts (Cond.fieldLink "MeasureRowsModel" 81 "MeasureRowsModel" "rows" "I") mw_294) (fun _ h9 => h9) rfl d_D_apply_48 ?_
            refine lv_icmp_gt (tgt := 111) hx hb d_D_apply_51 (by decide) (fun _ => ?_) (fun c_25 => absurd (nI_lt (by omega) (by have := hM.1; omega)) c_25)
            refine lv_aload_n hx hb d_D_apply_111 rfl (lv_at hl 1 rfl) ?_
            refine lv_iconst (v := 0) hx hb d_D_apply_112 (by decide) ?_
            refine va_put (D := (dC, dI)) (ci := 3) (v := .int 0) (ty := .int) (C := R_D) (T := T_D) (N := 19) hx hb hts ti_D t_D to_D tn_D hown hK hP hD hS 0 rfl rfl 17 (by decide) (hts (Cond.fieldLink "MeasureRowsModel" 124 "MeasureRowsModel" "listed" "I") mw_312) (fun _ h9 => h9) rfl (by decide +kernel) rfl rfl (Nat.le_of_ble_eq_true rfl) d_D_apply_113 (fun H locs hP hD hS => ?_)
            have hP : va_P (dC, dI) mr_cl [((r 0), .inr (3, mf_D r 0 (nI n) nw pb 0)), ((r 1), .inl (cI, 8, .inl fm)), ((r 3), .inl (cI, 81, .inl fco)), ((r 4), .inl (cI, 81, .inl fla)), ((r 5), .inl (cI, 81, .inl ffi)), ((r 6), .inl (cI, 81, .inl fki)), ((r 7), .inl (cI, 81, .inl fra)), ((r 8), .inl (cI, 81, .inl fkn)), ((r 9), .inl (cI, 81, .inl fls)), ((r 10), .inl (cI, 81, .inl fpa)), ((r 11), .inl (cI, 81, .inl fe)), ((r 12), .inl (cI, 648, .inl fa)), ((r 13), .inl (cI, 648, .inl fk)), ((r 16), .inl (cI, 80, .inl fli)), ((r 18), .inl (cZ, 81, .inl go9))] H := hP
            have hD : va_D A [((r 0), .inr (3, mf_D r 0 (nI n) nw pb 0)), ((r 1), .inl (cI, 8, .inl fm)), ((r 3), .inl (cI, 81, .inl fco)), ((r 4), .inl (cI, 81, .inl fla)), ((r 5), .inl (cI, 81, .inl ffi)), ((r 6), .inl (cI, 81, .inl fki)), ((r 7), .inl (cI, 81, .inl fra)), ((r 8), .inl (cI, 81, .inl fkn)), ((r 9), .inl (cI, 81, .inl fls)), ((r 10), .inl (cI, 81, .inl fpa)), ((r 11), .inl (cI, 81, .inl fe)), ((r 12), .inl (cI, 648, .inl fa)), ((r 13), .inl (cI, 648, .inl fk)), ((r 16), .inl (cI, 80, .inl fli)), ((r 18), .inl (cZ, 81, .inl go9))] := hD
            have hBH := hB.at hS hA0
            refine lv_iconst (v := 0) hx hb d_D_apply_116 (by decide) ?_
            refine lv_istore (lv' := [(5, .int 0), (0, .ref (r 0)), (1, .int a0), (2, .int a1), (3, .int a2), (4, .int a3)]) hx hb d_D_apply_117 hl (by decide) rfl (fun ls hl => ?_)
            refine mr_loop (N := 8) (I := fun j H locs ls => ∃ q8 : Nat, ∃ li8 : Nat → Int32, (q8 = mr_tot (mv_ur (mv_gd fm fco fla ffi fkn fls fpa fe fa fk pb a0 a1 a2 a3) fco fki fra n) (mr_kd fki) n j) ∧ va_P (dC, dI) mr_cl [((r 0), .inr (3, mf_D r 0 (nI n) nw pb (nI q8))), ((r 1), .inl (cI, 8, .inl fm)), ((r 3), .inl (cI, 81, .inl fco)), ((r 4), .inl (cI, 81, .inl fla)), ((r 5), .inl (cI, 81, .inl ffi)), ((r 6), .inl (cI, 81, .inl fki)), ((r 7), .inl (cI, 81, .inl fra)), ((r 8), .inl (cI, 81, .inl fkn)), ((r 9), .inl (cI, 81, .inl fls)), ((r 10), .inl (cI, 81, .inl fpa)), ((r 11), .inl (cI, 81, .inl fe)), ((r 12), .inl (cI, 648, .inl fa)), ((r 13), .inl (cI, 648, .inl fk)), ((r 16), .inl (cI, 80, .inl li8)), ((r 18), .inl (cZ, 81, .inl go9))] H ∧ va_D A [((r 0), .inr (3, mf_D r 0 (nI n) nw pb (nI q8))), ((r 1), .inl (cI, 8, .inl fm)), ((r 3), .inl (cI, 81, .inl fco)), ((r 4), .inl (cI, 81, .inl fla)), ((r 5), .inl (cI, 81, .inl ffi)), ((r 6), .inl (cI, 81, .inl fki)), ((r 7), .inl (cI, 81, .inl fra)), ((r 8), .inl (cI, 81, .inl fkn)), ((r 9), .inl (cI, 81, .inl fls)), ((r 10), .inl (cI, 81, .inl fpa)), ((r 11), .inl (cI, 81, .inl fe)), ((r 12), .inl (cI, 648, .inl fa)), ((r 13), .inl (cI, 648, .inl fk)), ((r 16), .inl (cI, 80, .inl li8)), ((r 18), .inl (cZ, 81, .inl go9))] ∧ va_S A s.heap H locs ∧ lv_has ls 9 [(5, .int (nI j)), (0, .ref (r 0)), (1, .int a0), (2, .int a1), (3, .int a2), (4, .int a3)]) (fun j H locs ls hj hI9 ih2 => ?_) (fun H locs ls hI9 => ?_) 0 _ _ _ (Nat.zero_le _) ⟨0, fli, rfl, hP, hD, hS, (lv_sub hl [0, 1, 2, 3, 4, 5] rfl)⟩
            · obtain ⟨q8, li8, hexj, hP, hD, hS, hl⟩ := hI9
              have hBH := hB.at hS hA0
              refine lv_iload hx hb d_D_apply_119 (lv_at hl 0 rfl) ?_
              refine lv_bipush (v := 8) hx hb d_D_apply_121 (by decide) ?_
              refine lv_icmp_ge (tgt := 262) hx hb d_D_apply_123 (by decide) (fun c_26 => absurd c_26 (nI_ge (b := 8) hj (by decide))) (fun _ => ?_)
              refine lv_iconst (v := 1) hx hb d_D_apply_126 (by decide) ?_
              refine lv_istore (lv' := [(6, .int 1), (5, .int (nI j)), (0, .ref (r 0)), (1, .int a0), (2, .int a1), (3, .int a2), (4, .int a3)]) hx hb d_D_apply_127 hl (by decide) rfl (fun ls hl => ?_)
              refine mr_loop (N := n) (I := fun i H locs ls => ∃ q9 : Nat, ∃ li9 : Nat → Int32, (q9 = mr_tot (mv_ur (mv_gd fm fco fla ffi fkn fls fpa fe fa fk pb a0 a1 a2 a3) fco fki fra n) (mr_kd fki) n j + mr_cnt (mr_ofk (mv_ur (mv_gd fm fco fla ffi fkn fls fpa fe fa fk pb a0 a1 a2 a3) fco fki fra n) (mr_kd fki) j) i) ∧ va_P (dC, dI) mr_cl [((r 0), .inr (3, mf_D r 0 (nI n) nw pb (nI q9))), ((r 1), .inl (cI, 8, .inl fm)), ((r 3), .inl (cI, 81, .inl fco)), ((r 4), .inl (cI, 81, .inl fla)), ((r 5), .inl (cI, 81, .inl ffi)), ((r 6), .inl (cI, 81, .inl fki)), ((r 7), .inl (cI, 81, .inl fra)), ((r 8), .inl (cI, 81, .inl fkn)), ((r 9), .inl (cI, 81, .inl fls)), ((r 10), .inl (cI, 81, .inl fpa)), ((r 11), .inl (cI, 81, .inl fe)), ((r 12), .inl (cI, 648, .inl fa)), ((r 13), .inl (cI, 648, .inl fk)), ((r 16), .inl (cI, 80, .inl li9)), ((r 18), .inl (cZ, 81, .inl go9))] H ∧ va_D A [((r 0), .inr (3, mf_D r 0 (nI n) nw pb (nI q9))), ((r 1), .inl (cI, 8, .inl fm)), ((r 3), .inl (cI, 81, .inl fco)), ((r 4), .inl (cI, 81, .inl fla)), ((r 5), .inl (cI, 81, .inl ffi)), ((r 6), .inl (cI, 81, .inl fki)), ((r 7), .inl (cI, 81, .inl fra)), ((r 8), .inl (cI, 81, .inl fkn)), ((r 9), .inl (cI, 81, .inl fls)), ((r 10), .inl (cI, 81, .inl fpa)), ((r 11), .inl (cI, 81, .inl fe)), ((r 12), .inl (cI, 648, .inl fa)), ((r 13), .inl (cI, 648, .inl fk)), ((r 16), .inl (cI, 80, .inl li9)), ((r 18), .inl (cZ, 81, .inl go9))] ∧ va_S A s.heap H locs ∧ lv_has ls 9 [(6, .int (nI (i + 1))), (5, .int (nI j)), (0, .ref (r 0)), (1, .int a0), (2, .int a1), (3, .int a2), (4, .int a3)]) (fun i H locs ls hi9 hI9 ih3 => ?_) (fun H locs ls hI9 => ?_) 0 _ _ _ (Nat.zero_le _) ⟨q8, li8, hexj, hP, hD, hS, (lv_sub hl [0, 1, 2, 3, 4, 5, 6] rfl)⟩
              · obtain ⟨q9, li9, hexi, hP, hD, hS, hl⟩ := hI9
                have hBH := hB.at hS hA0
                refine lv_iload hx hb d_D_apply_129 (lv_at hl 0 rfl) ?_
                refine lv_aload_n hx hb d_D_apply_131 rfl (lv_at hl 2 rfl) ?_
                refine va_get (D := (dC, dI)) (ci := 3) (v := .int (nI n)) (C := R_D) (T := T_D) (N := 19) hx hb hts ti_D hown hK hP 0 rfl rfl 2 (by decide) (hts (Cond.fieldLink "MeasureRowsModel" 81 "MeasureRowsModel" "rows" "I") mw_294) (fun _ h9 => h9) rfl d_D_apply_132 ?_
                refine lv_icmp_gt (tgt := 256) hx hb d_D_apply_135 (by decide) (fun c_27 => absurd c_27 (nI_nlt (by omega) (by have := hM.1; omega))) (fun _ => ?_)
                refine lv_aload_n hx hb d_D_apply_138 rfl (lv_at hl 2 rfl) ?_
                refine va_get (D := (dC, dI)) (ci := 3) (v := .ref (r 18)) (C := R_D) (T := T_D) (N := 19) hx hb hts ti_D hown hK hP 0 rfl rfl 18 (by decide) (hts (Cond.fieldLink "MeasureRowsModel" 49 "MeasureRowsModel" "good" "[Z") mw_333) (fun _ h9 => h9) rfl d_D_apply_139 ?_
                refine lv_iload hx hb d_D_apply_142 (lv_at hl 0 rfl) ?_
                refine va_zald (D := (dC, dI)) hx hb hK hP 14 3 rfl rfl (i := nI (i + 1)) (nI_in (by have := hM.1; omega) (by decide)) d_D_apply_144 ?_
                refine mr_top (show go9 (nI (i + 1)).toNatClampNeg = go9 (i + 1) from mr_nc (by have := hM.1; omega)) ?_
                refine lv_if_eq (tgt := 164) hx hb d_D_apply_145 (by decide) (fun c_28 => ?_) (fun c_28 => ?_)
                · refine lv_iconst (v := 0) hx hb d_D_apply_164 (by decide) ?_
                  refine lv_istore (lv' := [(7, .int 0), (6, .int (nI (i + 1))), (5, .int (nI j)), (0, .ref (r 0)), (1, .int a0), (2, .int a1), (3, .int a2), (4, .int a3)]) hx hb d_D_apply_165 hl (by decide) rfl (fun ls hl => ?_)
                  refine lv_iconst (v := 1) hx hb d_D_apply_167 (by decide) ?_
                  refine lv_istore (lv' := [(8, .int 1), (7, .int 0), (6, .int (nI (i + 1))), (5, .int (nI j)), (0, .ref (r 0)), (1, .int a0), (2, .int a1), (3, .int a2), (4, .int a3)]) hx hb d_D_apply_168 hl (by decide) rfl (fun ls hl => ?_)
                  refine mr_loop (N := n) (I := fun x H locs ls => ∃ s7 : Int32, (s7 = 0) ∧ va_P (dC, dI) mr_cl [((r 0), .inr (3, mf_D r 0 (nI n) nw pb (nI q9))), ((r 1), .inl (cI, 8, .inl fm)), ((r 3), .inl (cI, 81, .inl fco)), ((r 4), .inl (cI, 81, .inl fla)), ((r 5), .inl (cI, 81, .inl ffi)), ((r 6), .inl (cI, 81, .inl fki)), ((r 7), .inl (cI, 81, .inl fra)), ((r 8), .inl (cI, 81, .inl fkn)), ((r 9), .inl (cI, 81, .inl fls)), ((r 10), .inl (cI, 81, .inl fpa)), ((r 11), .inl (cI, 81, .inl fe)), ((r 12), .inl (cI, 648, .inl fa)), ((r 13), .inl (cI, 648, .inl fk)), ((r 16), .inl (cI, 80, .inl li9)), ((r 18), .inl (cZ, 81, .inl go9))] H ∧ va_D A [((r 0), .inr (3, mf_D r 0 (nI n) nw pb (nI q9))), ((r 1), .inl (cI, 8, .inl fm)), ((r 3), .inl (cI, 81, .inl fco)), ((r 4), .inl (cI, 81, .inl fla)), ((r 5), .inl (cI, 81, .inl ffi)), ((r 6), .inl (cI, 81, .inl fki)), ((r 7), .inl (cI, 81, .inl fra)), ((r 8), .inl (cI, 81, .inl fkn)), ((r 9), .inl (cI, 81, .inl fls)), ((r 10), .inl (cI, 81, .inl fpa)), ((r 11), .inl (cI, 81, .inl fe)), ((r 12), .inl (cI, 648, .inl fa)), ((r 13), .inl (cI, 648, .inl fk)), ((r 16), .inl (cI, 80, .inl li9)), ((r 18), .inl (cZ, 81, .inl go9))] ∧ va_S A s.heap H locs ∧ lv_has ls 9 [(8, .int (nI (x + 1))), (7, .int s7), (6, .int (nI (i + 1))), (5, .int (nI j)), (0, .ref (r 0)), (1, .int a0), (2, .int a1), (3, .int a2), (4, .int a3)]) (fun x H locs ls hx9 hI9 ih4 => ?_) (fun H locs ls hI9 => ?_) 0 _ _ _ (Nat.zero_le _) ⟨0, rfl, hP, hD, hS, (lv_sub hl [0, 1, 2, 3, 4, 5, 6, 7, 8] rfl)⟩
                  · obtain ⟨s7, hexx, hP, hD, hS, hl⟩ := hI9
                    have hBH := hB.at hS hA0
                    refine lv_iload hx hb d_D_apply_170 (lv_at hl 0 rfl) ?_
                    refine lv_aload_n hx hb d_D_apply_172 rfl (lv_at hl 4 rfl) ?_
                    refine va_get (D := (dC, dI)) (ci := 3) (v := .int (nI n)) (C := R_D) (T := T_D) (N := 19) hx hb hts ti_D hown hK hP 0 rfl rfl 2 (by decide) (hts (Cond.fieldLink "MeasureRowsModel" 81 "MeasureRowsModel" "rows" "I") mw_294) (fun _ h9 => h9) rfl d_D_apply_173 ?_
                    refine lv_icmp_gt (tgt := 224) hx hb d_D_apply_176 (by decide) (fun c_29 => absurd c_29 (nI_nlt (by omega) (by have := hM.1; omega))) (fun _ => ?_)
                    refine lv_iload hx hb d_D_apply_179 (lv_at hl 3 rfl) ?_
                    refine lv_iconst (v := 4) hx hb d_D_apply_181 (by decide) ?_
                    refine lv_icmp_ge (tgt := 224) hx hb d_D_apply_182 (by decide) (fun c_30 => ?_) (fun c_30 => ?_)
                    · refine lv_iload hx hb d_D_apply_224 (lv_at hl 1 rfl) ?_
                      refine lv_if_eq (tgt := 250) hx hb d_D_apply_226 (by decide) (fun _ => ?_) (fun c_31 => absurd hexx c_31)
                      refine lv_iinc (v := nI ((i + 1) + 1)) (lv' := [(6, .int (nI ((i + 1) + 1))), (8, .int (nI (x + 1))), (7, .int s7), (5, .int (nI j)), (0, .ref (r 0)), (1, .int a0), (2, .int a1), (3, .int a2), (4, .int a3)]) hx hb d_D_apply_250 hl (k := 2) rfl ((nI_succ (i + 1)).symm) (by decide) rfl (fun ls hl => ?_)
                      refine lv_goto (tgt := 129) hx hb d_D_apply_253 (by decide) ?_
                      have hz9 := mr_urG (fco := fco) (fki := fki) (fra := fra) (n := n) (j := j) (show (mv_gd fm fco fla ffi fkn fls fpa fe fa fk pb a0 a1 a2 a3) i = 0 by rw [← hexy i hi9]; exact c_28)
                      exact ih3 _ _ _ ⟨q9, li9, (by rw [mr_cnt_n hz9]; exact hexi), hP, hD, hS, lv_sub hl [0, 3, 4, 5, 6, 7, 8] rfl⟩
                    · refine lv_iload hx hb d_D_apply_185 (lv_at hl 1 rfl) ?_
                      refine lv_if_eq (tgt := 215) hx hb d_D_apply_187 (by decide) (fun _ => ?_) (fun c_32 => absurd hexx c_32)
                      refine lv_iconst (v := 0) hx hb d_D_apply_215 (by decide) ?_
                      refine lv_istore (lv' := [(7, .int 0), (8, .int (nI (x + 1))), (6, .int (nI (i + 1))), (5, .int (nI j)), (0, .ref (r 0)), (1, .int a0), (2, .int a1), (3, .int a2), (4, .int a3)]) hx hb d_D_apply_216 hl (by decide) rfl (fun ls hl => ?_)
                      refine lv_iinc (v := nI ((x + 1) + 1)) (lv' := [(8, .int (nI ((x + 1) + 1))), (7, .int 0), (6, .int (nI (i + 1))), (5, .int (nI j)), (0, .ref (r 0)), (1, .int a0), (2, .int a1), (3, .int a2), (4, .int a3)]) hx hb d_D_apply_218 hl (k := 1) rfl ((nI_succ (x + 1)).symm) (by decide) rfl (fun ls hl => ?_)
                      refine lv_goto (tgt := 170) hx hb d_D_apply_221 (by decide) ?_
                      exact ih4 _ _ _ ⟨0, rfl, hP, hD, hS, lv_sub hl [0, 1, 2, 3, 4, 5, 6, 7, 8] rfl⟩
                  · obtain ⟨s7, hexx, hP, hD, hS, hl⟩ := hI9
                    have hBH := hB.at hS hA0
                    refine lv_iload hx hb d_D_apply_170 (lv_at hl 0 rfl) ?_
                    refine lv_aload_n hx hb d_D_apply_172 rfl (lv_at hl 4 rfl) ?_
                    refine va_get (D := (dC, dI)) (ci := 3) (v := .int (nI n)) (C := R_D) (T := T_D) (N := 19) hx hb hts ti_D hown hK hP 0 rfl rfl 2 (by decide) (hts (Cond.fieldLink "MeasureRowsModel" 81 "MeasureRowsModel" "rows" "I") mw_294) (fun _ h9 => h9) rfl d_D_apply_173 ?_
                    refine lv_icmp_gt (tgt := 224) hx hb d_D_apply_176 (by decide) (fun _ => ?_) (fun c_33 => absurd (nI_lt (by omega) (by have := hM.1; omega)) c_33)
                    refine lv_iload hx hb d_D_apply_224 (lv_at hl 1 rfl) ?_
                    refine lv_if_eq (tgt := 250) hx hb d_D_apply_226 (by decide) (fun _ => ?_) (fun c_34 => absurd hexx c_34)
                    refine lv_iinc (v := nI ((i + 1) + 1)) (lv' := [(6, .int (nI ((i + 1) + 1))), (8, .int (nI (n + 1))), (7, .int s7), (5, .int (nI j)), (0, .ref (r 0)), (1, .int a0), (2, .int a1), (3, .int a2), (4, .int a3)]) hx hb d_D_apply_250 hl (k := 2) rfl ((nI_succ (i + 1)).symm) (by decide) rfl (fun ls hl => ?_)
                    refine lv_goto (tgt := 129) hx hb d_D_apply_253 (by decide) ?_
                    have hz9 := mr_urG (fco := fco) (fki := fki) (fra := fra) (n := n) (j := j) (show (mv_gd fm fco fla ffi fkn fls fpa fe fa fk pb a0 a1 a2 a3) i = 0 by rw [← hexy i hi9]; exact c_28)
                    exact ih3 _ _ _ ⟨q9, li9, (by rw [mr_cnt_n hz9]; exact hexi), hP, hD, hS, lv_sub hl [0, 3, 4, 5, 6, 7, 8] rfl⟩
                · refine lv_aload_n hx hb d_D_apply_148 rfl (lv_at hl 2 rfl) ?_
                  refine va_get (D := (dC, dI)) (ci := 3) (v := .ref (r 6)) (C := R_D) (T := T_D) (N := 19) hx hb hts ti_D hown hK hP 0 rfl rfl 6 (by decide) (hts (Cond.fieldLink "MeasureRowsModel" 22 "MeasureRowsModel" "kind" "[I") mw_271) (fun _ h9 => h9) rfl d_D_apply_149 ?_
                  refine lv_iload hx hb d_D_apply_152 (lv_at hl 0 rfl) ?_
                  refine va_iald (D := (dC, dI)) hx hb hK hP 5 0 rfl rfl (i := nI (i + 1)) (nI_in (by have := hM.1; omega) (by decide)) d_D_apply_154 ?_
                  refine mr_top (show fki (nI (i + 1)).toNatClampNeg = fki (i + 1) from mr_nc (by have := hM.1; omega)) ?_
                  refine lv_iload hx hb d_D_apply_155 (lv_at hl 1 rfl) ?_
                  refine lv_icmp_ne (tgt := 164) hx hb d_D_apply_157 (by decide) (fun c_35 => ?_) (fun c_35 => ?_)
                  · refine lv_iconst (v := 0) hx hb d_D_apply_164 (by decide) ?_
                    refine lv_istore (lv' := [(7, .int 0), (6, .int (nI (i + 1))), (5, .int (nI j)), (0, .ref (r 0)), (1, .int a0), (2, .int a1), (3, .int a2), (4, .int a3)]) hx hb d_D_apply_165 hl (by decide) rfl (fun ls hl => ?_)
                    refine lv_iconst (v := 1) hx hb d_D_apply_167 (by decide) ?_
                    refine lv_istore (lv' := [(8, .int 1), (7, .int 0), (6, .int (nI (i + 1))), (5, .int (nI j)), (0, .ref (r 0)), (1, .int a0), (2, .int a1), (3, .int a2), (4, .int a3)]) hx hb d_D_apply_168 hl (by decide) rfl (fun ls hl => ?_)
                    refine mr_loop (N := n) (I := fun x H locs ls => ∃ s7 : Int32, (s7 = 0) ∧ va_P (dC, dI) mr_cl [((r 0), .inr (3, mf_D r 0 (nI n) nw pb (nI q9))), ((r 1), .inl (cI, 8, .inl fm)), ((r 3), .inl (cI, 81, .inl fco)), ((r 4), .inl (cI, 81, .inl fla)), ((r 5), .inl (cI, 81, .inl ffi)), ((r 6), .inl (cI, 81, .inl fki)), ((r 7), .inl (cI, 81, .inl fra)), ((r 8), .inl (cI, 81, .inl fkn)), ((r 9), .inl (cI, 81, .inl fls)), ((r 10), .inl (cI, 81, .inl fpa)), ((r 11), .inl (cI, 81, .inl fe)), ((r 12), .inl (cI, 648, .inl fa)), ((r 13), .inl (cI, 648, .inl fk)), ((r 16), .inl (cI, 80, .inl li9)), ((r 18), .inl (cZ, 81, .inl go9))] H ∧ va_D A [((r 0), .inr (3, mf_D r 0 (nI n) nw pb (nI q9))), ((r 1), .inl (cI, 8, .inl fm)), ((r 3), .inl (cI, 81, .inl fco)), ((r 4), .inl (cI, 81, .inl fla)), ((r 5), .inl (cI, 81, .inl ffi)), ((r 6), .inl (cI, 81, .inl fki)), ((r 7), .inl (cI, 81, .inl fra)), ((r 8), .inl (cI, 81, .inl fkn)), ((r 9), .inl (cI, 81, .inl fls)), ((r 10), .inl (cI, 81, .inl fpa)), ((r 11), .inl (cI, 81, .inl fe)), ((r 12), .inl (cI, 648, .inl fa)), ((r 13), .inl (cI, 648, .inl fk)), ((r 16), .inl (cI, 80, .inl li9)), ((r 18), .inl (cZ, 81, .inl go9))] ∧ va_S A s.heap H locs ∧ lv_has ls 9 [(8, .int (nI (x + 1))), (7, .int s7), (6, .int (nI (i + 1))), (5, .int (nI j)), (0, .ref (r 0)), (1, .int a0), (2, .int a1), (3, .int a2), (4, .int a3)]) (fun x H locs ls hx9 hI9 ih4 => ?_) (fun H locs ls hI9 => ?_) 0 _ _ _ (Nat.zero_le _) ⟨0, rfl, hP, hD, hS, (lv_sub hl [0, 1, 2, 3, 4, 5, 6, 7, 8] rfl)⟩
                    · obtain ⟨s7, hexx, hP, hD, hS, hl⟩ := hI9
                      have hBH := hB.at hS hA0
                      refine lv_iload hx hb d_D_apply_170 (lv_at hl 0 rfl) ?_
                      refine lv_aload_n hx hb d_D_apply_172 rfl (lv_at hl 4 rfl) ?_
                      refine va_get (D := (dC, dI)) (ci := 3) (v := .int (nI n)) (C := R_D) (T := T_D) (N := 19) hx hb hts ti_D hown hK hP 0 rfl rfl 2 (by decide) (hts (Cond.fieldLink "MeasureRowsModel" 81 "MeasureRowsModel" "rows" "I") mw_294) (fun _ h9 => h9) rfl d_D_apply_173 ?_
                      refine lv_icmp_gt (tgt := 224) hx hb d_D_apply_176 (by decide) (fun c_36 => absurd c_36 (nI_nlt (by omega) (by have := hM.1; omega))) (fun _ => ?_)
                      refine lv_iload hx hb d_D_apply_179 (lv_at hl 3 rfl) ?_
                      refine lv_iconst (v := 4) hx hb d_D_apply_181 (by decide) ?_
                      refine lv_icmp_ge (tgt := 224) hx hb d_D_apply_182 (by decide) (fun c_37 => ?_) (fun c_37 => ?_)
                      · refine lv_iload hx hb d_D_apply_224 (lv_at hl 1 rfl) ?_
                        refine lv_if_eq (tgt := 250) hx hb d_D_apply_226 (by decide) (fun _ => ?_) (fun c_38 => absurd hexx c_38)
                        refine lv_iinc (v := nI ((i + 1) + 1)) (lv' := [(6, .int (nI ((i + 1) + 1))), (8, .int (nI (x + 1))), (7, .int s7), (5, .int (nI j)), (0, .ref (r 0)), (1, .int a0), (2, .int a1), (3, .int a2), (4, .int a3)]) hx hb d_D_apply_250 hl (k := 2) rfl ((nI_succ (i + 1)).symm) (by decide) rfl (fun ls hl => ?_)
                        refine lv_goto (tgt := 129) hx hb d_D_apply_253 (by decide) ?_
                        have hz9 := mr_urK (G := (mv_gd fm fco fla ffi fkn fls fpa fe fa fk pb a0 a1 a2 a3)) (fco := fco) (fki := fki) (fra := fra) (n := n) (j := j) (i := i) (mr_kdn hN8 hi9 hj c_35)
                        exact ih3 _ _ _ ⟨q9, li9, (by rw [mr_cnt_n hz9]; exact hexi), hP, hD, hS, lv_sub hl [0, 3, 4, 5, 6, 7, 8] rfl⟩
                      · refine lv_iload hx hb d_D_apply_185 (lv_at hl 1 rfl) ?_
                        refine lv_if_eq (tgt := 215) hx hb d_D_apply_187 (by decide) (fun _ => ?_) (fun c_39 => absurd hexx c_39)
                        refine lv_iconst (v := 0) hx hb d_D_apply_215 (by decide) ?_
                        refine lv_istore (lv' := [(7, .int 0), (8, .int (nI (x + 1))), (6, .int (nI (i + 1))), (5, .int (nI j)), (0, .ref (r 0)), (1, .int a0), (2, .int a1), (3, .int a2), (4, .int a3)]) hx hb d_D_apply_216 hl (by decide) rfl (fun ls hl => ?_)
                        refine lv_iinc (v := nI ((x + 1) + 1)) (lv' := [(8, .int (nI ((x + 1) + 1))), (7, .int 0), (6, .int (nI (i + 1))), (5, .int (nI j)), (0, .ref (r 0)), (1, .int a0), (2, .int a1), (3, .int a2), (4, .int a3)]) hx hb d_D_apply_218 hl (k := 1) rfl ((nI_succ (x + 1)).symm) (by decide) rfl (fun ls hl => ?_)
                        refine lv_goto (tgt := 170) hx hb d_D_apply_221 (by decide) ?_
                        exact ih4 _ _ _ ⟨0, rfl, hP, hD, hS, lv_sub hl [0, 1, 2, 3, 4, 5, 6, 7, 8] rfl⟩
                    · obtain ⟨s7, hexx, hP, hD, hS, hl⟩ := hI9
                      have hBH := hB.at hS hA0
                      refine lv_iload hx hb d_D_apply_170 (lv_at hl 0 rfl) ?_
                      refine lv_aload_n hx hb d_D_apply_172 rfl (lv_at hl 4 rfl) ?_
                      refine va_get (D := (dC, dI)) (ci := 3) (v := .int (nI n)) (C := R_D) (T := T_D) (N := 19) hx hb hts ti_D hown hK hP 0 rfl rfl 2 (by decide) (hts (Cond.fieldLink "MeasureRowsModel" 81 "MeasureRowsModel" "rows" "I") mw_294) (fun _ h9 => h9) rfl d_D_apply_173 ?_
                      refine lv_icmp_gt (tgt := 224) hx hb d_D_apply_176 (by decide) (fun _ => ?_) (fun c_40 => absurd (nI_lt (by omega) (by have := hM.1; omega)) c_40)
                      refine lv_iload hx hb d_D_apply_224 (lv_at hl 1 rfl) ?_
                      refine lv_if_eq (tgt := 250) hx hb d_D_apply_226 (by decide) (fun _ => ?_) (fun c_41 => absurd hexx c_41)
                      refine lv_iinc (v := nI ((i + 1) + 1)) (lv' := [(6, .int (nI ((i + 1) + 1))), (8, .int (nI (n + 1))), (7, .int s7), (5, .int (nI j)), (0, .ref (r 0)), (1, .int a0), (2, .int a1), (3, .int a2), (4, .int a3)]) hx hb d_D_apply_250 hl (k := 2) rfl ((nI_succ (i + 1)).symm) (by decide) rfl (fun ls hl => ?_)
                      refine lv_goto (tgt := 129) hx hb d_D_apply_253 (by decide) ?_
                      have hz9 := mr_urK (G := (mv_gd fm fco fla ffi fkn fls fpa fe fa fk pb a0 a1 a2 a3)) (fco := fco) (fki := fki) (fra := fra) (n := n) (j := j) (i := i) (mr_kdn hN8 hi9 hj c_35)
                      exact ih3 _ _ _ ⟨q9, li9, (by rw [mr_cnt_n hz9]; exact hexi), hP, hD, hS, lv_sub hl [0, 3, 4, 5, 6, 7, 8] rfl⟩
                  · refine lv_iconst (v := 1) hx hb d_D_apply_160 (by decide) ?_
                    refine lv_goto (tgt := 165) hx hb d_D_apply_161 (by decide) ?_
                    refine lv_istore (lv' := [(7, .int 1), (6, .int (nI (i + 1))), (5, .int (nI j)), (0, .ref (r 0)), (1, .int a0), (2, .int a1), (3, .int a2), (4, .int a3)]) hx hb d_D_apply_165 hl (by decide) rfl (fun ls hl => ?_)
                    refine lv_iconst (v := 1) hx hb d_D_apply_167 (by decide) ?_
                    refine lv_istore (lv' := [(8, .int 1), (7, .int 1), (6, .int (nI (i + 1))), (5, .int (nI j)), (0, .ref (r 0)), (1, .int a0), (2, .int a1), (3, .int a2), (4, .int a3)]) hx hb d_D_apply_168 hl (by decide) rfl (fun ls hl => ?_)
                    refine mr_loop (N := n) (I := fun x H locs ls => ∃ s7 : Int32, ((x = 0 ∨ j < 4) ∧ s7 = (if mr_cnt (mv_bx (mv_gd fm fco fla ffi fkn fls fpa fe fa fk pb a0 a1 a2 a3) fco fki fra i) x = 0 then 1 else 0)) ∧ va_P (dC, dI) mr_cl [((r 0), .inr (3, mf_D r 0 (nI n) nw pb (nI q9))), ((r 1), .inl (cI, 8, .inl fm)), ((r 3), .inl (cI, 81, .inl fco)), ((r 4), .inl (cI, 81, .inl fla)), ((r 5), .inl (cI, 81, .inl ffi)), ((r 6), .inl (cI, 81, .inl fki)), ((r 7), .inl (cI, 81, .inl fra)), ((r 8), .inl (cI, 81, .inl fkn)), ((r 9), .inl (cI, 81, .inl fls)), ((r 10), .inl (cI, 81, .inl fpa)), ((r 11), .inl (cI, 81, .inl fe)), ((r 12), .inl (cI, 648, .inl fa)), ((r 13), .inl (cI, 648, .inl fk)), ((r 16), .inl (cI, 80, .inl li9)), ((r 18), .inl (cZ, 81, .inl go9))] H ∧ va_D A [((r 0), .inr (3, mf_D r 0 (nI n) nw pb (nI q9))), ((r 1), .inl (cI, 8, .inl fm)), ((r 3), .inl (cI, 81, .inl fco)), ((r 4), .inl (cI, 81, .inl fla)), ((r 5), .inl (cI, 81, .inl ffi)), ((r 6), .inl (cI, 81, .inl fki)), ((r 7), .inl (cI, 81, .inl fra)), ((r 8), .inl (cI, 81, .inl fkn)), ((r 9), .inl (cI, 81, .inl fls)), ((r 10), .inl (cI, 81, .inl fpa)), ((r 11), .inl (cI, 81, .inl fe)), ((r 12), .inl (cI, 648, .inl fa)), ((r 13), .inl (cI, 648, .inl fk)), ((r 16), .inl (cI, 80, .inl li9)), ((r 18), .inl (cZ, 81, .inl go9))] ∧ va_S A s.heap H locs ∧ lv_has ls 9 [(8, .int (nI (x + 1))), (7, .int s7), (6, .int (nI (i + 1))), (5, .int (nI j)), (0, .ref (r 0)), (1, .int a0), (2, .int a1), (3, .int a2), (4, .int a3)]) (fun x H locs ls hx9 hI9 ih4 => ?_) (fun H locs ls hI9 => ?_) 0 _ _ _ (Nat.zero_le _) ⟨1, ⟨Or.inl rfl, rfl⟩, hP, hD, hS, (lv_sub hl [0, 1, 2, 3, 4, 5, 6, 7, 8] rfl)⟩
                    · obtain ⟨s7, hexx, hP, hD, hS, hl⟩ := hI9
                      have hBH := hB.at hS hA0
                      refine lv_iload hx hb d_D_apply_170 (lv_at hl 0 rfl) ?_
                      refine lv_aload_n hx hb d_D_apply_172 rfl (lv_at hl 4 rfl) ?_
                      refine va_get (D := (dC, dI)) (ci := 3) (v := .int (nI n)) (C := R_D) (T := T_D) (N := 19) hx hb hts ti_D hown hK hP 0 rfl rfl 2 (by decide) (hts (Cond.fieldLink "MeasureRowsModel" 81 "MeasureRowsModel" "rows" "I") mw_294) (fun _ h9 => h9) rfl d_D_apply_173 ?_
                      refine lv_icmp_gt (tgt := 224) hx hb d_D_apply_176 (by decide) (fun c_42 => absurd c_42 (nI_nlt (by omega) (by have := hM.1; omega))) (fun _ => ?_)
                      refine lv_iload hx hb d_D_apply_179 (lv_at hl 3 rfl) ?_
                      refine lv_iconst (v := 4) hx hb d_D_apply_181 (by decide) ?_
                      refine lv_icmp_ge (tgt := 224) hx hb d_D_apply_182 (by decide) (fun c_43 => ?_) (fun c_43 => ?_)
                      · have hG9 : ¬ (mv_gd fm fco fla ffi fkn fls fpa fe fa fk pb a0 a1 a2 a3) i = 0 := by rw [← hexy i hi9]; exact c_28
                        have hkj9 : mr_kd fki i = j := mr_kdj c_35 hj
                        have hs7 : s7 = (mv_ur (mv_gd fm fco fla ffi fkn fls fpa fe fa fk pb a0 a1 a2 a3) fco fki fra n) i := mr_ur4 hG9 hkj9 (mr_j4n c_43) hexx.1 hexx.2
                        refine lv_iload hx hb d_D_apply_224 (lv_at hl 1 rfl) ?_
                        refine lv_if_eq (tgt := 250) hx hb d_D_apply_226 (by decide) (fun c_44 => ?_) (fun c_44 => ?_)
                        · refine lv_iinc (v := nI ((i + 1) + 1)) (lv' := [(6, .int (nI ((i + 1) + 1))), (8, .int (nI (x + 1))), (7, .int s7), (5, .int (nI j)), (0, .ref (r 0)), (1, .int a0), (2, .int a1), (3, .int a2), (4, .int a3)]) hx hb d_D_apply_250 hl (k := 2) rfl ((nI_succ (i + 1)).symm) (by decide) rfl (fun ls hl => ?_)
                          refine lv_goto (tgt := 129) hx hb d_D_apply_253 (by decide) ?_
                          have hz8 := mr_urS hkj9 hs7
                          exact ih3 _ _ _ ⟨q9, li9, (by rw [mr_cnt_n (hz8.trans c_44)]; exact hexi), hP, hD, hS, lv_sub hl [0, 3, 4, 5, 6, 7, 8] rfl⟩
                        · have hb9 : q9 < 80 := by have h9 := mr_totU (mv_ur (mv_gd fm fco fla ffi fkn fls fpa fe fa fk pb a0 a1 a2 a3) fco fki fra n) (mr_kd fki) (n := n) (M := i + 1) j (by omega); rw [mr_cnt_y (fun h => c_44 ((mr_urS hkj9 hs7).symm.trans h))] at h9; have := hexi; have := hM.1; omega
                          refine lv_aload_n hx hb d_D_apply_229 rfl (lv_at hl 4 rfl) ?_
                          refine va_get (D := (dC, dI)) (ci := 3) (v := .ref (r 16)) (C := R_D) (T := T_D) (N := 19) hx hb hts ti_D hown hK hP 0 rfl rfl 16 (by decide) (hts (Cond.fieldLink "MeasureRowsModel" 46 "MeasureRowsModel" "list" "[I") mw_313) (fun _ h9 => h9) rfl d_D_apply_230 ?_
                          refine lv_aload_n hx hb d_D_apply_233 rfl (lv_at hl 4 rfl) ?_
                          refine va_get (D := (dC, dI)) (ci := 3) (v := .int (nI q9)) (C := R_D) (T := T_D) (N := 19) hx hb hts ti_D hown hK hP 0 rfl rfl 17 (by decide) (hts (Cond.fieldLink "MeasureRowsModel" 124 "MeasureRowsModel" "listed" "I") mw_312) (fun _ h9 => h9) rfl d_D_apply_234 ?_
                          refine lv_iload hx hb d_D_apply_237 (lv_at hl 2 rfl) ?_
                          refine va_iast (D := (dC, dI)) hx hb hK hP hD hS 13 0 rfl rfl (i := (nI q9)) (nI_in hb9 (by decide)) d_D_apply_239 (fun H locs hP hD hS => ?_)
                          have hP : va_P (dC, dI) mr_cl [((r 0), .inr (3, mf_D r 0 (nI n) nw pb (nI q9))), ((r 1), .inl (cI, 8, .inl fm)), ((r 3), .inl (cI, 81, .inl fco)), ((r 4), .inl (cI, 81, .inl fla)), ((r 5), .inl (cI, 81, .inl ffi)), ((r 6), .inl (cI, 81, .inl fki)), ((r 7), .inl (cI, 81, .inl fra)), ((r 8), .inl (cI, 81, .inl fkn)), ((r 9), .inl (cI, 81, .inl fls)), ((r 10), .inl (cI, 81, .inl fpa)), ((r 11), .inl (cI, 81, .inl fe)), ((r 12), .inl (cI, 648, .inl fa)), ((r 13), .inl (cI, 648, .inl fk)), ((r 16), .inl (cI, 80, .inl (upd li9 (nI q9).toNatClampNeg (nI (i + 1))))), ((r 18), .inl (cZ, 81, .inl go9))] H := hP
                          have hD : va_D A [((r 0), .inr (3, mf_D r 0 (nI n) nw pb (nI q9))), ((r 1), .inl (cI, 8, .inl fm)), ((r 3), .inl (cI, 81, .inl fco)), ((r 4), .inl (cI, 81, .inl fla)), ((r 5), .inl (cI, 81, .inl ffi)), ((r 6), .inl (cI, 81, .inl fki)), ((r 7), .inl (cI, 81, .inl fra)), ((r 8), .inl (cI, 81, .inl fkn)), ((r 9), .inl (cI, 81, .inl fls)), ((r 10), .inl (cI, 81, .inl fpa)), ((r 11), .inl (cI, 81, .inl fe)), ((r 12), .inl (cI, 648, .inl fa)), ((r 13), .inl (cI, 648, .inl fk)), ((r 16), .inl (cI, 80, .inl (upd li9 (nI q9).toNatClampNeg (nI (i + 1))))), ((r 18), .inl (cZ, 81, .inl go9))] := hD
                          have hBH := hB.at hS hA0
                          refine lv_aload_n hx hb d_D_apply_240 rfl (lv_at hl 4 rfl) ?_
                          refine lv_dup hx hb d_D_apply_241 rfl ?_
                          refine va_get (D := (dC, dI)) (ci := 3) (v := .int (nI q9)) (C := R_D) (T := T_D) (N := 19) hx hb hts ti_D hown hK hP 0 rfl rfl 17 (by decide) (hts (Cond.fieldLink "MeasureRowsModel" 124 "MeasureRowsModel" "listed" "I") mw_312) (fun _ h9 => h9) rfl d_D_apply_242 ?_
                          refine lv_iconst (v := 1) hx hb d_D_apply_245 (by decide) ?_
                          refine lv_iadd hx hb d_D_apply_246 ?_
                          refine mr_top (nI_1 q9) ?_
                          refine va_put (D := (dC, dI)) (ci := 3) (v := .int (nI (q9 + 1))) (ty := .int) (C := R_D) (T := T_D) (N := 19) hx hb hts ti_D t_D to_D tn_D hown hK hP hD hS 0 rfl rfl 17 (by decide) (hts (Cond.fieldLink "MeasureRowsModel" 124 "MeasureRowsModel" "listed" "I") mw_312) (fun _ h9 => h9) rfl (by decide +kernel) rfl rfl (Nat.le_of_ble_eq_true rfl) d_D_apply_247 (fun H locs hP hD hS => ?_)
                          have hP : va_P (dC, dI) mr_cl [((r 0), .inr (3, mf_D r 0 (nI n) nw pb (nI (q9 + 1)))), ((r 1), .inl (cI, 8, .inl fm)), ((r 3), .inl (cI, 81, .inl fco)), ((r 4), .inl (cI, 81, .inl fla)), ((r 5), .inl (cI, 81, .inl ffi)), ((r 6), .inl (cI, 81, .inl fki)), ((r 7), .inl (cI, 81, .inl fra)), ((r 8), .inl (cI, 81, .inl fkn)), ((r 9), .inl (cI, 81, .inl fls)), ((r 10), .inl (cI, 81, .inl fpa)), ((r 11), .inl (cI, 81, .inl fe)), ((r 12), .inl (cI, 648, .inl fa)), ((r 13), .inl (cI, 648, .inl fk)), ((r 16), .inl (cI, 80, .inl (upd li9 (nI q9).toNatClampNeg (nI (i + 1))))), ((r 18), .inl (cZ, 81, .inl go9))] H := hP
                          have hD : va_D A [((r 0), .inr (3, mf_D r 0 (nI n) nw pb (nI (q9 + 1)))), ((r 1), .inl (cI, 8, .inl fm)), ((r 3), .inl (cI, 81, .inl fco)), ((r 4), .inl (cI, 81, .inl fla)), ((r 5), .inl (cI, 81, .inl ffi)), ((r 6), .inl (cI, 81, .inl fki)), ((r 7), .inl (cI, 81, .inl fra)), ((r 8), .inl (cI, 81, .inl fkn)), ((r 9), .inl (cI, 81, .inl fls)), ((r 10), .inl (cI, 81, .inl fpa)), ((r 11), .inl (cI, 81, .inl fe)), ((r 12), .inl (cI, 648, .inl fa)), ((r 13), .inl (cI, 648, .inl fk)), ((r 16), .inl (cI, 80, .inl (upd li9 (nI q9).toNatClampNeg (nI (i + 1))))), ((r 18), .inl (cZ, 81, .inl go9))] := hD
                          have hBH := hB.at hS hA0
                          refine lv_iinc (v := nI ((i + 1) + 1)) (lv' := [(6, .int (nI ((i + 1) + 1))), (8, .int (nI (x + 1))), (7, .int s7), (5, .int (nI j)), (0, .ref (r 0)), (1, .int a0), (2, .int a1), (3, .int a2), (4, .int a3)]) hx hb d_D_apply_250 hl (k := 2) rfl ((nI_succ (i + 1)).symm) (by decide) rfl (fun ls hl => ?_)
                          refine lv_goto (tgt := 129) hx hb d_D_apply_253 (by decide) ?_
                          have hz8 := mr_urS hkj9 hs7
                          exact ih3 _ _ _ ⟨(q9 + 1), (upd li9 (nI q9).toNatClampNeg (nI (i + 1))), (by rw [mr_cnt_y (fun h => c_44 (hz8.symm.trans h)), ← Nat.add_assoc, ← hexi]), hP, hD, hS, lv_sub hl [0, 3, 4, 5, 6, 7, 8] rfl⟩
                      · refine lv_iload hx hb d_D_apply_185 (lv_at hl 1 rfl) ?_
                        refine lv_if_eq (tgt := 215) hx hb d_D_apply_187 (by decide) (fun c_46 => ?_) (fun c_46 => ?_)
                        · refine lv_iconst (v := 0) hx hb d_D_apply_215 (by decide) ?_
                          refine lv_istore (lv' := [(7, .int 0), (8, .int (nI (x + 1))), (6, .int (nI (i + 1))), (5, .int (nI j)), (0, .ref (r 0)), (1, .int a0), (2, .int a1), (3, .int a2), (4, .int a3)]) hx hb d_D_apply_216 hl (by decide) rfl (fun ls hl => ?_)
                          refine lv_iinc (v := nI ((x + 1) + 1)) (lv' := [(8, .int (nI ((x + 1) + 1))), (7, .int 0), (6, .int (nI (i + 1))), (5, .int (nI j)), (0, .ref (r 0)), (1, .int a0), (2, .int a1), (3, .int a2), (4, .int a3)]) hx hb d_D_apply_218 hl (k := 1) rfl ((nI_succ (x + 1)).symm) (by decide) rfl (fun ls hl => ?_)
                          refine lv_goto (tgt := 170) hx hb d_D_apply_221 (by decide) ?_
                          exact ih4 _ _ _ ⟨0, ⟨Or.inr (mr_j4 c_43 hj), mr_bxA hexx.2 c_46⟩, hP, hD, hS, lv_sub hl [0, 1, 2, 3, 4, 5, 6, 7, 8] rfl⟩
                        · refine lv_aload_n hx hb d_D_apply_190 rfl (lv_at hl 4 rfl) ?_
                          refine va_get (D := (dC, dI)) (ci := 3) (v := .ref (r 18)) (C := R_D) (T := T_D) (N := 19) hx hb hts ti_D hown hK hP 0 rfl rfl 18 (by decide) (hts (Cond.fieldLink "MeasureRowsModel" 49 "MeasureRowsModel" "good" "[Z") mw_333) (fun _ h9 => h9) rfl d_D_apply_191 ?_
                          refine lv_iload hx hb d_D_apply_194 (lv_at hl 0 rfl) ?_
                          refine va_zald (D := (dC, dI)) hx hb hK hP 14 3 rfl rfl (i := nI (x + 1)) (nI_in (by have := hM.1; omega) (by decide)) d_D_apply_196 ?_
                          refine mr_top (show go9 (nI (x + 1)).toNatClampNeg = go9 (x + 1) from mr_nc (by have := hM.1; omega)) ?_
                          refine lv_if_eq (tgt := 211) hx hb d_D_apply_197 (by decide) (fun c_47 => ?_) (fun c_47 => ?_)
                          · refine lv_iconst (v := 1) hx hb d_D_apply_211 (by decide) ?_
                            refine lv_goto (tgt := 216) hx hb d_D_apply_212 (by decide) ?_
                            refine lv_istore (lv' := [(7, .int 1), (8, .int (nI (x + 1))), (6, .int (nI (i + 1))), (5, .int (nI j)), (0, .ref (r 0)), (1, .int a0), (2, .int a1), (3, .int a2), (4, .int a3)]) hx hb d_D_apply_216 hl (by decide) rfl (fun ls hl => ?_)
                            refine lv_iinc (v := nI ((x + 1) + 1)) (lv' := [(8, .int (nI ((x + 1) + 1))), (7, .int 1), (6, .int (nI (i + 1))), (5, .int (nI j)), (0, .ref (r 0)), (1, .int a0), (2, .int a1), (3, .int a2), (4, .int a3)]) hx hb d_D_apply_218 hl (k := 1) rfl ((nI_succ (x + 1)).symm) (by decide) rfl (fun ls hl => ?_)
                            refine lv_goto (tgt := 170) hx hb d_D_apply_221 (by decide) ?_
                            exact ih4 _ _ _ ⟨1, ⟨Or.inr (mr_j4 c_43 hj), mr_bxZ hexx.2 c_46 (by unfold mv_bx; rw [if_pos (by rw [← hexy x hx9]; exact c_47)])⟩, hP, hD, hS, lv_sub hl [0, 1, 2, 3, 4, 5, 6, 7, 8] rfl⟩
                          · refine lv_aload_n hx hb d_D_apply_200 rfl (lv_at hl 4 rfl) ?_
                            refine lv_iload hx hb d_D_apply_201 (lv_at hl 0 rfl) ?_
                            refine lv_iload hx hb d_D_apply_203 (lv_at hl 2 rfl) ?_
                            refine vp_callSi (va_Run.run (va_runV (As := [.int (nI (x + 1)), .int (nI (i + 1))]) (rest := []) (C := R_D) ⟨hx, hb, hml, hown, hts⟩ (mc_D_beatsX l s0 dC dI cI cR cL cZ r 0 nw pb (nI q9) n fco fki fra fe (x + 1) (i + 1) (by omega) (by omega) hM) ⟨(mr_cB 2 (hts (Cond.code y_D_beats b_D_beats 5 (some .boolean)) mw_334) (hts (Cond.initialized y_D_beats.cls) mw_335) (hts (Cond.methodLink "MeasureRowsModel" 127 y_D_beats) mw_336) rfl rfl (by decide +kernel) ⟨Nat.le_of_ble_eq_true rfl, Nat.le_of_ble_eq_true rfl⟩), (hts (Cond.instanceMethod y_D_beats) mw_337), (hts (Cond.selects "MeasureRowsModel" y_D_beats y_D_beats) mw_338)⟩ (mr_preV hBH hK (hP.sub (ws' := [((r 0), .inr (3, mf_D r 0 (nI n) nw pb (nI q9))), ((r 3), .inl (cI, 81, .inl fco)), ((r 6), .inl (cI, 81, .inl fki)), ((r 7), .inl (cI, 81, .inl fra)), ((r 11), .inl (cI, 81, .inl fe))]) [0, 2, 5, 6, 10] rfl) (ci := 3) (q0 := 0) rfl rfl) rfl rfl hl.1 rfl (lv_room (Nat.le_of_ble_eq_true rfl)) d_D_apply_205 ⟨Nat.le_of_ble_eq_true rfl, Nat.le_of_ble_eq_true rfl⟩)) (fun r_48 h_49 => ?_)
                            subst h_49
                            refine lv_if_ne (tgt := 215) hx hb d_D_apply_208 (by decide) (fun c_50 => ?_) (fun c_50 => ?_)
                            · refine lv_iconst (v := 0) hx hb d_D_apply_215 (by decide) ?_
                              refine lv_istore (lv' := [(7, .int 0), (8, .int (nI (x + 1))), (6, .int (nI (i + 1))), (5, .int (nI j)), (0, .ref (r 0)), (1, .int a0), (2, .int a1), (3, .int a2), (4, .int a3)]) hx hb d_D_apply_216 hl (by decide) rfl (fun ls hl => ?_)
                              refine lv_iinc (v := nI ((x + 1) + 1)) (lv' := [(8, .int (nI ((x + 1) + 1))), (7, .int 0), (6, .int (nI (i + 1))), (5, .int (nI j)), (0, .ref (r 0)), (1, .int a0), (2, .int a1), (3, .int a2), (4, .int a3)]) hx hb d_D_apply_218 hl (k := 1) rfl ((nI_succ (x + 1)).symm) (by decide) rfl (fun ls hl => ?_)
                              refine lv_goto (tgt := 170) hx hb d_D_apply_221 (by decide) ?_
                              exact ih4 _ _ _ ⟨0, ⟨Or.inr (mr_j4 c_43 hj), mr_bxY (P := (mv_bx (mv_gd fm fco fla ffi fkn fls fpa fe fa fk pb a0 a1 a2 a3) fco fki fra i)) (x := x) (by unfold mv_bx; rw [if_neg (by rw [← hexy x hx9]; exact c_47)]; exact c_50)⟩, hP, hD, hS, lv_sub hl [0, 1, 2, 3, 4, 5, 6, 7, 8] rfl⟩
                            · refine lv_iconst (v := 1) hx hb d_D_apply_211 (by decide) ?_
                              refine lv_goto (tgt := 216) hx hb d_D_apply_212 (by decide) ?_
                              refine lv_istore (lv' := [(7, .int 1), (8, .int (nI (x + 1))), (6, .int (nI (i + 1))), (5, .int (nI j)), (0, .ref (r 0)), (1, .int a0), (2, .int a1), (3, .int a2), (4, .int a3)]) hx hb d_D_apply_216 hl (by decide) rfl (fun ls hl => ?_)
                              refine lv_iinc (v := nI ((x + 1) + 1)) (lv' := [(8, .int (nI ((x + 1) + 1))), (7, .int 1), (6, .int (nI (i + 1))), (5, .int (nI j)), (0, .ref (r 0)), (1, .int a0), (2, .int a1), (3, .int a2), (4, .int a3)]) hx hb d_D_apply_218 hl (k := 1) rfl ((nI_succ (x + 1)).symm) (by decide) rfl (fun ls hl => ?_)
                              refine lv_goto (tgt := 170) hx hb d_D_apply_221 (by decide) ?_
                              exact ih4 _ _ _ ⟨1, ⟨Or.inr (mr_j4 c_43 hj), mr_bxZ hexx.2 c_46 (by unfold mv_bx; rw [if_neg (by rw [← hexy x hx9]; exact c_47)]; exact c_50)⟩, hP, hD, hS, lv_sub hl [0, 1, 2, 3, 4, 5, 6, 7, 8] rfl⟩
                    · obtain ⟨s7, hexx, hP, hD, hS, hl⟩ := hI9
                      have hBH := hB.at hS hA0
                      refine lv_iload hx hb d_D_apply_170 (lv_at hl 0 rfl) ?_
                      refine lv_aload_n hx hb d_D_apply_172 rfl (lv_at hl 4 rfl) ?_
                      refine va_get (D := (dC, dI)) (ci := 3) (v := .int (nI n)) (C := R_D) (T := T_D) (N := 19) hx hb hts ti_D hown hK hP 0 rfl rfl 2 (by decide) (hts (Cond.fieldLink "MeasureRowsModel" 81 "MeasureRowsModel" "rows" "I") mw_294) (fun _ h9 => h9) rfl d_D_apply_173 ?_
                      refine lv_icmp_gt (tgt := 224) hx hb d_D_apply_176 (by decide) (fun _ => ?_) (fun c_51 => absurd (nI_lt (by omega) (by have := hM.1; omega)) c_51)
                      have hG9 : ¬ (mv_gd fm fco fla ffi fkn fls fpa fe fa fk pb a0 a1 a2 a3) i = 0 := by rw [← hexy i hi9]; exact c_28
                      have hkj9 : mr_kd fki i = j := mr_kdj c_35 hj
                      have hs7 : s7 = (mv_ur (mv_gd fm fco fla ffi fkn fls fpa fe fa fk pb a0 a1 a2 a3) fco fki fra n) i := mr_urN hG9 hkj9 (hexx.1.resolve_left (by omega)) hexx.2
                      refine lv_iload hx hb d_D_apply_224 (lv_at hl 1 rfl) ?_
                      refine lv_if_eq (tgt := 250) hx hb d_D_apply_226 (by decide) (fun c_52 => ?_) (fun c_52 => ?_)
                      · refine lv_iinc (v := nI ((i + 1) + 1)) (lv' := [(6, .int (nI ((i + 1) + 1))), (8, .int (nI (n + 1))), (7, .int s7), (5, .int (nI j)), (0, .ref (r 0)), (1, .int a0), (2, .int a1), (3, .int a2), (4, .int a3)]) hx hb d_D_apply_250 hl (k := 2) rfl ((nI_succ (i + 1)).symm) (by decide) rfl (fun ls hl => ?_)
                        refine lv_goto (tgt := 129) hx hb d_D_apply_253 (by decide) ?_
                        have hz8 := mr_urS hkj9 hs7
                        exact ih3 _ _ _ ⟨q9, li9, (by rw [mr_cnt_n (hz8.trans c_52)]; exact hexi), hP, hD, hS, lv_sub hl [0, 3, 4, 5, 6, 7, 8] rfl⟩
                      · have hb9 : q9 < 80 := by have h9 := mr_totU (mv_ur (mv_gd fm fco fla ffi fkn fls fpa fe fa fk pb a0 a1 a2 a3) fco fki fra n) (mr_kd fki) (n := n) (M := i + 1) j (by omega); rw [mr_cnt_y (fun h => c_52 ((mr_urS hkj9 hs7).symm.trans h))] at h9; have := hexi; have := hM.1; omega
                        refine lv_aload_n hx hb d_D_apply_229 rfl (lv_at hl 4 rfl) ?_
                        refine va_get (D := (dC, dI)) (ci := 3) (v := .ref (r 16)) (C := R_D) (T := T_D) (N := 19) hx hb hts ti_D hown hK hP 0 rfl rfl 16 (by decide) (hts (Cond.fieldLink "MeasureRowsModel" 46 "MeasureRowsModel" "list" "[I") mw_313) (fun _ h9 => h9) rfl d_D_apply_230 ?_
                        refine lv_aload_n hx hb d_D_apply_233 rfl (lv_at hl 4 rfl) ?_
                        refine va_get (D := (dC, dI)) (ci := 3) (v := .int (nI q9)) (C := R_D) (T := T_D) (N := 19) hx hb hts ti_D hown hK hP 0 rfl rfl 17 (by decide) (hts (Cond.fieldLink "MeasureRowsModel" 124 "MeasureRowsModel" "listed" "I") mw_312) (fun _ h9 => h9) rfl d_D_apply_234 ?_
                        refine lv_iload hx hb d_D_apply_237 (lv_at hl 2 rfl) ?_
                        refine va_iast (D := (dC, dI)) hx hb hK hP hD hS 13 0 rfl rfl (i := (nI q9)) (nI_in hb9 (by decide)) d_D_apply_239 (fun H locs hP hD hS => ?_)
                        have hP : va_P (dC, dI) mr_cl [((r 0), .inr (3, mf_D r 0 (nI n) nw pb (nI q9))), ((r 1), .inl (cI, 8, .inl fm)), ((r 3), .inl (cI, 81, .inl fco)), ((r 4), .inl (cI, 81, .inl fla)), ((r 5), .inl (cI, 81, .inl ffi)), ((r 6), .inl (cI, 81, .inl fki)), ((r 7), .inl (cI, 81, .inl fra)), ((r 8), .inl (cI, 81, .inl fkn)), ((r 9), .inl (cI, 81, .inl fls)), ((r 10), .inl (cI, 81, .inl fpa)), ((r 11), .inl (cI, 81, .inl fe)), ((r 12), .inl (cI, 648, .inl fa)), ((r 13), .inl (cI, 648, .inl fk)), ((r 16), .inl (cI, 80, .inl (upd li9 (nI q9).toNatClampNeg (nI (i + 1))))), ((r 18), .inl (cZ, 81, .inl go9))] H := hP
                        have hD : va_D A [((r 0), .inr (3, mf_D r 0 (nI n) nw pb (nI q9))), ((r 1), .inl (cI, 8, .inl fm)), ((r 3), .inl (cI, 81, .inl fco)), ((r 4), .inl (cI, 81, .inl fla)), ((r 5), .inl (cI, 81, .inl ffi)), ((r 6), .inl (cI, 81, .inl fki)), ((r 7), .inl (cI, 81, .inl fra)), ((r 8), .inl (cI, 81, .inl fkn)), ((r 9), .inl (cI, 81, .inl fls)), ((r 10), .inl (cI, 81, .inl fpa)), ((r 11), .inl (cI, 81, .inl fe)), ((r 12), .inl (cI, 648, .inl fa)), ((r 13), .inl (cI, 648, .inl fk)), ((r 16), .inl (cI, 80, .inl (upd li9 (nI q9).toNatClampNeg (nI (i + 1))))), ((r 18), .inl (cZ, 81, .inl go9))] := hD
                        have hBH := hB.at hS hA0
                        refine lv_aload_n hx hb d_D_apply_240 rfl (lv_at hl 4 rfl) ?_
                        refine lv_dup hx hb d_D_apply_241 rfl ?_
                        refine va_get (D := (dC, dI)) (ci := 3) (v := .int (nI q9)) (C := R_D) (T := T_D) (N := 19) hx hb hts ti_D hown hK hP 0 rfl rfl 17 (by decide) (hts (Cond.fieldLink "MeasureRowsModel" 124 "MeasureRowsModel" "listed" "I") mw_312) (fun _ h9 => h9) rfl d_D_apply_242 ?_
                        refine lv_iconst (v := 1) hx hb d_D_apply_245 (by decide) ?_
                        refine lv_iadd hx hb d_D_apply_246 ?_
                        refine mr_top (nI_1 q9) ?_
                        refine va_put (D := (dC, dI)) (ci := 3) (v := .int (nI (q9 + 1))) (ty := .int) (C := R_D) (T := T_D) (N := 19) hx hb hts ti_D t_D to_D tn_D hown hK hP hD hS 0 rfl rfl 17 (by decide) (hts (Cond.fieldLink "MeasureRowsModel" 124 "MeasureRowsModel" "listed" "I") mw_312) (fun _ h9 => h9) rfl (by decide +kernel) rfl rfl (Nat.le_of_ble_eq_true rfl) d_D_apply_247 (fun H locs hP hD hS => ?_)
                        have hP : va_P (dC, dI) mr_cl [((r 0), .inr (3, mf_D r 0 (nI n) nw pb (nI (q9 + 1)))), ((r 1), .inl (cI, 8, .inl fm)), ((r 3), .inl (cI, 81, .inl fco)), ((r 4), .inl (cI, 81, .inl fla)), ((r 5), .inl (cI, 81, .inl ffi)), ((r 6), .inl (cI, 81, .inl fki)), ((r 7), .inl (cI, 81, .inl fra)), ((r 8), .inl (cI, 81, .inl fkn)), ((r 9), .inl (cI, 81, .inl fls)), ((r 10), .inl (cI, 81, .inl fpa)), ((r 11), .inl (cI, 81, .inl fe)), ((r 12), .inl (cI, 648, .inl fa)), ((r 13), .inl (cI, 648, .inl fk)), ((r 16), .inl (cI, 80, .inl (upd li9 (nI q9).toNatClampNeg (nI (i + 1))))), ((r 18), .inl (cZ, 81, .inl go9))] H := hP
                        have hD : va_D A [((r 0), .inr (3, mf_D r 0 (nI n) nw pb (nI (q9 + 1)))), ((r 1), .inl (cI, 8, .inl fm)), ((r 3), .inl (cI, 81, .inl fco)), ((r 4), .inl (cI, 81, .inl fla)), ((r 5), .inl (cI, 81, .inl ffi)), ((r 6), .inl (cI, 81, .inl fki)), ((r 7), .inl (cI, 81, .inl fra)), ((r 8), .inl (cI, 81, .inl fkn)), ((r 9), .inl (cI, 81, .inl fls)), ((r 10), .inl (cI, 81, .inl fpa)), ((r 11), .inl (cI, 81, .inl fe)), ((r 12), .inl (cI, 648, .inl fa)), ((r 13), .inl (cI, 648, .inl fk)), ((r 16), .inl (cI, 80, .inl (upd li9 (nI q9).toNatClampNeg (nI (i + 1))))), ((r 18), .inl (cZ, 81, .inl go9))] := hD
                        have hBH := hB.at hS hA0
                        refine lv_iinc (v := nI ((i + 1) + 1)) (lv' := [(6, .int (nI ((i + 1) + 1))), (8, .int (nI (n + 1))), (7, .int s7), (5, .int (nI j)), (0, .ref (r 0)), (1, .int a0), (2, .int a1), (3, .int a2), (4, .int a3)]) hx hb d_D_apply_250 hl (k := 2) rfl ((nI_succ (i + 1)).symm) (by decide) rfl (fun ls hl => ?_)
                        refine lv_goto (tgt := 129) hx hb d_D_apply_253 (by decide) ?_
                        have hz8 := mr_urS hkj9 hs7
                        exact ih3 _ _ _ ⟨(q9 + 1), (upd li9 (nI q9).toNatClampNeg (nI (i + 1))), (by rw [mr_cnt_y (fun h => c_52 (hz8.symm.trans h)), ← Nat.add_assoc, ← hexi]), hP, hD, hS, lv_sub hl [0, 3, 4, 5, 6, 7, 8] rfl⟩
              · obtain ⟨q9, li9, hexi, hP, hD, hS, hl⟩ := hI9
                have hBH := hB.at hS hA0
                refine lv_iload hx hb d_D_apply_129 (lv_at hl 0 rfl) ?_
                refine lv_aload_n hx hb d_D_apply_131 rfl (lv_at hl 2 rfl) ?_
                refine va_get (D := (dC, dI)) (ci := 3) (v := .int (nI n)) (C := R_D) (T := T_D) (N := 19) hx hb hts ti_D hown hK hP 0 rfl rfl 2 (by decide) (hts (Cond.fieldLink "MeasureRowsModel" 81 "MeasureRowsModel" "rows" "I") mw_294) (fun _ h9 => h9) rfl d_D_apply_132 ?_
                refine lv_icmp_gt (tgt := 256) hx hb d_D_apply_135 (by decide) (fun _ => ?_) (fun c_54 => absurd (nI_lt (by omega) (by have := hM.1; omega)) c_54)
                refine lv_iinc (v := nI (j + 1)) (lv' := [(5, .int (nI (j + 1))), (6, .int (nI (n + 1))), (0, .ref (r 0)), (1, .int a0), (2, .int a1), (3, .int a2), (4, .int a3)]) hx hb d_D_apply_256 hl (k := 1) rfl ((nI_succ j).symm) (by decide) rfl (fun ls hl => ?_)
                refine lv_goto (tgt := 119) hx hb d_D_apply_259 (by decide) ?_
                exact ih2 _ _ _ ⟨q9, li9, hexi, hP, hD, hS, lv_sub hl [0, 2, 3, 4, 5, 6] rfl⟩
            · obtain ⟨q8, li8, hexj, hP, hD, hS, hl⟩ := hI9
              have hBH := hB.at hS hA0
              refine lv_iload hx hb d_D_apply_119 (lv_at hl 0 rfl) ?_
              refine lv_bipush (v := 8) hx hb d_D_apply_121 (by decide) ?_
              refine lv_icmp_ge (tgt := 262) hx hb d_D_apply_123 (by decide) (fun _ => ?_) (fun c_55 => absurd c_55 (by decide))
              refine lv_aload_n hx hb d_D_apply_262 rfl (lv_at hl 1 rfl) ?_
              refine va_get (D := (dC, dI)) (ci := 3) (v := .int (nI q8)) (C := R_D) (T := T_D) (N := 19) hx hb hts ti_D hown hK hP 0 rfl rfl 17 (by decide) (hts (Cond.fieldLink "MeasureRowsModel" 124 "MeasureRowsModel" "listed" "I") mw_312) (fun _ h9 => h9) rfl d_D_apply_263 ?_
              have hP9 := hP.sub (ws' := [((r 0), .inr (3, mf_D r 0 (nI n) nw pb (nI q8))), ((r 1), .inl (cI, 8, .inl fm)), ((r 3), .inl (cI, 81, .inl fco)), ((r 4), .inl (cI, 81, .inl fla)), ((r 5), .inl (cI, 81, .inl ffi)), ((r 6), .inl (cI, 81, .inl fki)), ((r 7), .inl (cI, 81, .inl fra)), ((r 8), .inl (cI, 81, .inl fkn)), ((r 9), .inl (cI, 81, .inl fls)), ((r 10), .inl (cI, 81, .inl fpa)), ((r 11), .inl (cI, 81, .inl fe)), ((r 12), .inl (cI, 648, .inl fa)), ((r 13), .inl (cI, 648, .inl fk)), ((r 16), .inl (cI, 80, .inl li8)), ((r 18), .inl (cZ, 81, .inl go9))]) [0, 1, 2, 3, 4, 5, 6, 7, 8, 9, 10, 11, 12, 13, 14] rfl
              have hD9 := hD.sub (ws' := [((r 0), .inr (3, mf_D r 0 (nI n) nw pb (nI q8))), ((r 1), .inl (cI, 8, .inl fm)), ((r 3), .inl (cI, 81, .inl fco)), ((r 4), .inl (cI, 81, .inl fla)), ((r 5), .inl (cI, 81, .inl ffi)), ((r 6), .inl (cI, 81, .inl fki)), ((r 7), .inl (cI, 81, .inl fra)), ((r 8), .inl (cI, 81, .inl fkn)), ((r 9), .inl (cI, 81, .inl fls)), ((r 10), .inl (cI, 81, .inl fpa)), ((r 11), .inl (cI, 81, .inl fe)), ((r 12), .inl (cI, 648, .inl fa)), ((r 13), .inl (cI, 648, .inl fk)), ((r 16), .inl (cI, 80, .inl li8)), ((r 18), .inl (cZ, 81, .inl go9))]) [0, 1, 2, 3, 4, 5, 6, 7, 8, 9, 10, 11, 12, 13, 14] (by decide) rfl
              have hth : mt_D_apply a0 a1 a2 a3 = 0 := by unfold mt_D_apply; rw [if_pos c_3, if_neg c_8, if_neg c_13, if_neg c_18]
              have hle := mr_tot_le (mv_ur (mv_gd fm fco fla ffi fkn fls fpa fe fa fk pb a0 a1 a2 a3) fco fki fra n) (mr_kd fki) n 8
              have hl2 := mr_cnt_le (fun m => if (mr_kd fki) m < 8 then (mv_ur (mv_gd fm fco fla ffi fkn fls fpa fe fa fk pb a0 a1 a2 a3) fco fki fra n) m else 0) n
              exact W.iret (v := (nI q8)) hx hb hr (fun t ht hW => ⟨⟨_, (), rfl, (by unfold mv_D_apply; rw [if_pos hth, ← hexj]), 0, q8, li8, go9, ⟨by rw [ht]; exact hP9, va_K.moved hW.alike hK, hD9⟩, (by have := hM.1; omega), hth.symm⟩, hS.F ht⟩) hS.2.2 d_D_apply_266
        · refine lv_aload_n hx hb d_D_apply_31 rfl (lv_at hl 0 rfl) ?_
          refine lv_iconst (v := 1) hx hb d_D_apply_32 (by decide) ?_
          have hPc := hP.sub (ws' := [((r 0), .inr (3, mf_D r th (nI n) nw pb (nI qc)))]) [0] rfl
          have hDc := hD.sub (ws' := [((r 0), .inr (3, mf_D r th (nI n) nw pb (nI qc)))]) [0] (by decide) rfl
          have hFc := va_free (wc := [((r 0), .inr (3, mf_D r th (nI n) nw pb (nI qc)))]) hD hS hA [0] rfl
          refine va_calli (va_runV (As := [.int 1]) (rest := []) (C := R_D) ⟨hx, hb, hml, hown, hts⟩ (mc_D_fails l s0 dC dI cI cR cL cZ r th (nI n) nw pb (nI qc) _ 1) ⟨(mr_cB 1 (hts (Cond.code y_D_fails b_D_fails 2 (some .int)) mw_318) (hts (Cond.initialized y_D_fails.cls) mw_319) (hts (Cond.methodLink "MeasureRowsModel" 97 y_D_fails) mw_320) rfl rfl (by decide +kernel) ⟨Nat.le_of_ble_eq_true rfl, Nat.le_of_ble_eq_true rfl⟩), (hts (Cond.instanceMethod y_D_fails) mw_321), (hts (Cond.selects "MeasureRowsModel" y_D_fails y_D_fails) mw_322)⟩ (mr_preCV hBH hK hPc (hDc.weaken (fun _ _ _ h => hA0 _ h)) (ci := 3) (q0 := 0) rfl rfl) rfl rfl hl.1 rfl (lv_room (Nat.le_of_ble_eq_true rfl)) d_D_apply_33 ⟨Nat.le_of_ble_eq_true rfl, Nat.le_of_ble_eq_true rfl⟩) hS (fun q _ h => hFc q h) hFc (fun r_56 u_57 t H1 locs ht hvm hw hB1 hz1 hk1 hS => ?_)
          obtain ⟨hP1, hK1, hD1⟩ := hB1
          rw [ht] at hP1
          obtain ⟨hP, hD⟩ := va_join (wr := [((r 1), .inl (cI, 8, .inl fm)), ((r 3), .inl (cI, 81, .inl fco)), ((r 4), .inl (cI, 81, .inl fla)), ((r 5), .inl (cI, 81, .inl ffi)), ((r 6), .inl (cI, 81, .inl fki)), ((r 7), .inl (cI, 81, .inl fra)), ((r 8), .inl (cI, 81, .inl fkn)), ((r 9), .inl (cI, 81, .inl fls)), ((r 10), .inl (cI, 81, .inl fpa)), ((r 11), .inl (cI, 81, .inl fe)), ((r 12), .inl (cI, 648, .inl fa)), ((r 13), .inl (cI, 648, .inl fk)), ((r 16), .inl (cI, 80, .inl fli)), ((r 18), .inl (cZ, 81, .inl fgo))]) (w1 := [((r 0), .inr (3, mf_D r 1 (nI n) nw pb (nI qc)))]) hP hD [0] [1, 2, 3, 4, 5, 6, 7, 8, 9, 10, 11, 12, 13, 14] rfl rfl (by decide) (by decide) hk1 hFc hP1 hD1
          clear hK1 hk1 hPc hDc hFc
          generalize H1 = H at hP hS ht ⊢
          have hP : va_P (dC, dI) mr_cl [((r 1), .inl (cI, 8, .inl fm)), ((r 3), .inl (cI, 81, .inl fco)), ((r 4), .inl (cI, 81, .inl fla)), ((r 5), .inl (cI, 81, .inl ffi)), ((r 6), .inl (cI, 81, .inl fki)), ((r 7), .inl (cI, 81, .inl fra)), ((r 8), .inl (cI, 81, .inl fkn)), ((r 9), .inl (cI, 81, .inl fls)), ((r 10), .inl (cI, 81, .inl fpa)), ((r 11), .inl (cI, 81, .inl fe)), ((r 12), .inl (cI, 648, .inl fa)), ((r 13), .inl (cI, 648, .inl fk)), ((r 16), .inl (cI, 80, .inl fli)), ((r 18), .inl (cZ, 81, .inl fgo)), ((r 0), .inr (3, mf_D r 1 (nI n) nw pb (nI qc)))] H := hP
          have hD : va_D A [((r 1), .inl (cI, 8, .inl fm)), ((r 3), .inl (cI, 81, .inl fco)), ((r 4), .inl (cI, 81, .inl fla)), ((r 5), .inl (cI, 81, .inl ffi)), ((r 6), .inl (cI, 81, .inl fki)), ((r 7), .inl (cI, 81, .inl fra)), ((r 8), .inl (cI, 81, .inl fkn)), ((r 9), .inl (cI, 81, .inl fls)), ((r 10), .inl (cI, 81, .inl fpa)), ((r 11), .inl (cI, 81, .inl fe)), ((r 12), .inl (cI, 648, .inl fa)), ((r 13), .inl (cI, 648, .inl fk)), ((r 16), .inl (cI, 80, .inl fli)), ((r 18), .inl (cZ, 81, .inl fgo)), ((r 0), .inr (3, mf_D r 1 (nI n) nw pb (nI qc)))] := hD
          have hBH := hB.at hS hA0
          obtain rfl : r_56 = 0 := hw
          have hP9 := hP.sub (ws' := [((r 0), .inr (3, mf_D r 1 (nI n) nw pb (nI qc))), ((r 1), .inl (cI, 8, .inl fm)), ((r 3), .inl (cI, 81, .inl fco)), ((r 4), .inl (cI, 81, .inl fla)), ((r 5), .inl (cI, 81, .inl ffi)), ((r 6), .inl (cI, 81, .inl fki)), ((r 7), .inl (cI, 81, .inl fra)), ((r 8), .inl (cI, 81, .inl fkn)), ((r 9), .inl (cI, 81, .inl fls)), ((r 10), .inl (cI, 81, .inl fpa)), ((r 11), .inl (cI, 81, .inl fe)), ((r 12), .inl (cI, 648, .inl fa)), ((r 13), .inl (cI, 648, .inl fk)), ((r 16), .inl (cI, 80, .inl fli)), ((r 18), .inl (cZ, 81, .inl fgo))]) [14, 0, 1, 2, 3, 4, 5, 6, 7, 8, 9, 10, 11, 12, 13] rfl
          have hD9 := hD.sub (ws' := [((r 0), .inr (3, mf_D r 1 (nI n) nw pb (nI qc))), ((r 1), .inl (cI, 8, .inl fm)), ((r 3), .inl (cI, 81, .inl fco)), ((r 4), .inl (cI, 81, .inl fla)), ((r 5), .inl (cI, 81, .inl ffi)), ((r 6), .inl (cI, 81, .inl fki)), ((r 7), .inl (cI, 81, .inl fra)), ((r 8), .inl (cI, 81, .inl fkn)), ((r 9), .inl (cI, 81, .inl fls)), ((r 10), .inl (cI, 81, .inl fpa)), ((r 11), .inl (cI, 81, .inl fe)), ((r 12), .inl (cI, 648, .inl fa)), ((r 13), .inl (cI, 648, .inl fk)), ((r 16), .inl (cI, 80, .inl fli)), ((r 18), .inl (cZ, 81, .inl fgo))]) [14, 0, 1, 2, 3, 4, 5, 6, 7, 8, 9, 10, 11, 12, 13] (by decide) rfl
          have hth : mt_D_apply a0 a1 a2 a3 = 1 := by unfold mt_D_apply; rw [if_pos c_3, if_neg c_8, if_neg c_13, if_pos c_18]
          exact W.iret (v := 0) hx hb hr (fun t ht hW => ⟨⟨_, (), rfl, (by unfold mv_D_apply; rw [if_neg (by rw [hth]; decide)]), 1, qc, fli, fgo, ⟨by rw [ht]; exact hP9, va_K.moved hW.alike hK, hD9⟩, hq, hth.symm⟩, hS.F ht⟩) hS.2.2 d_D_apply_36
