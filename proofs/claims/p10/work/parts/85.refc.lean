def mr_cnt (P : Nat → Int32) : Nat → Nat
  | 0 => 0
  | j + 1 => mr_cnt P j + if P j = 0 then 0 else 1
def mr_nth (P : Nat → Int32) (i : Int32) (j : Nat) : Int32 := if P j = 0 then 0 else if nI (mr_cnt P j) = i then 1 else 0
theorem mr_cnt_y {P : Nat → Int32} {j : Nat} (h : ¬ P j = 0) : mr_cnt P (j + 1) = mr_cnt P j + 1 := by
  show mr_cnt P j + (if P j = 0 then 0 else 1) = _
  rw [if_neg h]
theorem mr_cnt_n {P : Nat → Int32} {j : Nat} (h : P j = 0) : mr_cnt P (j + 1) = mr_cnt P j := by
  show mr_cnt P j + (if P j = 0 then 0 else 1) = _
  rw [if_pos h]
  rfl
theorem mr_cnt_congr {P Q : Nat → Int32} {n : Nat} (h : ∀ i, i < n → P i = Q i) : mr_cnt P n = mr_cnt Q n := by
  induction n with
  | zero => rfl
  | succ n ih =>
    show mr_cnt P n + (if P n = 0 then 0 else 1) = mr_cnt Q n + (if Q n = 0 then 0 else 1)
    rw [ih (fun i hi => h i (by omega)), h n (by omega)]
theorem mr_nth_congr {P Q : Nat → Int32} {n : Nat} {i : Int32} (h : ∀ j, j < n → P j = Q j) : ∀ j, j < n → mr_nth P i j = mr_nth Q i j := fun j hj => by
  unfold mr_nth
  rw [h j hj, mr_cnt_congr (fun i hi => h i (by omega))]
/-- whether row j + 1 changed between the days a and b -/
def mv_ch (ffi fe fa fk : Nat → Int32) (nw a b : Int32) (j : Nat) : Int32 := if mv_D_lasts ffi fe fa fk (j + 1) a nw = mv_D_lasts ffi fe fa fk (j + 1) b nw then 0 else 1
def mv_D_change (n : Nat) (nw : Int32) (ffi fe fa fk : Nat → Int32) (a0 a1 a2 : Int32) : Int32 := if mv_D_isDay a0 = 0 then 0 else if mv_D_isDay a1 = 0 then 0 else mr_fst (mr_nth (mv_ch ffi fe fa fk nw a0 a1) a2) n
def mN_D_change_th (n : Nat) (nw : Int32) (ffi fe fa fk : Nat → Int32) (a0 a1 a2 : Int32) : Int32 := if mv_D_isDay a0 = 0 then 1 else if mv_D_isDay a1 = 0 then 1 else 0
section CHG
variable {ffi fe fa fk : Nat → Int32} {nw a b i : Int32} {j : Nat}
theorem mv_ch_n (h : mv_D_lasts ffi fe fa fk (j + 1) a nw = mv_D_lasts ffi fe fa fk (j + 1) b nw) : mv_ch ffi fe fa fk nw a b j = 0 := by
  unfold mv_ch
  rw [if_pos h]
theorem mv_ch_y (h : ¬ mv_D_lasts ffi fe fa fk (j + 1) a nw = mv_D_lasts ffi fe fa fk (j + 1) b nw) : ¬ mv_ch ffi fe fa fk nw a b j = 0 := by
  unfold mv_ch
  rw [if_neg h]
  decide
theorem mr_nth_0 {P : Nat → Int32} (h : P j = 0) : mr_nth P i j = 0 := by
  unfold mr_nth
  rw [if_pos h]
theorem mr_nth_n {P : Nat → Int32} (h : ¬ P j = 0) (h2 : ¬ nI (mr_cnt P j) = i) : mr_nth P i j = 0 := by
  unfold mr_nth
  rw [if_neg h, if_neg h2]
theorem mr_nth_y {P : Nat → Int32} (h : ¬ P j = 0) (h2 : nI (mr_cnt P j) = i) : ¬ mr_nth P i j = 0 := by
  unfold mr_nth
  rw [if_neg h, if_pos h2]
  decide
end CHG

set_option maxHeartbeats 4000000 in
set_option maxRecDepth 100000 in
theorem mc_D_changeX (l : Launch) (s0 : State) (dC : Nat → ClassId) (dI : Nat → Nat → Nat) (cI cR cL cZ : ClassId) (r : Nat → Nat) (th nw pb lc : Int32) (n : Nat) (fco ffi fe fa fk : Nat → Int32)  (sz : Nat) (a0 : Int32) (a1 : Int32) (a2 : Int32) (hM : mr_MI n fe fco) : Met l y_D_change [Cond.code y_D_change b_D_change 6 (some .int)] ({ frames := 2, cells := 0, slots := 0, locals := 48 }) (mr_PC s0 (dC, dI) [(cI, .int), (cR, .object "MeasureRows$Row"), (cL, .long), (cZ, .boolean)] [.ref (r 0), .int a0, .int a1, .int a2] [((r 0), .inr (3, mf_D r th (nI n) nw pb lc)), ((r 3), .inl (cI, 81, .inl fco)), ((r 5), .inl (cI, 81, .inl ffi)), ((r 11), .inl (cI, 81, .inl fe)), ((r 12), .inl (cI, 648, .inl fa)), ((r 13), .inl (cI, 648, .inl fk))] sz) (va_Qi (fun rr _ => rr = mv_D_change n nw ffi fe fa fk a0 a1 a2) (fun (u : Unit) t => ∃ (th9 : Int32), mr_W (dC, dI) [(cI, .int), (cR, .object "MeasureRows$Row"), (cL, .long), (cZ, .boolean)] (va_A [((r 0), .inr (3, mf_D r th (nI n) nw pb lc)), ((r 3), .inl (cI, 81, .inl fco)), ((r 5), .inl (cI, 81, .inl ffi)), ((r 11), .inl (cI, 81, .inl fe)), ((r 12), .inl (cI, 648, .inl fa)), ((r 13), .inl (cI, 648, .inl fk))] sz) [((r 0), .inr (3, mf_D r th9 (nI n) nw pb lc)), ((r 3), .inl (cI, 81, .inl fco)), ((r 5), .inl (cI, 81, .inl ffi)), ((r 11), .inl (cI, 81, .inl fe)), ((r 12), .inl (cI, 648, .inl fa)), ((r 13), .inl (cI, 648, .inl fk))] t ∧ th9 = (mN_D_change_th n nw ffi fe fa fk a0 a1 a2)) (va_A [((r 0), .inr (3, mf_D r th (nI n) nw pb lc)), ((r 3), .inl (cI, 81, .inl fco)), ((r 5), .inl (cI, 81, .inl ffi)), ((r 11), .inl (cI, 81, .inl fe)), ((r 12), .inl (cI, 648, .inl fa)), ((r 13), .inl (cI, 648, .inl fk))] sz)) 0 0 (va_A [((r 0), .inr (3, mf_D r th (nI n) nw pb lc)), ((r 3), .inl (cI, 81, .inl fco)), ((r 5), .inl (cI, 81, .inl ffi)), ((r 11), .inl (cI, 81, .inl fe)), ((r 12), .inl (cI, 648, .inl fa)), ((r 13), .inl (cI, 648, .inl fk))] sz) := by
  refine Met.ofW (cc := b_D_change) (maxL := 6) (ret := (some .int)) (by decide) rfl ?_
  intro p e s m args below meth c s₁ B hml hv
  obtain ⟨rfl, hsz, hB, hK, hP, hD0⟩ := hv
  subst hsz
  have hA0 := mr_A hB hD0
  have hD := hD0.self (sz := s.heap.size)
  generalize hAe : va_A [((r 0), .inr (3, mf_D r th (nI n) nw pb lc)), ((r 3), .inl (cI, 81, .inl fco)), ((r 5), .inl (cI, 81, .inl ffi)), ((r 11), .inl (cI, 81, .inl fe)), ((r 12), .inl (cI, 648, .inl fa)), ((r 13), .inl (cI, 648, .inl fk))] s.heap.size = A at hD hA0 ⊢
  have hA : ∀ q : Nat, s.heap.size ≤ q → A q := fun q h => by rw [← hAe]; exact Or.inr h
  have hS : va_S A s.heap s.heap [] := va_S.rf
  have hP : va_P (dC, dI) mr_cl [((r 0), .inr (3, mf_D r th (nI n) nw pb lc)), ((r 3), .inl (cI, 81, .inl fco)), ((r 5), .inl (cI, 81, .inl ffi)), ((r 11), .inl (cI, 81, .inl fe)), ((r 12), .inl (cI, 648, .inl fa)), ((r 13), .inl (cI, 648, .inl fk))] s.heap := hP
  have hBH := hB.at hS hA0
  have hx := B.exec
  have hb := B.bytes
  have hr := B.returns
  have hlocks := B.notSynchronized
  have hts : ∀ w ∈ lw_tbl, w.before [.ref (r 0), .int a0, .int a1, .int a2].toArray s = true := hB.hts _
  have hown : s.vm.findClass "MeasureRowsModel" = some m.cls := findClass_of_methodNamed B.named
  have hl := lv_entry ([.ref (r 0), .int a0, .int a1, .int a2]) (n := 6) (Nat.le_of_ble_eq_true rfl)
  rw [lg_entry_eq]
  generalize (lg_sl ([.ref (r 0), .int a0, .int a1, .int a2]) ++ List.replicate (6 - (lg_sl ([.ref (r 0), .int a0, .int a1, .int a2])).length) Slot.unset).toArray = ls at hl ⊢
  have hl : lv_has ls 6 [(0, .ref (r 0)), (1, .int a0), (2, .int a1), (3, .int a2)] := hl
  refine lv_iload_n hx hb d_D_change_0 rfl (lv_at hl 1 rfl) ?_
  refine vp_callSi (va_Run.run (va_runS (As := [.int a0]) (rest := []) ⟨hx, hb, hml, hown, hts⟩ (mc_D_isDay l s0 a0) ⟨(mr_cB 1 (hts (Cond.code y_D_isDay b_D_isDay 1 (some .boolean)) mw_314) (hts (Cond.initialized y_D_isDay.cls) mw_315) (hts (Cond.methodLink "MeasureRowsModel" 94 y_D_isDay) mw_316) rfl rfl (by decide +kernel) ⟨Nat.le_of_ble_eq_true rfl, Nat.le_of_ble_eq_true rfl⟩), (hts (Cond.static y_D_isDay) mw_317)⟩ (mr_pre0 hBH) rfl rfl hl.1 rfl (lv_room (Nat.le_of_ble_eq_true rfl)) d_D_change_1 ⟨Nat.le_of_ble_eq_true rfl, Nat.le_of_ble_eq_true rfl⟩)) (fun r_1 h_2 => ?_)
  subst h_2
  refine lv_if_eq (tgt := 14) hx hb d_D_change_4 (by decide) (fun c_3 => ?_) (fun c_3 => ?_)
  · refine lv_aload_n hx hb d_D_change_14 rfl (lv_at hl 0 rfl) ?_
    refine lv_iconst (v := 1) hx hb d_D_change_15 (by decide) ?_
    have hPc := hP.sub (ws' := [((r 0), .inr (3, mf_D r th (nI n) nw pb lc))]) [0] rfl
    have hDc := hD.sub (ws' := [((r 0), .inr (3, mf_D r th (nI n) nw pb lc))]) [0] (by decide) rfl
    have hFc := va_free (wc := [((r 0), .inr (3, mf_D r th (nI n) nw pb lc))]) hD hS hA [0] rfl
    refine va_calli (va_runV (As := [.int 1]) (rest := []) (C := R_D) ⟨hx, hb, hml, hown, hts⟩ (mc_D_fails l s0 dC dI cI cR cL cZ r th (nI n) nw pb lc _ 1) ⟨(mr_cB 1 (hts (Cond.code y_D_fails b_D_fails 2 (some .int)) mw_318) (hts (Cond.initialized y_D_fails.cls) mw_319) (hts (Cond.methodLink "MeasureRowsModel" 97 y_D_fails) mw_320) rfl rfl (by decide +kernel) ⟨Nat.le_of_ble_eq_true rfl, Nat.le_of_ble_eq_true rfl⟩), (hts (Cond.instanceMethod y_D_fails) mw_321), (hts (Cond.selects "MeasureRowsModel" y_D_fails y_D_fails) mw_322)⟩ (mr_preCV hBH hK hPc (hDc.weaken (fun _ _ _ h => hA0 _ h)) (ci := 3) (q0 := 0) rfl rfl) rfl rfl hl.1 rfl (lv_room (Nat.le_of_ble_eq_true rfl)) d_D_change_16 ⟨Nat.le_of_ble_eq_true rfl, Nat.le_of_ble_eq_true rfl⟩) hS (fun q _ h => hFc q h) hFc (fun r_4 u_5 t H1 locs ht hvm hw hB1 hz1 hk1 hS => ?_)
    obtain ⟨hP1, hK1, hD1⟩ := hB1
    rw [ht] at hP1
    obtain ⟨hP, hD⟩ := va_join (wr := [((r 3), .inl (cI, 81, .inl fco)), ((r 5), .inl (cI, 81, .inl ffi)), ((r 11), .inl (cI, 81, .inl fe)), ((r 12), .inl (cI, 648, .inl fa)), ((r 13), .inl (cI, 648, .inl fk))]) (w1 := [((r 0), .inr (3, mf_D r 1 (nI n) nw pb lc))]) hP hD [0] [1, 2, 3, 4, 5] rfl rfl (by decide) (by decide) hk1 hFc hP1 hD1
    clear hK1 hk1 hPc hDc hFc
    generalize H1 = H at hP hS ht ⊢
    have hP : va_P (dC, dI) mr_cl [((r 3), .inl (cI, 81, .inl fco)), ((r 5), .inl (cI, 81, .inl ffi)), ((r 11), .inl (cI, 81, .inl fe)), ((r 12), .inl (cI, 648, .inl fa)), ((r 13), .inl (cI, 648, .inl fk)), ((r 0), .inr (3, mf_D r 1 (nI n) nw pb lc))] H := hP
    have hD : va_D A [((r 3), .inl (cI, 81, .inl fco)), ((r 5), .inl (cI, 81, .inl ffi)), ((r 11), .inl (cI, 81, .inl fe)), ((r 12), .inl (cI, 648, .inl fa)), ((r 13), .inl (cI, 648, .inl fk)), ((r 0), .inr (3, mf_D r 1 (nI n) nw pb lc))] := hD
    have hBH := hB.at hS hA0
    obtain rfl : r_4 = 0 := hw
    have hP9 := hP.sub (ws' := [((r 0), .inr (3, mf_D r 1 (nI n) nw pb lc)), ((r 3), .inl (cI, 81, .inl fco)), ((r 5), .inl (cI, 81, .inl ffi)), ((r 11), .inl (cI, 81, .inl fe)), ((r 12), .inl (cI, 648, .inl fa)), ((r 13), .inl (cI, 648, .inl fk))]) [5, 0, 1, 2, 3, 4] rfl
    have hD9 := hD.sub (ws' := [((r 0), .inr (3, mf_D r 1 (nI n) nw pb lc)), ((r 3), .inl (cI, 81, .inl fco)), ((r 5), .inl (cI, 81, .inl ffi)), ((r 11), .inl (cI, 81, .inl fe)), ((r 12), .inl (cI, 648, .inl fa)), ((r 13), .inl (cI, 648, .inl fk))]) [5, 0, 1, 2, 3, 4] (by decide) rfl
    exact W.iret (v := 0) hx hb hr (fun t ht hW => ⟨⟨_, (), rfl, (by unfold mv_D_change; rw [if_pos c_3]), 1, ⟨by rw [ht]; exact hP9, va_K.moved hW.alike hK, hD9⟩, (by unfold mN_D_change_th; rw [if_pos c_3])⟩, hS.F ht⟩) hS.2.2 d_D_change_19
  · refine lv_iload_n hx hb d_D_change_7 rfl (lv_at hl 2 rfl) ?_
    refine vp_callSi (va_Run.run (va_runS (As := [.int a1]) (rest := []) ⟨hx, hb, hml, hown, hts⟩ (mc_D_isDay l s0 a1) ⟨(mr_cB 1 (hts (Cond.code y_D_isDay b_D_isDay 1 (some .boolean)) mw_314) (hts (Cond.initialized y_D_isDay.cls) mw_315) (hts (Cond.methodLink "MeasureRowsModel" 94 y_D_isDay) mw_316) rfl rfl (by decide +kernel) ⟨Nat.le_of_ble_eq_true rfl, Nat.le_of_ble_eq_true rfl⟩), (hts (Cond.static y_D_isDay) mw_317)⟩ (mr_pre0 hBH) rfl rfl hl.1 rfl (lv_room (Nat.le_of_ble_eq_true rfl)) d_D_change_8 ⟨Nat.le_of_ble_eq_true rfl, Nat.le_of_ble_eq_true rfl⟩)) (fun r_6 h_7 => ?_)
    subst h_7
    refine lv_if_ne (tgt := 20) hx hb d_D_change_11 (by decide) (fun c_8 => ?_) (fun c_8 => ?_)
    · refine lv_aload_n hx hb d_D_change_20 rfl (lv_at hl 0 rfl) ?_
      refine lv_iconst (v := 0) hx hb d_D_change_21 (by decide) ?_
      refine va_put (D := (dC, dI)) (ci := 3) (v := .int 0) (ty := .int) (C := R_D) (T := T_D) (N := 19) hx hb hts ti_D t_D to_D tn_D hown hK hP hD hS 0 rfl rfl 0 (by decide) (hts (Cond.fieldLink "MeasureRowsModel" 53 "MeasureRowsModel" "thrown" "I") mw_295) (fun _ h9 => h9) rfl (by decide +kernel) rfl rfl (Nat.le_of_ble_eq_true rfl) d_D_change_22 (fun H locs hP hD hS => ?_)
      have hP : va_P (dC, dI) mr_cl [((r 0), .inr (3, mf_D r 0 (nI n) nw pb lc)), ((r 3), .inl (cI, 81, .inl fco)), ((r 5), .inl (cI, 81, .inl ffi)), ((r 11), .inl (cI, 81, .inl fe)), ((r 12), .inl (cI, 648, .inl fa)), ((r 13), .inl (cI, 648, .inl fk))] H := hP
      have hD : va_D A [((r 0), .inr (3, mf_D r 0 (nI n) nw pb lc)), ((r 3), .inl (cI, 81, .inl fco)), ((r 5), .inl (cI, 81, .inl ffi)), ((r 11), .inl (cI, 81, .inl fe)), ((r 12), .inl (cI, 648, .inl fa)), ((r 13), .inl (cI, 648, .inl fk))] := hD
      have hBH := hB.at hS hA0
      refine lv_iconst (v := 0) hx hb d_D_change_25 (by decide) ?_
      refine lv_istore (lv' := [(4, .int 0), (0, .ref (r 0)), (1, .int a0), (2, .int a1), (3, .int a2)]) hx hb d_D_change_26 hl (by decide) rfl (fun ls hl => ?_)
      refine lv_iconst (v := 1) hx hb d_D_change_28 (by decide) ?_
      refine lv_istore (lv' := [(5, .int 1), (4, .int 0), (0, .ref (r 0)), (1, .int a0), (2, .int a1), (3, .int a2)]) hx hb d_D_change_29 hl (by decide) rfl (fun ls hl => ?_)
      refine mr_loop (N := n) (I := fun j H locs ls => ∃ z9 : Int32, (z9 = nI (mr_cnt (mv_ch ffi fe fa fk nw a0 a1) j) ∧ ∀ i, i < j → (mr_nth (mv_ch ffi fe fa fk nw a0 a1) a2) i = 0) ∧ va_P (dC, dI) mr_cl [((r 0), .inr (3, mf_D r 0 (nI n) nw pb lc)), ((r 3), .inl (cI, 81, .inl fco)), ((r 5), .inl (cI, 81, .inl ffi)), ((r 11), .inl (cI, 81, .inl fe)), ((r 12), .inl (cI, 648, .inl fa)), ((r 13), .inl (cI, 648, .inl fk))] H ∧ va_D A [((r 0), .inr (3, mf_D r 0 (nI n) nw pb lc)), ((r 3), .inl (cI, 81, .inl fco)), ((r 5), .inl (cI, 81, .inl ffi)), ((r 11), .inl (cI, 81, .inl fe)), ((r 12), .inl (cI, 648, .inl fa)), ((r 13), .inl (cI, 648, .inl fk))] ∧ va_S A s.heap H locs ∧ lv_has ls 6 [(5, .int (nI (j + 1))), (4, .int z9), (0, .ref (r 0)), (1, .int a0), (2, .int a1), (3, .int a2)]) (fun j H locs ls hj hI9 ih => ?_) (fun H locs ls hI9 => ?_) 0 _ _ _ (Nat.zero_le _) ⟨0, ⟨rfl, fun i hi => absurd hi (Nat.not_lt_zero i)⟩, hP, hD, hS, (lv_sub hl [0, 1, 2, 3, 4, 5] rfl)⟩
      · obtain ⟨z9, hexj, hP, hD, hS, hl⟩ := hI9
        have hBH := hB.at hS hA0
        refine lv_iload hx hb d_D_change_31 (lv_at hl 0 rfl) ?_
        refine lv_aload_n hx hb d_D_change_33 rfl (lv_at hl 2 rfl) ?_
        refine va_get (D := (dC, dI)) (ci := 3) (v := .int (nI n)) (C := R_D) (T := T_D) (N := 19) hx hb hts ti_D hown hK hP 0 rfl rfl 2 (by decide) (hts (Cond.fieldLink "MeasureRowsModel" 81 "MeasureRowsModel" "rows" "I") mw_294) (fun _ h9 => h9) rfl d_D_change_34 ?_
        refine lv_icmp_gt (tgt := 83) hx hb d_D_change_37 (by decide) (fun c_9 => absurd c_9 (nI_nlt (by omega) (by have := hM.1; omega))) (fun _ => ?_)
        refine lv_aload_n hx hb d_D_change_40 rfl (lv_at hl 2 rfl) ?_
        refine lv_iload hx hb d_D_change_41 (lv_at hl 0 rfl) ?_
        refine lv_iload_n hx hb d_D_change_43 rfl (lv_at hl 3 rfl) ?_
        refine lv_aload_n hx hb d_D_change_44 rfl (lv_at hl 2 rfl) ?_
        refine va_get (D := (dC, dI)) (ci := 3) (v := .int nw) (C := R_D) (T := T_D) (N := 19) hx hb hts ti_D hown hK hP 0 rfl rfl 14 (by decide) (hts (Cond.fieldLink "MeasureRowsModel" 84 "MeasureRowsModel" "now" "I") mw_273) (fun _ h9 => h9) rfl d_D_change_45 ?_
        refine vp_callSi (va_Run.run (va_runV (As := [.int (nI (j + 1)), .int a0, .int nw]) (rest := []) (C := R_D) ⟨hx, hb, hml, hown, hts⟩ (mc_D_lastsX l s0 dC dI cI cR cL cZ r 0 nw pb lc n fco ffi fe fa fk (j + 1) a0 nw (by omega) (by omega) hM) ⟨(mr_cB 3 (hts (Cond.code y_D_lasts b_D_lasts 4 (some .boolean)) mw_285) (hts (Cond.initialized y_D_lasts.cls) mw_286) (hts (Cond.methodLink "MeasureRowsModel" 117 y_D_lasts) mw_287) rfl rfl (by decide +kernel) ⟨Nat.le_of_ble_eq_true rfl, Nat.le_of_ble_eq_true rfl⟩), (hts (Cond.instanceMethod y_D_lasts) mw_288), (hts (Cond.selects "MeasureRowsModel" y_D_lasts y_D_lasts) mw_289)⟩ (mr_preV hBH hK (hP.sub (ws' := [((r 0), .inr (3, mf_D r 0 (nI n) nw pb lc)), ((r 3), .inl (cI, 81, .inl fco)), ((r 5), .inl (cI, 81, .inl ffi)), ((r 11), .inl (cI, 81, .inl fe)), ((r 12), .inl (cI, 648, .inl fa)), ((r 13), .inl (cI, 648, .inl fk))]) [0, 1, 2, 3, 4, 5] rfl) (ci := 3) (q0 := 0) rfl rfl) rfl rfl hl.1 rfl (lv_room (Nat.le_of_ble_eq_true rfl)) d_D_change_48 ⟨Nat.le_of_ble_eq_true rfl, Nat.le_of_ble_eq_true rfl⟩)) (fun r_10 h_11 => ?_)
        subst h_11
        refine lv_aload_n hx hb d_D_change_51 rfl (lv_at hl 2 rfl) ?_
        refine lv_iload hx hb d_D_change_52 (lv_at hl 0 rfl) ?_
        refine lv_iload_n hx hb d_D_change_54 rfl (lv_at hl 4 rfl) ?_
        refine lv_aload_n hx hb d_D_change_55 rfl (lv_at hl 2 rfl) ?_
        refine va_get (D := (dC, dI)) (ci := 3) (v := .int nw) (C := R_D) (T := T_D) (N := 19) hx hb hts ti_D hown hK hP 0 rfl rfl 14 (by decide) (hts (Cond.fieldLink "MeasureRowsModel" 84 "MeasureRowsModel" "now" "I") mw_273) (fun _ h9 => h9) rfl d_D_change_56 ?_
        refine vp_callSi (va_Run.run (va_runV (As := [.int (nI (j + 1)), .int a1, .int nw]) (rest := [.int (mv_D_lasts ffi fe fa fk (j + 1) a0 nw)]) (C := R_D) ⟨hx, hb, hml, hown, hts⟩ (mc_D_lastsX l s0 dC dI cI cR cL cZ r 0 nw pb lc n fco ffi fe fa fk (j + 1) a1 nw (by omega) (by omega) hM) ⟨(mr_cB 3 (hts (Cond.code y_D_lasts b_D_lasts 4 (some .boolean)) mw_285) (hts (Cond.initialized y_D_lasts.cls) mw_286) (hts (Cond.methodLink "MeasureRowsModel" 117 y_D_lasts) mw_287) rfl rfl (by decide +kernel) ⟨Nat.le_of_ble_eq_true rfl, Nat.le_of_ble_eq_true rfl⟩), (hts (Cond.instanceMethod y_D_lasts) mw_288), (hts (Cond.selects "MeasureRowsModel" y_D_lasts y_D_lasts) mw_289)⟩ (mr_preV hBH hK (hP.sub (ws' := [((r 0), .inr (3, mf_D r 0 (nI n) nw pb lc)), ((r 3), .inl (cI, 81, .inl fco)), ((r 5), .inl (cI, 81, .inl ffi)), ((r 11), .inl (cI, 81, .inl fe)), ((r 12), .inl (cI, 648, .inl fa)), ((r 13), .inl (cI, 648, .inl fk))]) [0, 1, 2, 3, 4, 5] rfl) (ci := 3) (q0 := 0) rfl rfl) rfl rfl hl.1 rfl (lv_room (Nat.le_of_ble_eq_true rfl)) d_D_change_59 ⟨Nat.le_of_ble_eq_true rfl, Nat.le_of_ble_eq_true rfl⟩)) (fun r_12 h_13 => ?_)
        subst h_13
        refine lv_icmp_eq (tgt := 77) hx hb d_D_change_62 (by decide) (fun c_14 => ?_) (fun c_14 => ?_)
        · refine lv_iinc (v := nI ((j + 1) + 1)) (lv' := [(5, .int (nI ((j + 1) + 1))), (4, .int z9), (0, .ref (r 0)), (1, .int a0), (2, .int a1), (3, .int a2)]) hx hb d_D_change_77 hl (k := 0) rfl ((nI_succ (j + 1)).symm) (by decide) rfl (fun ls hl => ?_)
          refine lv_goto (tgt := 31) hx hb d_D_change_80 (by decide) ?_
          have hz9 := hexj.1
          have hp9 := mv_ch_n c_14
          have hq9 := mr_nth_0 (i := a2) hp9
          rw [← mr_cnt_n hp9] at hz9
          exact ih _ _ _ ⟨z9, ⟨hz9, mr_none_succ hexj.2 hq9⟩, hP, hD, hS, lv_sub hl [0, 1, 2, 3, 4, 5] rfl⟩
        · refine lv_iload hx hb d_D_change_65 (lv_at hl 1 rfl) ?_
          refine lv_iload_n hx hb d_D_change_67 rfl (lv_at hl 5 rfl) ?_
          refine lv_icmp_ne (tgt := 74) hx hb d_D_change_68 (by decide) (fun c_15 => ?_) (fun c_15 => ?_)
          · refine lv_iinc (v := z9 + 1) (lv' := [(4, .int (z9 + 1)), (5, .int (nI (j + 1))), (0, .ref (r 0)), (1, .int a0), (2, .int a1), (3, .int a2)]) hx hb d_D_change_74 hl (k := 1) rfl (rfl) (by decide) rfl (fun ls hl => ?_)
            refine lv_iinc (v := nI ((j + 1) + 1)) (lv' := [(5, .int (nI ((j + 1) + 1))), (4, .int (z9 + 1)), (0, .ref (r 0)), (1, .int a0), (2, .int a1), (3, .int a2)]) hx hb d_D_change_77 hl (k := 1) rfl ((nI_succ (j + 1)).symm) (by decide) rfl (fun ls hl => ?_)
            refine lv_goto (tgt := 31) hx hb d_D_change_80 (by decide) ?_
            have hz9 := hexj.1
            have hp9 := mv_ch_y c_14
            have hq9 := mr_nth_n (i := a2) hp9 (by rw [← hz9]; exact c_15)
            have hz9 : z9 + 1 = _ := (by rw [hz9]; exact nI_1 _ : z9 + 1 = nI (mr_cnt _ j + 1)).trans (by rw [← mr_cnt_y hp9])
            exact ih _ _ _ ⟨(z9 + 1), ⟨hz9, mr_none_succ hexj.2 hq9⟩, hP, hD, hS, lv_sub hl [0, 1, 2, 3, 4, 5] rfl⟩
          · refine lv_iload hx hb d_D_change_71 (lv_at hl 0 rfl) ?_
            have hP9 := hP.sub (ws' := [((r 0), .inr (3, mf_D r 0 (nI n) nw pb lc)), ((r 3), .inl (cI, 81, .inl fco)), ((r 5), .inl (cI, 81, .inl ffi)), ((r 11), .inl (cI, 81, .inl fe)), ((r 12), .inl (cI, 648, .inl fa)), ((r 13), .inl (cI, 648, .inl fk))]) [0, 1, 2, 3, 4, 5] rfl
            have hD9 := hD.sub (ws' := [((r 0), .inr (3, mf_D r 0 (nI n) nw pb lc)), ((r 3), .inl (cI, 81, .inl fco)), ((r 5), .inl (cI, 81, .inl ffi)), ((r 11), .inl (cI, 81, .inl fe)), ((r 12), .inl (cI, 648, .inl fa)), ((r 13), .inl (cI, 648, .inl fk))]) [0, 1, 2, 3, 4, 5] (by decide) rfl
            exact W.iret (v := nI (j + 1)) hx hb hr (fun t ht hW => ⟨⟨_, (), rfl, (by unfold mv_D_change; rw [if_neg c_3, if_neg c_8, mr_fst_hit hM.1 hj hexj.2 (mr_nth_y (mv_ch_y c_14) (by rw [← hexj.1]; exact c_15))]), 0, ⟨by rw [ht]; exact hP9, va_K.moved hW.alike hK, hD9⟩, (by unfold mN_D_change_th; rw [if_neg c_3, if_neg c_8])⟩, hS.F ht⟩) hS.2.2 d_D_change_73
      · obtain ⟨z9, hexj, hP, hD, hS, hl⟩ := hI9
        have hBH := hB.at hS hA0
        refine lv_iload hx hb d_D_change_31 (lv_at hl 0 rfl) ?_
        refine lv_aload_n hx hb d_D_change_33 rfl (lv_at hl 2 rfl) ?_
        refine va_get (D := (dC, dI)) (ci := 3) (v := .int (nI n)) (C := R_D) (T := T_D) (N := 19) hx hb hts ti_D hown hK hP 0 rfl rfl 2 (by decide) (hts (Cond.fieldLink "MeasureRowsModel" 81 "MeasureRowsModel" "rows" "I") mw_294) (fun _ h9 => h9) rfl d_D_change_34 ?_
        refine lv_icmp_gt (tgt := 83) hx hb d_D_change_37 (by decide) (fun _ => ?_) (fun c_16 => absurd (nI_lt (by omega) (by have := hM.1; omega)) c_16)
        refine lv_iconst (v := (-1)) hx hb d_D_change_83 (by decide) ?_
        have hP9 := hP.sub (ws' := [((r 0), .inr (3, mf_D r 0 (nI n) nw pb lc)), ((r 3), .inl (cI, 81, .inl fco)), ((r 5), .inl (cI, 81, .inl ffi)), ((r 11), .inl (cI, 81, .inl fe)), ((r 12), .inl (cI, 648, .inl fa)), ((r 13), .inl (cI, 648, .inl fk))]) [0, 1, 2, 3, 4, 5] rfl
        have hD9 := hD.sub (ws' := [((r 0), .inr (3, mf_D r 0 (nI n) nw pb lc)), ((r 3), .inl (cI, 81, .inl fco)), ((r 5), .inl (cI, 81, .inl ffi)), ((r 11), .inl (cI, 81, .inl fe)), ((r 12), .inl (cI, 648, .inl fa)), ((r 13), .inl (cI, 648, .inl fk))]) [0, 1, 2, 3, 4, 5] (by decide) rfl
        exact W.iret (v := (-1)) hx hb hr (fun t ht hW => ⟨⟨_, (), rfl, (by unfold mv_D_change; rw [if_neg c_3, if_neg c_8, mr_fst_no hexj.2]), 0, ⟨by rw [ht]; exact hP9, va_K.moved hW.alike hK, hD9⟩, (by unfold mN_D_change_th; rw [if_neg c_3, if_neg c_8])⟩, hS.F ht⟩) hS.2.2 d_D_change_84
    · refine lv_aload_n hx hb d_D_change_14 rfl (lv_at hl 0 rfl) ?_
      refine lv_iconst (v := 1) hx hb d_D_change_15 (by decide) ?_
      have hPc := hP.sub (ws' := [((r 0), .inr (3, mf_D r th (nI n) nw pb lc))]) [0] rfl
      have hDc := hD.sub (ws' := [((r 0), .inr (3, mf_D r th (nI n) nw pb lc))]) [0] (by decide) rfl
      have hFc := va_free (wc := [((r 0), .inr (3, mf_D r th (nI n) nw pb lc))]) hD hS hA [0] rfl
      refine va_calli (va_runV (As := [.int 1]) (rest := []) (C := R_D) ⟨hx, hb, hml, hown, hts⟩ (mc_D_fails l s0 dC dI cI cR cL cZ r th (nI n) nw pb lc _ 1) ⟨(mr_cB 1 (hts (Cond.code y_D_fails b_D_fails 2 (some .int)) mw_318) (hts (Cond.initialized y_D_fails.cls) mw_319) (hts (Cond.methodLink "MeasureRowsModel" 97 y_D_fails) mw_320) rfl rfl (by decide +kernel) ⟨Nat.le_of_ble_eq_true rfl, Nat.le_of_ble_eq_true rfl⟩), (hts (Cond.instanceMethod y_D_fails) mw_321), (hts (Cond.selects "MeasureRowsModel" y_D_fails y_D_fails) mw_322)⟩ (mr_preCV hBH hK hPc (hDc.weaken (fun _ _ _ h => hA0 _ h)) (ci := 3) (q0 := 0) rfl rfl) rfl rfl hl.1 rfl (lv_room (Nat.le_of_ble_eq_true rfl)) d_D_change_16 ⟨Nat.le_of_ble_eq_true rfl, Nat.le_of_ble_eq_true rfl⟩) hS (fun q _ h => hFc q h) hFc (fun r_17 u_18 t H1 locs ht hvm hw hB1 hz1 hk1 hS => ?_)
      obtain ⟨hP1, hK1, hD1⟩ := hB1
      rw [ht] at hP1
      obtain ⟨hP, hD⟩ := va_join (wr := [((r 3), .inl (cI, 81, .inl fco)), ((r 5), .inl (cI, 81, .inl ffi)), ((r 11), .inl (cI, 81, .inl fe)), ((r 12), .inl (cI, 648, .inl fa)), ((r 13), .inl (cI, 648, .inl fk))]) (w1 := [((r 0), .inr (3, mf_D r 1 (nI n) nw pb lc))]) hP hD [0] [1, 2, 3, 4, 5] rfl rfl (by decide) (by decide) hk1 hFc hP1 hD1
      clear hK1 hk1 hPc hDc hFc
      generalize H1 = H at hP hS ht ⊢
      have hP : va_P (dC, dI) mr_cl [((r 3), .inl (cI, 81, .inl fco)), ((r 5), .inl (cI, 81, .inl ffi)), ((r 11), .inl (cI, 81, .inl fe)), ((r 12), .inl (cI, 648, .inl fa)), ((r 13), .inl (cI, 648, .inl fk)), ((r 0), .inr (3, mf_D r 1 (nI n) nw pb lc))] H := hP
      have hD : va_D A [((r 3), .inl (cI, 81, .inl fco)), ((r 5), .inl (cI, 81, .inl ffi)), ((r 11), .inl (cI, 81, .inl fe)), ((r 12), .inl (cI, 648, .inl fa)), ((r 13), .inl (cI, 648, .inl fk)), ((r 0), .inr (3, mf_D r 1 (nI n) nw pb lc))] := hD
      have hBH := hB.at hS hA0
      obtain rfl : r_17 = 0 := hw
      have hP9 := hP.sub (ws' := [((r 0), .inr (3, mf_D r 1 (nI n) nw pb lc)), ((r 3), .inl (cI, 81, .inl fco)), ((r 5), .inl (cI, 81, .inl ffi)), ((r 11), .inl (cI, 81, .inl fe)), ((r 12), .inl (cI, 648, .inl fa)), ((r 13), .inl (cI, 648, .inl fk))]) [5, 0, 1, 2, 3, 4] rfl
      have hD9 := hD.sub (ws' := [((r 0), .inr (3, mf_D r 1 (nI n) nw pb lc)), ((r 3), .inl (cI, 81, .inl fco)), ((r 5), .inl (cI, 81, .inl ffi)), ((r 11), .inl (cI, 81, .inl fe)), ((r 12), .inl (cI, 648, .inl fa)), ((r 13), .inl (cI, 648, .inl fk))]) [5, 0, 1, 2, 3, 4] (by decide) rfl
      exact W.iret (v := 0) hx hb hr (fun t ht hW => ⟨⟨_, (), rfl, (by unfold mv_D_change; rw [if_neg c_3, if_pos c_8]), 1, ⟨by rw [ht]; exact hP9, va_K.moved hW.alike hK, hD9⟩, (by unfold mN_D_change_th; rw [if_neg c_3, if_pos c_8])⟩, hS.F ht⟩) hS.2.2 d_D_change_19
