/-- the kind of the x-th candidate (99: none) -/
def mr_K (n : Nat) (fr : Nat → Option Nat) (f : Nat → va_E) (fc : Nat → Int32) (x : Nat) : Nat := match mv_M_find n fr (fc x) with
  | none => 99
  | some a => match f a with
    | .inr o => match (o.2[3]? : Option Value) with
      | some (Value.int v) => v.toNatClampNeg
      | _ => 99
    | _ => 99
theorem mr_K_eq {n : Nat} {fr : Nat → Option Nat} {f : Nat → va_E} {fc : Nat → Int32} {x a k : Nat} {v0 v1 v2 : Int32} {w : List Value} (h : mv_M_find n fr (fc x) = some a) (e : f a = .inr (2, .int v0 :: .int v1 :: .int v2 :: .int (nI k) :: w)) (hk : k < 8) : mr_K n fr f fc x = k := by
  unfold mr_K
  rw [h]
  show (match f a with
    | .inr o => match (o.2[3]? : Option Value) with
      | some (Value.int v) => v.toNatClampNeg
      | _ => 99
    | _ => 99) = k
  rw [e]
  exact nI_clamp (n := k) (by omega)
def mr_c1 (K : Nat → Nat) (d : Nat) : Nat → Nat
  | 0 => 0
  | m + 1 => mr_c1 K d m + if K m < d then 1 else 0
def mr_c2 (K : Nat → Nat) (d : Nat) : Nat → Nat
  | 0 => 0
  | m + 1 => mr_c2 K d m + if K m = d then 1 else 0
theorem mr_c_le (K : Nat → Nat) (d m : Nat) : mr_c1 K d m + mr_c2 K d m ≤ m := by
  induction m with
  | zero => exact Nat.le_refl 0
  | succ m ih =>
    show mr_c1 K d m + (if K m < d then 1 else 0) + (mr_c2 K d m + if K m = d then 1 else 0) ≤ m + 1
    by_cases h1 : K m < d
    · rw [if_pos h1, if_neg (by omega)]; omega
    · rw [if_neg h1]
      by_cases h2 : K m = d
      · rw [if_pos h2]; omega
      · rw [if_neg h2]; omega
theorem mr_c_next (K : Nat → Nat) (d m : Nat) : mr_c1 K (d + 1) m = mr_c1 K d m + mr_c2 K d m := by
  induction m with
  | zero => rfl
  | succ m ih =>
    show mr_c1 K (d + 1) m + (if K m < d + 1 then 1 else 0) = mr_c1 K d m + (if K m < d then 1 else 0) + (mr_c2 K d m + if K m = d then 1 else 0)
    rw [ih]
    by_cases h1 : K m < d
    · rw [if_pos h1, if_pos (show K m < d + 1 by omega), if_neg (show ¬ K m = d by omega)]; omega
    · rw [if_neg h1]
      by_cases h2 : K m = d
      · rw [if_pos h2, if_pos (show K m < d + 1 by omega)]; omega
      · rw [if_neg h2, if_neg (show ¬ K m < d + 1 by omega)]; omega
theorem mr_c2_mono (K : Nat → Nat) (d i : Nat) : ∀ m, mr_c2 K d i ≤ mr_c2 K d (i + m) := by
  intro m
  induction m with
  | zero => exact Nat.le_refl _
  | succ m ih => exact Nat.le_trans ih (Nat.le_add_right _ _)
theorem mr_c2_y {K : Nat → Nat} {d i : Nat} (h : K i = d) : mr_c2 K d (i + 1) = mr_c2 K d i + 1 := by
  show mr_c2 K d i + (if K i = d then 1 else 0) = _
  rw [if_pos h]
theorem mr_c_lt {K : Nat → Nat} {d i m q : Nat} (hi : i < m) (h : K i = d) (hq : q ≤ mr_c1 K d m + mr_c2 K d i) : q < m := by
  have h1 := mr_c_le K d m
  have h2 := mr_c2_mono K d (i + 1) (m - (i + 1))
  rw [show i + 1 + (m - (i + 1)) = m by omega, mr_c2_y h] at h2
  omega
theorem mr_kk {k j : Nat} (h : nI k = nI j) (hk : k < 8) (hj : j < 8) : k = j := (nI_eq (by omega) (by omega)).mp h
theorem mw_214 : Cond.code y_M_isBeaten b_M_isBeaten 2 (some .boolean) ∈ lw_tbl := by decide +kernel
theorem mw_215 : Cond.initialized y_M_isBeaten.cls ∈ lw_tbl := by decide +kernel
theorem mw_216 : Cond.methodLink "MeasureRows" 214 y_M_isBeaten ∈ lw_tbl := by decide +kernel
theorem mw_217 : Cond.instanceMethod y_M_isBeaten ∈ lw_tbl := by decide +kernel
theorem mw_218 : Cond.selects "MeasureRows" y_M_isBeaten y_M_isBeaten ∈ lw_tbl := by decide +kernel
set_option maxHeartbeats 4000000 in
set_option maxRecDepth 100000 in
theorem mc_M_listUnbeaten (l : Launch) (s0 : State) (dC : Nat → ClassId) (dI : Nat → Nat → Nat) (cI cR cL cZ : ClassId) (r : Nat → Nat) (n : Nat) (nw pb lc : Int32) (fm fi : Nat → Int32) (fr : Nat → Option Nat) (fl fc fg : Nat → Int32) (L : List Nat) (f : Nat → va_E) (cc : Nat) (sz : Nat)  (hc : cc ≤ 80) (hR : mr_RI cI n L f fr) : Met l y_M_listUnbeaten [Cond.code y_M_listUnbeaten b_M_listUnbeaten 5 none] ({ frames := 3, cells := 0, slots := 0, locals := 61 }) (mr_PC s0 (dC, dI) [(cI, .int), (cR, .object "MeasureRows$Row"), (cL, .long), (cZ, .boolean)] [.ref (r 0), .int (nI cc)] (([((r 0), .inr (0, mf_M r (nI n) nw pb lc)), ((r 1), .inr (1, [.ref (r 2), .ref (r 3)])), ((r 2), .inl (cI, 8, .inl fm)), ((r 3), .inl (cI, 8, .inl fi)), ((r 4), .inl (cR, 80, .inr (.inr (.inr (.inr fr))))), ((r 5), .inl (cI, 80, .inl fl)), ((r 6), .inl (cI, 80, .inl fc)), ((r 7), .inl (cI, 8, .inl fg))] : va_W) ++ va_pl L f) sz) (va_Qv (fun u => u.1 ≤ 80) (fun (u : Nat × (Nat → Int32)) t => mr_W (dC, dI) [(cI, .int), (cR, .object "MeasureRows$Row"), (cL, .long), (cZ, .boolean)] (va_A (([((r 0), .inr (0, mf_M r (nI n) nw pb lc)), ((r 1), .inr (1, [.ref (r 2), .ref (r 3)])), ((r 2), .inl (cI, 8, .inl fm)), ((r 3), .inl (cI, 8, .inl fi)), ((r 4), .inl (cR, 80, .inr (.inr (.inr (.inr fr))))), ((r 5), .inl (cI, 80, .inl fl)), ((r 6), .inl (cI, 80, .inl fc)), ((r 7), .inl (cI, 8, .inl fg))] : va_W) ++ va_pl L f) sz) (([((r 0), .inr (0, mf_M r (nI n) nw pb (nI u.1))), ((r 1), .inr (1, [.ref (r 2), .ref (r 3)])), ((r 2), .inl (cI, 8, .inl fm)), ((r 3), .inl (cI, 8, .inl fi)), ((r 4), .inl (cR, 80, .inr (.inr (.inr (.inr fr))))), ((r 5), .inl (cI, 80, .inl u.2)), ((r 6), .inl (cI, 80, .inl fc)), ((r 7), .inl (cI, 8, .inl fg))] : va_W) ++ va_pl L f) t) (va_A (([((r 0), .inr (0, mf_M r (nI n) nw pb lc)), ((r 1), .inr (1, [.ref (r 2), .ref (r 3)])), ((r 2), .inl (cI, 8, .inl fm)), ((r 3), .inl (cI, 8, .inl fi)), ((r 4), .inl (cR, 80, .inr (.inr (.inr (.inr fr))))), ((r 5), .inl (cI, 80, .inl fl)), ((r 6), .inl (cI, 80, .inl fc)), ((r 7), .inl (cI, 8, .inl fg))] : va_W) ++ va_pl L f) sz)) 0 0 (va_A (([((r 0), .inr (0, mf_M r (nI n) nw pb lc)), ((r 1), .inr (1, [.ref (r 2), .ref (r 3)])), ((r 2), .inl (cI, 8, .inl fm)), ((r 3), .inl (cI, 8, .inl fi)), ((r 4), .inl (cR, 80, .inr (.inr (.inr (.inr fr))))), ((r 5), .inl (cI, 80, .inl fl)), ((r 6), .inl (cI, 80, .inl fc)), ((r 7), .inl (cI, 8, .inl fg))] : va_W) ++ va_pl L f) sz) := by
  refine Met.ofW (cc := b_M_listUnbeaten) (maxL := 5) (ret := none) (by decide) rfl ?_
  intro p e s m args below meth c s₁ B hml hv
  obtain ⟨rfl, hsz, hB, hK, hP, hD0⟩ := hv
  subst hsz
  have hA0 := mr_A hB hD0
  have hD := hD0.self (sz := s.heap.size)
  generalize hAe : va_A (([((r 0), .inr (0, mf_M r (nI n) nw pb lc)), ((r 1), .inr (1, [.ref (r 2), .ref (r 3)])), ((r 2), .inl (cI, 8, .inl fm)), ((r 3), .inl (cI, 8, .inl fi)), ((r 4), .inl (cR, 80, .inr (.inr (.inr (.inr fr))))), ((r 5), .inl (cI, 80, .inl fl)), ((r 6), .inl (cI, 80, .inl fc)), ((r 7), .inl (cI, 8, .inl fg))] : va_W) ++ va_pl L f) s.heap.size = A at hD hA0 ⊢
  have hA : ∀ q : Nat, s.heap.size ≤ q → A q := fun q h => by rw [← hAe]; exact Or.inr h
  have hS : va_S A s.heap s.heap [] := va_S.rf
  have hP : va_P (dC, dI) mr_cl (([((r 0), .inr (0, mf_M r (nI n) nw pb lc)), ((r 1), .inr (1, [.ref (r 2), .ref (r 3)])), ((r 2), .inl (cI, 8, .inl fm)), ((r 3), .inl (cI, 8, .inl fi)), ((r 4), .inl (cR, 80, .inr (.inr (.inr (.inr fr))))), ((r 5), .inl (cI, 80, .inl fl)), ((r 6), .inl (cI, 80, .inl fc)), ((r 7), .inl (cI, 8, .inl fg))] : va_W) ++ va_pl L f) s.heap := hP
  have hBH := hB.at hS hA0
  have hx := B.exec
  have hb := B.bytes
  have hr := B.returns
  have hlocks := B.notSynchronized
  have hts : ∀ w ∈ lw_tbl, w.before [.ref (r 0), .int (nI cc)].toArray s = true := hB.hts _
  have hown : s.vm.findClass "MeasureRows" = some m.cls := findClass_of_methodNamed B.named
  have hl := lv_entry ([.ref (r 0), .int (nI cc)]) (n := 5) (Nat.le_of_ble_eq_true rfl)
  rw [lg_entry_eq]
  generalize (lg_sl ([.ref (r 0), .int (nI cc)]) ++ List.replicate (5 - (lg_sl ([.ref (r 0), .int (nI cc)])).length) Slot.unset).toArray = ls at hl ⊢
  have hl : lv_has ls 5 [(0, .ref (r 0)), (1, .int (nI cc))] := hl
  refine lv_aload_n hx hb d_M_listUnbeaten_0 rfl (lv_at hl 0 rfl) ?_
  refine lv_iconst (v := 0) hx hb d_M_listUnbeaten_1 (by decide) ?_
  refine va_put (D := (dC, dI)) (ci := 0) (v := .int 0) (ty := .int) (C := R_M) (T := T_M) (N := 9) hx hb hts ti_M t_M to_M tn_M hown hK hP hD hS 0 rfl rfl 6 (by decide) (hts (Cond.fieldLink "MeasureRows" 36 "MeasureRows" "listedCount" "I") mw_61) (fun _ h9 => h9) rfl (by decide +kernel) rfl rfl (Nat.le_of_ble_eq_true rfl) d_M_listUnbeaten_2 (fun H locs hP hD hS => ?_)
  have hP : va_P (dC, dI) mr_cl (([((r 0), .inr (0, mf_M r (nI n) nw pb 0)), ((r 1), .inr (1, [.ref (r 2), .ref (r 3)])), ((r 2), .inl (cI, 8, .inl fm)), ((r 3), .inl (cI, 8, .inl fi)), ((r 4), .inl (cR, 80, .inr (.inr (.inr (.inr fr))))), ((r 5), .inl (cI, 80, .inl fl)), ((r 6), .inl (cI, 80, .inl fc)), ((r 7), .inl (cI, 8, .inl fg))] : va_W) ++ va_pl L f) H := hP
  have hD : va_D A (([((r 0), .inr (0, mf_M r (nI n) nw pb 0)), ((r 1), .inr (1, [.ref (r 2), .ref (r 3)])), ((r 2), .inl (cI, 8, .inl fm)), ((r 3), .inl (cI, 8, .inl fi)), ((r 4), .inl (cR, 80, .inr (.inr (.inr (.inr fr))))), ((r 5), .inl (cI, 80, .inl fl)), ((r 6), .inl (cI, 80, .inl fc)), ((r 7), .inl (cI, 8, .inl fg))] : va_W) ++ va_pl L f) := hD
  have hBH := hB.at hS hA0
  refine lv_iconst (v := 0) hx hb d_M_listUnbeaten_5 (by decide) ?_
  refine lv_istore_n (lv' := [(2, .int 0), (0, .ref (r 0)), (1, .int (nI cc))]) hx hb d_M_listUnbeaten_6 rfl hl (by decide) rfl (fun ls hl => ?_)
  refine mr_loop (N := 8) (I := fun j H locs ls => ∃ q8 : Nat, ∃ ft8 : Nat → Int32, q8 ≤ mr_c1 (mr_K n fr f fc) j cc ∧ va_P (dC, dI) mr_cl (([((r 0), .inr (0, mf_M r (nI n) nw pb (nI q8))), ((r 1), .inr (1, [.ref (r 2), .ref (r 3)])), ((r 2), .inl (cI, 8, .inl fm)), ((r 3), .inl (cI, 8, .inl fi)), ((r 4), .inl (cR, 80, .inr (.inr (.inr (.inr fr))))), ((r 5), .inl (cI, 80, .inl ft8)), ((r 6), .inl (cI, 80, .inl fc)), ((r 7), .inl (cI, 8, .inl fg))] : va_W) ++ va_pl L f) H ∧ va_D A (([((r 0), .inr (0, mf_M r (nI n) nw pb (nI q8))), ((r 1), .inr (1, [.ref (r 2), .ref (r 3)])), ((r 2), .inl (cI, 8, .inl fm)), ((r 3), .inl (cI, 8, .inl fi)), ((r 4), .inl (cR, 80, .inr (.inr (.inr (.inr fr))))), ((r 5), .inl (cI, 80, .inl ft8)), ((r 6), .inl (cI, 80, .inl fc)), ((r 7), .inl (cI, 8, .inl fg))] : va_W) ++ va_pl L f) ∧ va_S A s.heap H locs ∧ lv_has ls 5 [(2, .int (nI j)), (0, .ref (r 0)), (1, .int (nI cc))]) (fun j H locs ls hj hI9 ih => ?_) (fun H locs ls hI9 => ?_) 0 _ _ _ (Nat.zero_le _) ⟨0, fl, Nat.zero_le _, hP, hD, hS, (lv_sub hl [0, 1, 2] rfl)⟩
  · obtain ⟨q8, ft8, hexj, hP, hD, hS, hl⟩ := hI9
    have hBH := hB.at hS hA0
    refine lv_iload_n hx hb d_M_listUnbeaten_7 rfl (lv_at hl 0 rfl) ?_
    refine lv_bipush (v := 8) hx hb d_M_listUnbeaten_8 (by decide) ?_
    refine lv_icmp_ge (tgt := 92) hx hb d_M_listUnbeaten_10 (by decide) (fun c_1 => absurd c_1 (nI_ge (b := 8) hj (by decide))) (fun _ => ?_)
    refine lv_iconst (v := 0) hx hb d_M_listUnbeaten_13 (by decide) ?_
    refine lv_istore_n (lv' := [(3, .int 0), (2, .int (nI j)), (0, .ref (r 0)), (1, .int (nI cc))]) hx hb d_M_listUnbeaten_14 rfl hl (by decide) rfl (fun ls hl => ?_)
    refine mr_loop (N := cc) (I := fun i H locs ls => ∃ q9 : Nat, ∃ ft9 : Nat → Int32, q9 ≤ mr_c1 (mr_K n fr f fc) j cc + mr_c2 (mr_K n fr f fc) j i ∧ va_P (dC, dI) mr_cl (([((r 0), .inr (0, mf_M r (nI n) nw pb (nI q9))), ((r 1), .inr (1, [.ref (r 2), .ref (r 3)])), ((r 2), .inl (cI, 8, .inl fm)), ((r 3), .inl (cI, 8, .inl fi)), ((r 4), .inl (cR, 80, .inr (.inr (.inr (.inr fr))))), ((r 5), .inl (cI, 80, .inl ft9)), ((r 6), .inl (cI, 80, .inl fc)), ((r 7), .inl (cI, 8, .inl fg))] : va_W) ++ va_pl L f) H ∧ va_D A (([((r 0), .inr (0, mf_M r (nI n) nw pb (nI q9))), ((r 1), .inr (1, [.ref (r 2), .ref (r 3)])), ((r 2), .inl (cI, 8, .inl fm)), ((r 3), .inl (cI, 8, .inl fi)), ((r 4), .inl (cR, 80, .inr (.inr (.inr (.inr fr))))), ((r 5), .inl (cI, 80, .inl ft9)), ((r 6), .inl (cI, 80, .inl fc)), ((r 7), .inl (cI, 8, .inl fg))] : va_W) ++ va_pl L f) ∧ va_S A s.heap H locs ∧ lv_has ls 5 [(3, .int (nI i)), (2, .int (nI j)), (0, .ref (r 0)), (1, .int (nI cc))]) (fun i H locs ls hi9 hI9 ih2 => ?_) (fun H locs ls hI9 => ?_) 0 _ _ _ (Nat.zero_le _) ⟨q8, ft8, Nat.le_trans hexj (Nat.le_add_right _ _), hP, hD, hS, (lv_sub hl [0, 1, 2, 3] rfl)⟩
    · obtain ⟨q9, ft9, hexi, hP, hD, hS, hl⟩ := hI9
      have hBH := hB.at hS hA0
      refine lv_iload_n hx hb d_M_listUnbeaten_15 rfl (lv_at hl 0 rfl) ?_
      refine lv_iload_n hx hb d_M_listUnbeaten_16 rfl (lv_at hl 3 rfl) ?_
      refine lv_icmp_ge (tgt := 86) hx hb d_M_listUnbeaten_17 (by decide) (fun c_2 => absurd c_2 (nI_ge hi9 (by omega))) (fun _ => ?_)
      refine lv_aload_n hx hb d_M_listUnbeaten_20 rfl (lv_at hl 2 rfl) ?_
      refine lv_aload_n hx hb d_M_listUnbeaten_21 rfl (lv_at hl 2 rfl) ?_
      refine va_get (D := (dC, dI)) (ci := 0) (v := .ref (r 6)) (C := R_M) (T := T_M) (N := 9) hx hb hts ti_M hown hK hP 0 rfl rfl 7 (by decide) (hts (Cond.fieldLink "MeasureRows" 39 "MeasureRows" "candidates" "[I") mw_62) (fun _ h9 => h9) rfl d_M_listUnbeaten_22 ?_
      refine lv_iload_n hx hb d_M_listUnbeaten_25 rfl (lv_at hl 0 rfl) ?_
      refine va_iald (D := (dC, dI)) hx hb hK hP 6 0 rfl rfl (i := nI i) (nI_in (by omega) (by decide)) d_M_listUnbeaten_26 ?_
      refine mr_top (show fc (nI i).toNatClampNeg = fc i by rw [nI_clamp (by omega)]) ?_
      refine va_csq (va_Run.run (va_runV (As := [.int (fc i)]) (rest := []) (C := R_M) ⟨hx, hb, hml, hown, hts⟩ (mc_M_find l s0 dC dI cI cR cL cZ r n nw pb (nI q9) fr (fc i) hR.1) ⟨(mr_cB 1 (hts (Cond.code y_M_find b_M_find 2 (some (.object "MeasureRows$Row"))) mw_117) (hts (Cond.initialized y_M_find.cls) mw_118) (hts (Cond.methodLink "MeasureRows" 111 y_M_find) mw_119) rfl rfl (by decide +kernel) ⟨Nat.le_of_ble_eq_true rfl, Nat.le_of_ble_eq_true rfl⟩), (hts (Cond.instanceMethod y_M_find) mw_120), (hts (Cond.selects "MeasureRows" y_M_find y_M_find) mw_121)⟩ (mr_preV hBH hK (hP.sub (ws' := [((r 0), .inr (0, mf_M r (nI n) nw pb (nI q9))), ((r 4), .inl (cR, 80, .inr (.inr (.inr (.inr fr)))))]) [0, 4] rfl) (ci := 0) (q0 := 0) rfl rfl) rfl rfl hl.1 rfl (lv_room (Nat.le_of_ble_eq_true rfl)) d_M_listUnbeaten_27 ⟨Nat.le_of_ble_eq_true rfl, Nat.le_of_ble_eq_true rfl⟩)) (fun r_3 h_4 => ?_)
      subst h_4
      rcases mr_fc hR (fc i) with hf_11 | ⟨i_11, hi_11, hxe_11, a_11, ql_11, qk_11, v0_11, v1_11, v2_11, v4_11, v5_11, v6_11, v7_11, k_11, t_11, ld_11, kd_11, hf_11, hfi_11, m1_11, m2_11, m3_11, e1_11, e2_11, e3_11, hk_11, ht_11, ho_11, hne_11⟩
      · refine mr_topv (show va_rf (mv_M_find n fr (fc i)) = .null by rw [hf_11]; rfl) ?_
        refine lv_astoreN (lv' := [(4, .null), (3, .int (nI i)), (2, .int (nI j)), (0, .ref (r 0)), (1, .int (nI cc))]) hx hb d_M_listUnbeaten_30 hl (by decide) rfl (fun ls hl => ?_)
        refine lv_aloadN hx hb d_M_listUnbeaten_32 (lv_at hl 0 rfl) ?_
        refine lv_ifnullN (tgt := 80) hx hb d_M_listUnbeaten_34 (by decide) ?_
        refine lv_iinc (v := nI (i + 1)) (lv' := [(3, .int (nI (i + 1))), (4, .null), (2, .int (nI j)), (0, .ref (r 0)), (1, .int (nI cc))]) hx hb d_M_listUnbeaten_80 hl (k := 1) rfl ((nI_succ i).symm) (by decide) rfl (fun ls hl => ?_)
        refine lv_goto (tgt := 15) hx hb d_M_listUnbeaten_83 (by decide) ?_
        exact ih2 _ _ _ ⟨q9, ft9, Nat.le_trans hexi (Nat.add_le_add_left (mr_c2_mono _ _ _ 1) _), hP, hD, hS, lv_sub hl [0, 2, 3, 4] rfl⟩
      · refine mr_topv (show va_rf (mv_M_find n fr (fc i)) = .ref a_11 by rw [hf_11]; rfl) ?_
        have hPr_11 := mr_row3 (X := [((r 0), .inr (0, mf_M r (nI n) nw pb (nI q9))), ((r 1), .inr (1, [.ref (r 2), .ref (r 3)])), ((r 2), .inl (cI, 8, .inl fm)), ((r 3), .inl (cI, 8, .inl fi)), ((r 4), .inl (cR, 80, .inr (.inr (.inr (.inr fr))))), ((r 5), .inl (cI, 80, .inl ft9)), ((r 6), .inl (cI, 80, .inl fc)), ((r 7), .inl (cI, 8, .inl fg))]) hP m1_11 m2_11 m3_11 e1_11 e2_11 e3_11
        refine lv_astore (lv' := [(4, .ref a_11), (3, .int (nI i)), (2, .int (nI j)), (0, .ref (r 0)), (1, .int (nI cc))]) hx hb d_M_listUnbeaten_30 hl (by decide) rfl (fun ls hl => ?_)
        refine lv_aload hx hb d_M_listUnbeaten_32 (lv_at hl 0 rfl) ?_
        refine lv_ifnull hx hb d_M_listUnbeaten_34 ?_
        refine lv_aload hx hb d_M_listUnbeaten_37 (lv_at hl 0 rfl) ?_
        refine va_get (D := (dC, dI)) (ci := 2) (v := .int (nI k_11)) (C := R_R) (T := T_R) (N := 11) hx hb hts ti_R hown hK hPr_11 0 rfl rfl 3 (by decide) (hts (Cond.fieldLink "MeasureRows" 164 "MeasureRows$Row" "kind" "I") mw_151) (fun _ h9 => h9) rfl d_M_listUnbeaten_39 ?_
        refine lv_iload_n hx hb d_M_listUnbeaten_42 rfl (lv_at hl 2 rfl) ?_
        refine lv_icmp_ne (tgt := 80) hx hb d_M_listUnbeaten_43 (by decide) (fun c_5 => ?_) (fun c_5 => ?_)
        · refine lv_iinc (v := nI (i + 1)) (lv' := [(3, .int (nI (i + 1))), (4, .ref a_11), (2, .int (nI j)), (0, .ref (r 0)), (1, .int (nI cc))]) hx hb d_M_listUnbeaten_80 hl (k := 1) rfl ((nI_succ i).symm) (by decide) rfl (fun ls hl => ?_)
          refine lv_goto (tgt := 15) hx hb d_M_listUnbeaten_83 (by decide) ?_
          exact ih2 _ _ _ ⟨q9, ft9, Nat.le_trans hexi (Nat.add_le_add_left (mr_c2_mono _ _ _ 1) _), hP, hD, hS, lv_sub hl [0, 2, 3, 4] rfl⟩
        · refine lv_aload_n hx hb d_M_listUnbeaten_46 rfl (lv_at hl 3 rfl) ?_
          refine lv_aload hx hb d_M_listUnbeaten_47 (lv_at hl 0 rfl) ?_
          refine vp_callSi (va_Run.run (va_runV (As := [.ref a_11]) (rest := []) (C := R_M) ⟨hx, hb, hml, hown, hts⟩ (mc_M_isBeaten l s0 dC dI cI cR cL cZ r n nw pb (nI q9) fg a_11 ql_11 qk_11 v0_11 v1_11 v2_11 v4_11 v5_11 v6_11 v7_11 (nI t_11) k_11 hk_11) ⟨(mr_cB 1 (hts (Cond.code y_M_isBeaten b_M_isBeaten 2 (some .boolean)) mw_214) (hts (Cond.initialized y_M_isBeaten.cls) mw_215) (hts (Cond.methodLink "MeasureRows" 214 y_M_isBeaten) mw_216) rfl rfl (by decide +kernel) ⟨Nat.le_of_ble_eq_true rfl, Nat.le_of_ble_eq_true rfl⟩), (hts (Cond.instanceMethod y_M_isBeaten) mw_217), (hts (Cond.selects "MeasureRows" y_M_isBeaten y_M_isBeaten) mw_218)⟩ (mr_preV hBH hK ((hP.sub (ws' := [((r 0), .inr (0, mf_M r (nI n) nw pb (nI q9))), ((r 7), .inl (cI, 8, .inl fg))]) [0, 7] rfl).app (hPr_11.sub (ws' := [(a_11, .inr (2, [.int v0_11, .int v1_11, .int v2_11, .int (nI k_11), .int v4_11, .int v5_11, .int v6_11, .int v7_11, .int (nI t_11), .ref ql_11, .ref qk_11]))]) [0] rfl)) (ci := 0) (q0 := 0) rfl rfl) rfl rfl hl.1 rfl (lv_room (Nat.le_of_ble_eq_true rfl)) d_M_listUnbeaten_49 ⟨Nat.le_of_ble_eq_true rfl, Nat.le_of_ble_eq_true rfl⟩)) (fun r_6 h_7 => ?_)
          refine lv_if_ne (tgt := 80) hx hb d_M_listUnbeaten_52 (by decide) (fun c_8 => ?_) (fun c_8 => ?_)
          · refine lv_iinc (v := nI (i + 1)) (lv' := [(3, .int (nI (i + 1))), (4, .ref a_11), (2, .int (nI j)), (0, .ref (r 0)), (1, .int (nI cc))]) hx hb d_M_listUnbeaten_80 hl (k := 1) rfl ((nI_succ i).symm) (by decide) rfl (fun ls hl => ?_)
            refine lv_goto (tgt := 15) hx hb d_M_listUnbeaten_83 (by decide) ?_
            exact ih2 _ _ _ ⟨q9, ft9, Nat.le_trans hexi (Nat.add_le_add_left (mr_c2_mono _ _ _ 1) _), hP, hD, hS, lv_sub hl [0, 2, 3, 4] rfl⟩
          · have hKi := (mr_K_eq hf_11 e1_11 hk_11).trans (mr_kk c_5 hk_11 hj)
            refine lv_aload_n hx hb d_M_listUnbeaten_55 rfl (lv_at hl 3 rfl) ?_
            refine va_get (D := (dC, dI)) (ci := 0) (v := .ref (r 5)) (C := R_M) (T := T_M) (N := 9) hx hb hts ti_M hown hK hP 0 rfl rfl 5 (by decide) (hts (Cond.fieldLink "MeasureRows" 32 "MeasureRows" "listed" "[I") mw_60) (fun _ h9 => h9) rfl d_M_listUnbeaten_56 ?_
            refine lv_aload_n hx hb d_M_listUnbeaten_59 rfl (lv_at hl 3 rfl) ?_
            refine va_get (D := (dC, dI)) (ci := 0) (v := .int (nI q9)) (C := R_M) (T := T_M) (N := 9) hx hb hts ti_M hown hK hP 0 rfl rfl 6 (by decide) (hts (Cond.fieldLink "MeasureRows" 36 "MeasureRows" "listedCount" "I") mw_61) (fun _ h9 => h9) rfl d_M_listUnbeaten_60 ?_
            refine lv_aload_n hx hb d_M_listUnbeaten_63 rfl (lv_at hl 3 rfl) ?_
            refine va_get (D := (dC, dI)) (ci := 0) (v := .ref (r 6)) (C := R_M) (T := T_M) (N := 9) hx hb hts ti_M hown hK hP 0 rfl rfl 7 (by decide) (hts (Cond.fieldLink "MeasureRows" 39 "MeasureRows" "candidates" "[I") mw_62) (fun _ h9 => h9) rfl d_M_listUnbeaten_64 ?_
            refine lv_iload_n hx hb d_M_listUnbeaten_67 rfl (lv_at hl 1 rfl) ?_
            refine va_iald (D := (dC, dI)) hx hb hK hP 6 0 rfl rfl (i := nI i) (nI_in (by omega) (by decide)) d_M_listUnbeaten_68 ?_
            refine mr_top (show fc (nI i).toNatClampNeg = fc i by rw [nI_clamp (by omega)]) ?_
            refine va_iast (D := (dC, dI)) hx hb hK hP hD hS 5 0 rfl rfl (i := (nI q9)) (nI_in (Nat.lt_of_lt_of_le (mr_c_lt hi9 hKi hexi) hc) (by decide)) d_M_listUnbeaten_69 (fun H locs hP hD hS => ?_)
            have hP : va_P (dC, dI) mr_cl (([((r 0), .inr (0, mf_M r (nI n) nw pb (nI q9))), ((r 1), .inr (1, [.ref (r 2), .ref (r 3)])), ((r 2), .inl (cI, 8, .inl fm)), ((r 3), .inl (cI, 8, .inl fi)), ((r 4), .inl (cR, 80, .inr (.inr (.inr (.inr fr))))), ((r 5), .inl (cI, 80, .inl (upd ft9 (nI q9).toNatClampNeg (fc i)))), ((r 6), .inl (cI, 80, .inl fc)), ((r 7), .inl (cI, 8, .inl fg))] : va_W) ++ va_pl L f) H := hP
            have hD : va_D A (([((r 0), .inr (0, mf_M r (nI n) nw pb (nI q9))), ((r 1), .inr (1, [.ref (r 2), .ref (r 3)])), ((r 2), .inl (cI, 8, .inl fm)), ((r 3), .inl (cI, 8, .inl fi)), ((r 4), .inl (cR, 80, .inr (.inr (.inr (.inr fr))))), ((r 5), .inl (cI, 80, .inl (upd ft9 (nI q9).toNatClampNeg (fc i)))), ((r 6), .inl (cI, 80, .inl fc)), ((r 7), .inl (cI, 8, .inl fg))] : va_W) ++ va_pl L f) := hD
            have hBH := hB.at hS hA0
            have hPr_11 := mr_row3 (X := [((r 0), .inr (0, mf_M r (nI n) nw pb (nI q9))), ((r 1), .inr (1, [.ref (r 2), .ref (r 3)])), ((r 2), .inl (cI, 8, .inl fm)), ((r 3), .inl (cI, 8, .inl fi)), ((r 4), .inl (cR, 80, .inr (.inr (.inr (.inr fr))))), ((r 5), .inl (cI, 80, .inl (upd ft9 (nI q9).toNatClampNeg (fc i)))), ((r 6), .inl (cI, 80, .inl fc)), ((r 7), .inl (cI, 8, .inl fg))]) hP m1_11 m2_11 m3_11 e1_11 e2_11 e3_11
            refine lv_aload_n hx hb d_M_listUnbeaten_70 rfl (lv_at hl 3 rfl) ?_
            refine lv_dup hx hb d_M_listUnbeaten_71 rfl ?_
            refine va_get (D := (dC, dI)) (ci := 0) (v := .int (nI q9)) (C := R_M) (T := T_M) (N := 9) hx hb hts ti_M hown hK hP 0 rfl rfl 6 (by decide) (hts (Cond.fieldLink "MeasureRows" 36 "MeasureRows" "listedCount" "I") mw_61) (fun _ h9 => h9) rfl d_M_listUnbeaten_72 ?_
            refine lv_iconst (v := 1) hx hb d_M_listUnbeaten_75 (by decide) ?_
            refine lv_iadd hx hb d_M_listUnbeaten_76 ?_
            refine mr_top (nI_1 q9) ?_
            refine va_put (D := (dC, dI)) (ci := 0) (v := .int (nI (q9 + 1))) (ty := .int) (C := R_M) (T := T_M) (N := 9) hx hb hts ti_M t_M to_M tn_M hown hK hP hD hS 0 rfl rfl 6 (by decide) (hts (Cond.fieldLink "MeasureRows" 36 "MeasureRows" "listedCount" "I") mw_61) (fun _ h9 => h9) rfl (by decide +kernel) rfl rfl (Nat.le_of_ble_eq_true rfl) d_M_listUnbeaten_77 (fun H locs hP hD hS => ?_)
            have hP : va_P (dC, dI) mr_cl (([((r 0), .inr (0, mf_M r (nI n) nw pb (nI (q9 + 1)))), ((r 1), .inr (1, [.ref (r 2), .ref (r 3)])), ((r 2), .inl (cI, 8, .inl fm)), ((r 3), .inl (cI, 8, .inl fi)), ((r 4), .inl (cR, 80, .inr (.inr (.inr (.inr fr))))), ((r 5), .inl (cI, 80, .inl (upd ft9 (nI q9).toNatClampNeg (fc i)))), ((r 6), .inl (cI, 80, .inl fc)), ((r 7), .inl (cI, 8, .inl fg))] : va_W) ++ va_pl L f) H := hP
            have hD : va_D A (([((r 0), .inr (0, mf_M r (nI n) nw pb (nI (q9 + 1)))), ((r 1), .inr (1, [.ref (r 2), .ref (r 3)])), ((r 2), .inl (cI, 8, .inl fm)), ((r 3), .inl (cI, 8, .inl fi)), ((r 4), .inl (cR, 80, .inr (.inr (.inr (.inr fr))))), ((r 5), .inl (cI, 80, .inl (upd ft9 (nI q9).toNatClampNeg (fc i)))), ((r 6), .inl (cI, 80, .inl fc)), ((r 7), .inl (cI, 8, .inl fg))] : va_W) ++ va_pl L f) := hD
            have hBH := hB.at hS hA0
            have hPr_11 := mr_row3 (X := [((r 0), .inr (0, mf_M r (nI n) nw pb (nI (q9 + 1)))), ((r 1), .inr (1, [.ref (r 2), .ref (r 3)])), ((r 2), .inl (cI, 8, .inl fm)), ((r 3), .inl (cI, 8, .inl fi)), ((r 4), .inl (cR, 80, .inr (.inr (.inr (.inr fr))))), ((r 5), .inl (cI, 80, .inl (upd ft9 (nI q9).toNatClampNeg (fc i)))), ((r 6), .inl (cI, 80, .inl fc)), ((r 7), .inl (cI, 8, .inl fg))]) hP m1_11 m2_11 m3_11 e1_11 e2_11 e3_11
            refine lv_iinc (v := nI (i + 1)) (lv' := [(3, .int (nI (i + 1))), (4, .ref a_11), (2, .int (nI j)), (0, .ref (r 0)), (1, .int (nI cc))]) hx hb d_M_listUnbeaten_80 hl (k := 1) rfl ((nI_succ i).symm) (by decide) rfl (fun ls hl => ?_)
            refine lv_goto (tgt := 15) hx hb d_M_listUnbeaten_83 (by decide) ?_
            exact ih2 _ _ _ ⟨(q9 + 1), (upd ft9 (nI q9).toNatClampNeg (fc i)), by rw [mr_c2_y hKi]; omega, hP, hD, hS, lv_sub hl [0, 2, 3, 4] rfl⟩
    · obtain ⟨q9, ft9, hexi, hP, hD, hS, hl⟩ := hI9
      have hBH := hB.at hS hA0
      refine lv_iload_n hx hb d_M_listUnbeaten_15 rfl (lv_at hl 0 rfl) ?_
      refine lv_iload_n hx hb d_M_listUnbeaten_16 rfl (lv_at hl 3 rfl) ?_
      refine lv_icmp_ge (tgt := 86) hx hb d_M_listUnbeaten_17 (by decide) (fun _ => ?_) (fun c_10 => absurd (Int32.le_refl _) c_10)
      refine lv_iinc (v := nI (j + 1)) (lv' := [(2, .int (nI (j + 1))), (3, .int (nI cc)), (0, .ref (r 0)), (1, .int (nI cc))]) hx hb d_M_listUnbeaten_86 hl (k := 1) rfl ((nI_succ j).symm) (by decide) rfl (fun ls hl => ?_)
      refine lv_goto (tgt := 7) hx hb d_M_listUnbeaten_89 (by decide) ?_
      exact ih _ _ _ ⟨q9, ft9, by rw [mr_c_next]; exact hexi, hP, hD, hS, lv_sub hl [0, 2, 3] rfl⟩
  · obtain ⟨q8, ft8, hexj, hP, hD, hS, hl⟩ := hI9
    have hBH := hB.at hS hA0
    refine lv_iload_n hx hb d_M_listUnbeaten_7 rfl (lv_at hl 0 rfl) ?_
    refine lv_bipush (v := 8) hx hb d_M_listUnbeaten_8 (by decide) ?_
    refine lv_icmp_ge (tgt := 92) hx hb d_M_listUnbeaten_10 (by decide) (fun _ => ?_) (fun c_11 => absurd c_11 (by decide))
    have hP9 := hP
    have hD9 := hD
    exact W.vret hx hb hr (fun t ht hW => ⟨⟨(q8, ft8), rfl, Nat.le_trans hexj (Nat.le_trans (Nat.le_trans (Nat.le_add_right _ _) (mr_c_le _ _ _)) hc), by rw [ht]; exact hP9, va_K.moved hW.alike hK, hD9⟩, hS.F ht⟩) hS.2.2 d_M_listUnbeaten_92
