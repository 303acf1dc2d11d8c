/-- whether row i is of c, l, d as of 'on' -/
def mv_gP (fkn fco fla ffi fe fa fk fi cls : Nat → Int32) (i : Nat) (c l d on : Int32) : Int32 := if on < (fkn i) then 0 else if (mv_M_isUnder c (fco i)) = 0 then 0 else if (mv_M_isOfLand fi (fla i) (cls i) l) = 0 then 0 else mv_D_lasts ffi fe fa fk i d on
theorem mr_gz {P : Nat → Int32} {j : Nat} {ft : Nat → Int32} (h : ∀ m, m < j → ¬ P m = 0 → ft (mr_cnt P m) = nI (m + 1)) (hz : P j = 0) : ∀ m, m < j + 1 → ¬ P m = 0 → ft (mr_cnt P m) = nI (m + 1) := fun m hm hp => by
  by_cases e : m = j
  · subst e; exact absurd hz hp
  · exact h m (by omega) hp
theorem mr_cnt_mono (P : Nat → Int32) {m : Nat} : ∀ k, mr_cnt P m ≤ mr_cnt P (m + k) := by
  intro k
  induction k with
  | zero => exact Nat.le_refl _
  | succ k ih => exact Nat.le_trans ih (Nat.le_add_right _ _)
theorem mr_cnt_lt {P : Nat → Int32} {m j : Nat} (hm : m < j) (hp : ¬ P m = 0) : mr_cnt P m < mr_cnt P j := by
  have h := mr_cnt_mono P (m := m + 1) (j - (m + 1))
  rw [show m + 1 + (j - (m + 1)) = j by omega, mr_cnt_y hp] at h
  omega
theorem mr_gy {P : Nat → Int32} {j q : Nat} {ft : Nat → Int32} (hq : q = mr_cnt P j) (hq8 : q < 2147483648) (h : ∀ m, m < j → ¬ P m = 0 → ft (mr_cnt P m) = nI (m + 1)) : ∀ m, m < j + 1 → ¬ P m = 0 → upd ft (nI q).toNatClampNeg (nI (j + 1)) (mr_cnt P m) = nI (m + 1) := fun m hm hp => by
  rw [nI_clamp hq8]
  by_cases e : m = j
  · subst e
    rw [← hq]; simp [upd]
  · have := mr_cnt_lt (show m < j by omega) hp
    have hne : mr_cnt P m ≠ q := by omega
    have e2 : upd ft q (nI (j + 1)) (mr_cnt P m) = ft (mr_cnt P m) := by simp [upd, hne]
    rw [e2]
    exact h m (by omega) hp

set_option maxHeartbeats 4000000 in
set_option maxRecDepth 100000 in
theorem mc_M_gather5X (l : Launch) (s0 : State) (dC : Nat → ClassId) (dI : Nat → Nat → Nat) (cI cR cL cZ : ClassId) (r : Nat → Nat) (n : Nat) (nw pb lc : Int32) (fm fi : Nat → Int32) (fr : Nat → Option Nat) (fl fc fg : Nat → Int32) (L : List Nat) (f : Nat → va_E) (fco fla ffi fki fra fkn cls cpa fe fa fk : Nat → Int32) (sz : Nat) (a1 : Int32) (a2 : Int32) (a3 : Int32) (a4 : Int32) (hX : mr_RX cI n L f fr fco fla ffi fki fra fkn cls cpa fe fa fk) (hN : mr_NX n nw fco fki fra fkn fe fk) : Met l y_M_gather [Cond.code y_M_gather b_M_gather 9 (some .int)] ({ frames := 4, cells := 0, slots := 0, locals := 85 }) (mr_PC s0 (dC, dI) [(cI, .int), (cR, .object "MeasureRows$Row"), (cL, .long), (cZ, .boolean)] [.ref (r 0), .ref (r 5), .int a1, .int a2, .int a3, .int a4] (([((r 0), .inr (0, mf_M r (nI n) nw pb lc)), ((r 1), .inr (1, [.ref (r 2), .ref (r 3)])), ((r 2), .inl (cI, 8, .inl fm)), ((r 3), .inl (cI, 8, .inl fi)), ((r 4), .inl (cR, 80, .inr (.inr (.inr (.inr fr))))), ((r 5), .inl (cI, 80, .inl fl)), ((r 6), .inl (cI, 80, .inl fc)), ((r 7), .inl (cI, 8, .inl fg))] : va_W) ++ va_pl L f) sz) (va_Qi (fun rr u => rr = nI (mr_cnt (fun j => mv_gP fkn fco fla ffi fe fa fk fi cls (j + 1) a1 a2 a3 a4) n) ∧ ∀ m, m < n → ¬ (fun j => mv_gP fkn fco fla ffi fe fa fk fi cls (j + 1) a1 a2 a3 a4) m = 0 → u (mr_cnt (fun j => mv_gP fkn fco fla ffi fe fa fk fi cls (j + 1) a1 a2 a3 a4) m) = nI (m + 1)) (fun (u : Nat → Int32) t => mr_W (dC, dI) [(cI, .int), (cR, .object "MeasureRows$Row"), (cL, .long), (cZ, .boolean)] (va_A (([((r 0), .inr (0, mf_M r (nI n) nw pb lc)), ((r 1), .inr (1, [.ref (r 2), .ref (r 3)])), ((r 2), .inl (cI, 8, .inl fm)), ((r 3), .inl (cI, 8, .inl fi)), ((r 4), .inl (cR, 80, .inr (.inr (.inr (.inr fr))))), ((r 5), .inl (cI, 80, .inl fl)), ((r 6), .inl (cI, 80, .inl fc)), ((r 7), .inl (cI, 8, .inl fg))] : va_W) ++ va_pl L f) sz) (([((r 0), .inr (0, mf_M r (nI n) nw pb lc)), ((r 1), .inr (1, [.ref (r 2), .ref (r 3)])), ((r 2), .inl (cI, 8, .inl fm)), ((r 3), .inl (cI, 8, .inl fi)), ((r 4), .inl (cR, 80, .inr (.inr (.inr (.inr fr))))), ((r 5), .inl (cI, 80, .inl u)), ((r 6), .inl (cI, 80, .inl fc)), ((r 7), .inl (cI, 8, .inl fg))] : va_W) ++ va_pl L f) t) (va_A (([((r 0), .inr (0, mf_M r (nI n) nw pb lc)), ((r 1), .inr (1, [.ref (r 2), .ref (r 3)])), ((r 2), .inl (cI, 8, .inl fm)), ((r 3), .inl (cI, 8, .inl fi)), ((r 4), .inl (cR, 80, .inr (.inr (.inr (.inr fr))))), ((r 5), .inl (cI, 80, .inl fl)), ((r 6), .inl (cI, 80, .inl fc)), ((r 7), .inl (cI, 8, .inl fg))] : va_W) ++ va_pl L f) sz)) 0 0 (va_A (([((r 0), .inr (0, mf_M r (nI n) nw pb lc)), ((r 1), .inr (1, [.ref (r 2), .ref (r 3)])), ((r 2), .inl (cI, 8, .inl fm)), ((r 3), .inl (cI, 8, .inl fi)), ((r 4), .inl (cR, 80, .inr (.inr (.inr (.inr fr))))), ((r 5), .inl (cI, 80, .inl fl)), ((r 6), .inl (cI, 80, .inl fc)), ((r 7), .inl (cI, 8, .inl fg))] : va_W) ++ va_pl L f) sz) := by
  refine Met.ofW (cc := b_M_gather) (maxL := 9) (ret := (some .int)) (by decide) rfl ?_
  intro p e s m args below meth c s₁ B hml hv
  obtain ⟨rfl, hsz, hB, hK, hP, hD0⟩ := hv
  subst hsz
  have hA0 := mr_A hB hD0
  have hD := hD0.self (sz := s.heap.size)
  generalize hAe : va_A (([((r 0), .inr (0, mf_M r (nI n) nw pb lc)), ((r 1), .inr (1, [.ref (r 2), .ref (r 3)])), ((r 2), .inl (cI, 8, .inl fm)), ((r 3), .inl (cI, 8, .inl fi)), ((r 4), .inl (cR, 80, .inr (.inr (.inr (.inr fr))))), ((r 5), .inl (cI, 80, .inl fl)), ((r 6), .inl (cI, 80, .inl fc)), ((r 7), .inl (cI, 8, .inl fg))] : va_W) ++ va_pl L f) s.heap.size = A at hD hA0 ⊢
  have hA : ∀ q : Nat, s.heap.size ≤ q → A q := fun q h => by rw [← hAe]; exact Or.inr h
  have hS : va_S A s.heap s.heap [] := va_S.rf
  have hP : va_P (dC, dI) mr_cl (([((r 0), .inr (0, mf_M r (nI n) nw pb lc)), ((r 1), .inr (1, [.ref (r 2), .ref (r 3)])), ((r 2), .inl (cI, 8, .inl fm)), ((r 3), .inl (cI, 8, .inl fi)), ((r 4), .inl (cR, 80, .inr (.inr (.inr (.inr fr))))), ((r 5), .inl (cI, 80, .inl fl)), ((r 6), .inl (cI, 80, .inl fc)), ((r 7), .inl (cI, 8, .inl fg))] : va_W) ++ va_pl L f) s.heap := hP
  have hBH := hB.at hS hA0
  have hx := B.exec
  have hb := B.bytes
  have hr := B.returns
  have hlocks := B.notSynchronized
  have hts : ∀ w ∈ lw_tbl, w.before [.ref (r 0), .ref (r 5), .int a1, .int a2, .int a3, .int a4].toArray s = true := hB.hts _
  have hown : s.vm.findClass "MeasureRows" = some m.cls := findClass_of_methodNamed B.named
  have hl := lv_entry ([.ref (r 0), .ref (r 5), .int a1, .int a2, .int a3, .int a4]) (n := 9) (Nat.le_of_ble_eq_true rfl)
  rw [lg_entry_eq]
  generalize (lg_sl ([.ref (r 0), .ref (r 5), .int a1, .int a2, .int a3, .int a4]) ++ List.replicate (9 - (lg_sl ([.ref (r 0), .ref (r 5), .int a1, .int a2, .int a3, .int a4])).length) Slot.unset).toArray = ls at hl ⊢
  have hl : lv_has ls 9 [(0, .ref (r 0)), (1, .ref (r 5)), (2, .int a1), (3, .int a2), (4, .int a3), (5, .int a4)] := hl
  refine lv_iconst (v := 0) hx hb d_M_gather_0 (by decide) ?_
  refine lv_istore (lv' := [(6, .int 0), (0, .ref (r 0)), (1, .ref (r 5)), (2, .int a1), (3, .int a2), (4, .int a3), (5, .int a4)]) hx hb d_M_gather_1 hl (by decide) rfl (fun ls hl => ?_)
  refine lv_iconst (v := 1) hx hb d_M_gather_3 (by decide) ?_
  refine lv_istore (lv' := [(7, .int 1), (6, .int 0), (0, .ref (r 0)), (1, .ref (r 5)), (2, .int a1), (3, .int a2), (4, .int a3), (5, .int a4)]) hx hb d_M_gather_4 hl (by decide) rfl (fun ls hl => ?_)
  refine mr_loop (N := n) (I := fun j H locs ls => ∃ q9 : Nat, ∃ ft9 : Nat → Int32, (q9 = mr_cnt (fun j => mv_gP fkn fco fla ffi fe fa fk fi cls (j + 1) a1 a2 a3 a4) j ∧ q9 ≤ j ∧ ∀ m, m < j → ¬ (fun j => mv_gP fkn fco fla ffi fe fa fk fi cls (j + 1) a1 a2 a3 a4) m = 0 → ft9 (mr_cnt (fun j => mv_gP fkn fco fla ffi fe fa fk fi cls (j + 1) a1 a2 a3 a4) m) = nI (m + 1)) ∧ va_P (dC, dI) mr_cl (([((r 0), .inr (0, mf_M r (nI n) nw pb lc)), ((r 1), .inr (1, [.ref (r 2), .ref (r 3)])), ((r 2), .inl (cI, 8, .inl fm)), ((r 3), .inl (cI, 8, .inl fi)), ((r 4), .inl (cR, 80, .inr (.inr (.inr (.inr fr))))), ((r 5), .inl (cI, 80, .inl ft9)), ((r 6), .inl (cI, 80, .inl fc)), ((r 7), .inl (cI, 8, .inl fg))] : va_W) ++ va_pl L f) H ∧ va_D A (([((r 0), .inr (0, mf_M r (nI n) nw pb lc)), ((r 1), .inr (1, [.ref (r 2), .ref (r 3)])), ((r 2), .inl (cI, 8, .inl fm)), ((r 3), .inl (cI, 8, .inl fi)), ((r 4), .inl (cR, 80, .inr (.inr (.inr (.inr fr))))), ((r 5), .inl (cI, 80, .inl ft9)), ((r 6), .inl (cI, 80, .inl fc)), ((r 7), .inl (cI, 8, .inl fg))] : va_W) ++ va_pl L f) ∧ va_S A s.heap H locs ∧ lv_has ls 9 [(7, .int (nI (j + 1))), (6, .int (nI q9)), (0, .ref (r 0)), (1, .ref (r 5)), (2, .int a1), (3, .int a2), (4, .int a3), (5, .int a4)]) (fun j H locs ls hj hI9 ih => ?_) (fun H locs ls hI9 => ?_) 0 _ _ _ (Nat.zero_le _) ⟨0, fl, ⟨rfl, Nat.le_refl 0, fun m hm => absurd hm (Nat.not_lt_zero m)⟩, hP, hD, hS, (lv_sub hl [0, 1, 2, 3, 4, 5, 6, 7] rfl)⟩
  · obtain ⟨q9, ft9, hexj, hP, hD, hS, hl⟩ := hI9
    have hBH := hB.at hS hA0
    refine lv_iload hx hb d_M_gather_6 (lv_at hl 0 rfl) ?_
    refine lv_aload_n hx hb d_M_gather_8 rfl (lv_at hl 2 rfl) ?_
    refine va_get (D := (dC, dI)) (ci := 0) (v := .int (nI n)) (C := R_M) (T := T_M) (N := 9) hx hb hts ti_M hown hK hP 0 rfl rfl 2 (by decide) (hts (Cond.fieldLink "MeasureRows" 22 "MeasureRows" "rowCount" "I") mw_57) (fun _ h9 => h9) rfl d_M_gather_9 ?_
    refine lv_icmp_gt (tgt := 87) hx hb d_M_gather_12 (by decide) (fun c_1 => absurd c_1 (nI_nlt (by omega) (by have := hX.1; omega))) (fun _ => ?_)
    refine lv_aload_n hx hb d_M_gather_15 rfl (lv_at hl 2 rfl) ?_
    refine lv_iload hx hb d_M_gather_16 (lv_at hl 0 rfl) ?_
    refine va_csq (va_Run.run (va_runV (As := [.int (nI (j + 1))]) (rest := []) (C := R_M) ⟨hx, hb, hml, hown, hts⟩ (mc_M_find l s0 dC dI cI cR cL cZ r n nw pb lc fr (nI (j + 1)) hX.1) ⟨(mr_cB 1 (hts (Cond.code y_M_find b_M_find 2 (some (.object "MeasureRows$Row"))) mw_117) (hts (Cond.initialized y_M_find.cls) mw_118) (hts (Cond.methodLink "MeasureRows" 111 y_M_find) mw_119) rfl rfl (by decide +kernel) ⟨Nat.le_of_ble_eq_true rfl, Nat.le_of_ble_eq_true rfl⟩), (hts (Cond.instanceMethod y_M_find) mw_120), (hts (Cond.selects "MeasureRows" y_M_find y_M_find) mw_121)⟩ (mr_preV hBH hK (hP.sub (ws' := [((r 0), .inr (0, mf_M r (nI n) nw pb lc)), ((r 4), .inl (cR, 80, .inr (.inr (.inr (.inr fr)))))]) [0, 4] rfl) (ci := 0) (q0 := 0) rfl rfl) rfl rfl hl.1 rfl (lv_room (Nat.le_of_ble_eq_true rfl)) d_M_gather_18 ⟨Nat.le_of_ble_eq_true rfl, Nat.le_of_ble_eq_true rfl⟩)) (fun r_2 h_3 => ?_)
    subst h_3
    obtain ⟨a_18, ql_18, qk_18, k_18, t_18, ld_18, kd_18, hf_18, hfi_18, m1_18, m2_18, m3_18, e1_18, e2_18, e3_18, hke_18, hte_18, hk_18, ht_18, ho_18, hne_18, hld_18⟩ := mr_fy hX hN (i := (j + 1)) (by omega) (by omega)
    refine mr_topv (show va_rf (mv_M_find n fr (nI (j + 1))) = .ref a_18 by rw [hf_18]; rfl) ?_
    have hPr_18 := mr_row3 (X := [((r 0), .inr (0, mf_M r (nI n) nw pb lc)), ((r 1), .inr (1, [.ref (r 2), .ref (r 3)])), ((r 2), .inl (cI, 8, .inl fm)), ((r 3), .inl (cI, 8, .inl fi)), ((r 4), .inl (cR, 80, .inr (.inr (.inr (.inr fr))))), ((r 5), .inl (cI, 80, .inl ft9)), ((r 6), .inl (cI, 80, .inl fc)), ((r 7), .inl (cI, 8, .inl fg))]) hP m1_18 m2_18 m3_18 e1_18 e2_18 e3_18
    refine lv_astore (lv' := [(8, .ref a_18), (7, .int (nI (j + 1))), (6, .int (nI q9)), (0, .ref (r 0)), (1, .ref (r 5)), (2, .int a1), (3, .int a2), (4, .int a3), (5, .int a4)]) hx hb d_M_gather_21 hl (by decide) rfl (fun ls hl => ?_)
    refine lv_aload hx hb d_M_gather_23 (lv_at hl 0 rfl) ?_
    refine lv_ifnull hx hb d_M_gather_25 ?_
    refine lv_aload hx hb d_M_gather_28 (lv_at hl 0 rfl) ?_
    refine va_get (D := (dC, dI)) (ci := 2) (v := .int (fkn (j + 1))) (C := R_R) (T := T_R) (N := 11) hx hb hts ti_R hown hK hPr_18 0 rfl rfl 5 (by decide) (hts (Cond.fieldLink "MeasureRows" 170 "MeasureRows$Row" "known" "I") mw_153) (fun _ h9 => h9) rfl d_M_gather_30 ?_
    refine lv_iload hx hb d_M_gather_33 (lv_at hl 8 rfl) ?_
    refine lv_icmp_gt (tgt := 81) hx hb d_M_gather_35 (by decide) (fun c_4 => ?_) (fun c_4 => ?_)
    · refine lv_iinc (v := nI ((j + 1) + 1)) (lv' := [(7, .int (nI ((j + 1) + 1))), (8, .ref a_18), (6, .int (nI q9)), (0, .ref (r 0)), (1, .ref (r 5)), (2, .int a1), (3, .int a2), (4, .int a3), (5, .int a4)]) hx hb d_M_gather_81 hl (k := 1) rfl ((nI_succ (j + 1)).symm) (by decide) rfl (fun ls hl => ?_)
      refine lv_goto (tgt := 6) hx hb d_M_gather_84 (by decide) ?_
      exact ih _ _ _ ⟨q9, ft9, ⟨by rw [mr_cnt_n (P := (fun j => mv_gP fkn fco fla ffi fe fa fk fi cls (j + 1) a1 a2 a3 a4)) (j := j) (by show mv_gP _ _ _ _ _ _ _ _ _ _ _ _ _ _ = 0; unfold mv_gP; rw [if_pos c_4])]; exact hexj.1, by have := hexj.2.1; omega, mr_gz hexj.2.2 (by show mv_gP _ _ _ _ _ _ _ _ _ _ _ _ _ _ = 0; unfold mv_gP; rw [if_pos c_4])⟩, hP, hD, hS, lv_sub hl [0, 2, 3, 4, 5, 6, 7, 8] rfl⟩
    · refine lv_iload_n hx hb d_M_gather_38 rfl (lv_at hl 5 rfl) ?_
      refine lv_aload hx hb d_M_gather_39 (lv_at hl 0 rfl) ?_
      refine va_get (D := (dC, dI)) (ci := 2) (v := .int (fco (j + 1))) (C := R_R) (T := T_R) (N := 11) hx hb hts ti_R hown hK hPr_18 0 rfl rfl 0 (by decide) (hts (Cond.fieldLink "MeasureRows" 155 "MeasureRows$Row" "code" "I") mw_147) (fun _ h9 => h9) rfl d_M_gather_41 ?_
      refine vp_callSi (va_Run.run (va_runS (As := [.int a1, .int (fco (j + 1))]) (rest := []) ⟨hx, hb, hml, hown, hts⟩ (mc_M_isUnder l s0 a1 (fco (j + 1))) ⟨(mr_cB 2 (hts (Cond.code y_M_isUnder b_M_isUnder 2 (some .boolean)) mw_200) (hts (Cond.initialized y_M_isUnder.cls) mw_201) (hts (Cond.methodLink "MeasureRows" 197 y_M_isUnder) mw_202) rfl rfl (by decide +kernel) ⟨Nat.le_of_ble_eq_true rfl, Nat.le_of_ble_eq_true rfl⟩), (hts (Cond.static y_M_isUnder) mw_203)⟩ (mr_pre0 hBH) rfl rfl hl.1 rfl (lv_room (Nat.le_of_ble_eq_true rfl)) d_M_gather_44 ⟨Nat.le_of_ble_eq_true rfl, Nat.le_of_ble_eq_true rfl⟩)) (fun r_5 h_6 => ?_)
      subst h_6
      refine lv_if_eq (tgt := 81) hx hb d_M_gather_47 (by decide) (fun c_7 => ?_) (fun c_7 => ?_)
      · refine lv_iinc (v := nI ((j + 1) + 1)) (lv' := [(7, .int (nI ((j + 1) + 1))), (8, .ref a_18), (6, .int (nI q9)), (0, .ref (r 0)), (1, .ref (r 5)), (2, .int a1), (3, .int a2), (4, .int a3), (5, .int a4)]) hx hb d_M_gather_81 hl (k := 1) rfl ((nI_succ (j + 1)).symm) (by decide) rfl (fun ls hl => ?_)
        refine lv_goto (tgt := 6) hx hb d_M_gather_84 (by decide) ?_
        exact ih _ _ _ ⟨q9, ft9, ⟨by rw [mr_cnt_n (P := (fun j => mv_gP fkn fco fla ffi fe fa fk fi cls (j + 1) a1 a2 a3 a4)) (j := j) (by show mv_gP _ _ _ _ _ _ _ _ _ _ _ _ _ _ = 0; unfold mv_gP; rw [if_neg c_4, if_pos c_7])]; exact hexj.1, by have := hexj.2.1; omega, mr_gz hexj.2.2 (by show mv_gP _ _ _ _ _ _ _ _ _ _ _ _ _ _ = 0; unfold mv_gP; rw [if_neg c_4, if_pos c_7])⟩, hP, hD, hS, lv_sub hl [0, 2, 3, 4, 5, 6, 7, 8] rfl⟩
      · refine lv_aload_n hx hb d_M_gather_50 rfl (lv_at hl 3 rfl) ?_
        refine lv_aload hx hb d_M_gather_51 (lv_at hl 0 rfl) ?_
        refine lv_iload_n hx hb d_M_gather_53 rfl (lv_at hl 6 rfl) ?_
        refine vp_callSi (va_Run.run (va_runV (As := [.ref a_18, .int a2]) (rest := []) (C := R_M) ⟨hx, hb, hml, hown, hts⟩ (mc_M_isOfLandX l s0 dC dI cI cR cL cZ r n nw pb lc fi a_18 ql_18 qk_18 (fco (j + 1)) (fla (j + 1)) (ffi (j + 1)) (fra (j + 1)) (fkn (j + 1)) (cls (j + 1)) (cpa (j + 1)) (nI t_18) k_18 a2) ⟨(mr_cB 2 (hts (Cond.code y_M_isOfLand b_M_isOfLand 3 (some .boolean)) mw_204) (hts (Cond.initialized y_M_isOfLand.cls) mw_205) (hts (Cond.methodLink "MeasureRows" 200 y_M_isOfLand) mw_206) rfl rfl (by decide +kernel) ⟨Nat.le_of_ble_eq_true rfl, Nat.le_of_ble_eq_true rfl⟩), (hts (Cond.instanceMethod y_M_isOfLand) mw_207), (hts (Cond.selects "MeasureRows" y_M_isOfLand y_M_isOfLand) mw_208)⟩ (mr_preV hBH hK ((hP.sub (ws' := [((r 0), .inr (0, mf_M r (nI n) nw pb lc)), ((r 1), .inr (1, [.ref (r 2), .ref (r 3)])), ((r 3), .inl (cI, 8, .inl fi))]) [0, 1, 3] rfl).app (hPr_18.sub (ws' := [(a_18, .inr (2, [.int (fco (j + 1)), .int (fla (j + 1)), .int (ffi (j + 1)), .int (nI k_18), .int (fra (j + 1)), .int (fkn (j + 1)), .int (cls (j + 1)), .int (cpa (j + 1)), .int (nI t_18), .ref ql_18, .ref qk_18]))]) [0] rfl)) (ci := 0) (q0 := 0) rfl rfl) rfl rfl hl.1 rfl (lv_room (Nat.le_of_ble_eq_true rfl)) d_M_gather_54 ⟨Nat.le_of_ble_eq_true rfl, Nat.le_of_ble_eq_true rfl⟩)) (fun r_8 h_9 => ?_)
        subst h_9
        refine lv_if_eq (tgt := 81) hx hb d_M_gather_57 (by decide) (fun c_10 => ?_) (fun c_10 => ?_)
        · refine lv_iinc (v := nI ((j + 1) + 1)) (lv' := [(7, .int (nI ((j + 1) + 1))), (8, .ref a_18), (6, .int (nI q9)), (0, .ref (r 0)), (1, .ref (r 5)), (2, .int a1), (3, .int a2), (4, .int a3), (5, .int a4)]) hx hb d_M_gather_81 hl (k := 1) rfl ((nI_succ (j + 1)).symm) (by decide) rfl (fun ls hl => ?_)
          refine lv_goto (tgt := 6) hx hb d_M_gather_84 (by decide) ?_
          exact ih _ _ _ ⟨q9, ft9, ⟨by rw [mr_cnt_n (P := (fun j => mv_gP fkn fco fla ffi fe fa fk fi cls (j + 1) a1 a2 a3 a4)) (j := j) (by show mv_gP _ _ _ _ _ _ _ _ _ _ _ _ _ _ = 0; unfold mv_gP; rw [if_neg c_4, if_neg c_7, if_pos c_10])]; exact hexj.1, by have := hexj.2.1; omega, mr_gz hexj.2.2 (by show mv_gP _ _ _ _ _ _ _ _ _ _ _ _ _ _ = 0; unfold mv_gP; rw [if_neg c_4, if_neg c_7, if_pos c_10])⟩, hP, hD, hS, lv_sub hl [0, 2, 3, 4, 5, 6, 7, 8] rfl⟩
        · refine lv_aload hx hb d_M_gather_60 (lv_at hl 0 rfl) ?_
          refine lv_iload hx hb d_M_gather_62 (lv_at hl 7 rfl) ?_
          refine lv_iload hx hb d_M_gather_64 (lv_at hl 8 rfl) ?_
          refine vp_callSi (va_Run.run (va_runV (As := [.int a3, .int a4]) (rest := []) (C := R_R) ⟨hx, hb, hml, hown, hts⟩ (mc_R_lastsOn l s0 dC dI cI cR cL cZ a_18 ql_18 qk_18 (fco (j + 1)) (fla (j + 1)) (ffi (j + 1)) (nI k_18) (fra (j + 1)) (fkn (j + 1)) (cls (j + 1)) (cpa (j + 1)) t_18 ld_18 kd_18 a3 a4 ht_18) ⟨(mr_cB 2 (hts (Cond.code y_R_lastsOn b_R_lastsOn 3 (some .boolean)) mw_141) (hts (Cond.initialized y_R_lastsOn.cls) mw_142) (hts (Cond.methodLink "MeasureRows" 152 y_R_lastsOn) mw_143) rfl rfl (by decide +kernel) ⟨Nat.le_of_ble_eq_true rfl, Nat.le_of_ble_eq_true rfl⟩), (hts (Cond.instanceMethod y_R_lastsOn) mw_144), (hts (Cond.selects "MeasureRows$Row" y_R_lastsOn y_R_lastsOn) mw_145)⟩ (mr_preV hBH hK (hPr_18.sub (ws' := [(a_18, .inr (2, [.int (fco (j + 1)), .int (fla (j + 1)), .int (ffi (j + 1)), .int (nI k_18), .int (fra (j + 1)), .int (fkn (j + 1)), .int (cls (j + 1)), .int (cpa (j + 1)), .int (nI t_18), .ref ql_18, .ref qk_18])), (ql_18, .inl (cI, 8, .inl ld_18)), (qk_18, .inl (cI, 8, .inl kd_18))]) [0, 1, 2] rfl) (ci := 2) (q0 := 0) rfl rfl) rfl rfl hl.1 rfl (lv_room (Nat.le_of_ble_eq_true rfl)) d_M_gather_66 ⟨Nat.le_of_ble_eq_true rfl, Nat.le_of_ble_eq_true rfl⟩)) (fun r_11 h_12 => ?_)
          subst h_12
          refine mr_top (mr_lasts hN (by omega) (by omega) hte_18 ht_18 ho_18 hld_18 a3 a4 (by rw [← (hN.2 (j + 1) (by omega) (by omega)).2.2.2.2.2]; exact c_4)) ?_
          refine lv_if_eq (tgt := 81) hx hb d_M_gather_69 (by decide) (fun c_13 => ?_) (fun c_13 => ?_)
          · refine lv_iinc (v := nI ((j + 1) + 1)) (lv' := [(7, .int (nI ((j + 1) + 1))), (8, .ref a_18), (6, .int (nI q9)), (0, .ref (r 0)), (1, .ref (r 5)), (2, .int a1), (3, .int a2), (4, .int a3), (5, .int a4)]) hx hb d_M_gather_81 hl (k := 1) rfl ((nI_succ (j + 1)).symm) (by decide) rfl (fun ls hl => ?_)
            refine lv_goto (tgt := 6) hx hb d_M_gather_84 (by decide) ?_
            exact ih _ _ _ ⟨q9, ft9, ⟨by rw [mr_cnt_n (P := (fun j => mv_gP fkn fco fla ffi fe fa fk fi cls (j + 1) a1 a2 a3 a4)) (j := j) (by show mv_gP _ _ _ _ _ _ _ _ _ _ _ _ _ _ = 0; unfold mv_gP; rw [if_neg c_4, if_neg c_7, if_neg c_10]; exact c_13)]; exact hexj.1, by have := hexj.2.1; omega, mr_gz hexj.2.2 (by show mv_gP _ _ _ _ _ _ _ _ _ _ _ _ _ _ = 0; unfold mv_gP; rw [if_neg c_4, if_neg c_7, if_neg c_10]; exact c_13)⟩, hP, hD, hS, lv_sub hl [0, 2, 3, 4, 5, 6, 7, 8] rfl⟩
          · refine lv_aload_n hx hb d_M_gather_72 rfl (lv_at hl 4 rfl) ?_
            refine lv_iload hx hb d_M_gather_73 (lv_at hl 2 rfl) ?_
            refine lv_iload hx hb d_M_gather_75 (lv_at hl 1 rfl) ?_
            refine va_iast (D := (dC, dI)) hx hb hK hP hD hS 5 0 rfl rfl (i := nI q9) (nI_in (by have := hexj.2.1; have := hX.1; omega) (by decide)) d_M_gather_77 (fun H locs hP hD hS => ?_)
            have hP : va_P (dC, dI) mr_cl (([((r 0), .inr (0, mf_M r (nI n) nw pb lc)), ((r 1), .inr (1, [.ref (r 2), .ref (r 3)])), ((r 2), .inl (cI, 8, .inl fm)), ((r 3), .inl (cI, 8, .inl fi)), ((r 4), .inl (cR, 80, .inr (.inr (.inr (.inr fr))))), ((r 5), .inl (cI, 80, .inl (upd ft9 (nI q9).toNatClampNeg (nI (j + 1))))), ((r 6), .inl (cI, 80, .inl fc)), ((r 7), .inl (cI, 8, .inl fg))] : va_W) ++ va_pl L f) H := hP
            have hD : va_D A (([((r 0), .inr (0, mf_M r (nI n) nw pb lc)), ((r 1), .inr (1, [.ref (r 2), .ref (r 3)])), ((r 2), .inl (cI, 8, .inl fm)), ((r 3), .inl (cI, 8, .inl fi)), ((r 4), .inl (cR, 80, .inr (.inr (.inr (.inr fr))))), ((r 5), .inl (cI, 80, .inl (upd ft9 (nI q9).toNatClampNeg (nI (j + 1))))), ((r 6), .inl (cI, 80, .inl fc)), ((r 7), .inl (cI, 8, .inl fg))] : va_W) ++ va_pl L f) := hD
            have hBH := hB.at hS hA0
            have hPr_18 := mr_row3 (X := [((r 0), .inr (0, mf_M r (nI n) nw pb lc)), ((r 1), .inr (1, [.ref (r 2), .ref (r 3)])), ((r 2), .inl (cI, 8, .inl fm)), ((r 3), .inl (cI, 8, .inl fi)), ((r 4), .inl (cR, 80, .inr (.inr (.inr (.inr fr))))), ((r 5), .inl (cI, 80, .inl (upd ft9 (nI q9).toNatClampNeg (nI (j + 1))))), ((r 6), .inl (cI, 80, .inl fc)), ((r 7), .inl (cI, 8, .inl fg))]) hP m1_18 m2_18 m3_18 e1_18 e2_18 e3_18
            refine lv_iinc (v := nI (q9 + 1)) (lv' := [(6, .int (nI (q9 + 1))), (8, .ref a_18), (7, .int (nI (j + 1))), (0, .ref (r 0)), (1, .ref (r 5)), (2, .int a1), (3, .int a2), (4, .int a3), (5, .int a4)]) hx hb d_M_gather_78 hl (k := 2) rfl ((nI_succ q9).symm) (by decide) rfl (fun ls hl => ?_)
            refine lv_iinc (v := nI ((j + 1) + 1)) (lv' := [(7, .int (nI ((j + 1) + 1))), (6, .int (nI (q9 + 1))), (8, .ref a_18), (0, .ref (r 0)), (1, .ref (r 5)), (2, .int a1), (3, .int a2), (4, .int a3), (5, .int a4)]) hx hb d_M_gather_81 hl (k := 2) rfl ((nI_succ (j + 1)).symm) (by decide) rfl (fun ls hl => ?_)
            refine lv_goto (tgt := 6) hx hb d_M_gather_84 (by decide) ?_
            exact ih _ _ _ ⟨(q9 + 1), (upd ft9 (nI q9).toNatClampNeg (nI (j + 1))), ⟨by rw [mr_cnt_y (P := (fun j => mv_gP fkn fco fla ffi fe fa fk fi cls (j + 1) a1 a2 a3 a4)) (j := j) (by show ¬ mv_gP _ _ _ _ _ _ _ _ _ _ _ _ _ _ = 0; unfold mv_gP; rw [if_neg c_4, if_neg c_7, if_neg c_10]; exact c_13), hexj.1], by have := hexj.2.1; omega, mr_gy hexj.1 (by have := hexj.2.1; have := hX.1; omega) hexj.2.2⟩, hP, hD, hS, lv_sub hl [0, 1, 3, 4, 5, 6, 7, 8] rfl⟩
  · obtain ⟨q9, ft9, hexj, hP, hD, hS, hl⟩ := hI9
    have hBH := hB.at hS hA0
    refine lv_iload hx hb d_M_gather_6 (lv_at hl 0 rfl) ?_
    refine lv_aload_n hx hb d_M_gather_8 rfl (lv_at hl 2 rfl) ?_
    refine va_get (D := (dC, dI)) (ci := 0) (v := .int (nI n)) (C := R_M) (T := T_M) (N := 9) hx hb hts ti_M hown hK hP 0 rfl rfl 2 (by decide) (hts (Cond.fieldLink "MeasureRows" 22 "MeasureRows" "rowCount" "I") mw_57) (fun _ h9 => h9) rfl d_M_gather_9 ?_
    refine lv_icmp_gt (tgt := 87) hx hb d_M_gather_12 (by decide) (fun _ => ?_) (fun c_14 => absurd (nI_lt (by omega) (by have := hX.1; omega)) c_14)
    refine lv_iload hx hb d_M_gather_87 (lv_at hl 1 rfl) ?_
    have hP9 := hP
    have hD9 := hD
    exact W.iret (v := nI q9) hx hb hr (fun t ht hW => ⟨⟨_, ft9, rfl, ⟨by rw [← hexj.1], hexj.2.2⟩, by rw [ht]; exact hP9, va_K.moved hW.alike hK, hD9⟩, hS.F ht⟩) hS.2.2 d_M_gather_89
set_option maxHeartbeats 4000000 in
set_option maxRecDepth 100000 in
theorem mc_M_gather6X (l : Launch) (s0 : State) (dC : Nat → ClassId) (dI : Nat → Nat → Nat) (cI cR cL cZ : ClassId) (r : Nat → Nat) (n : Nat) (nw pb lc : Int32) (fm fi : Nat → Int32) (fr : Nat → Option Nat) (fl fc fg : Nat → Int32) (L : List Nat) (f : Nat → va_E) (fco fla ffi fki fra fkn cls cpa fe fa fk : Nat → Int32) (sz : Nat) (a1 : Int32) (a2 : Int32) (a3 : Int32) (a4 : Int32) (hX : mr_RX cI n L f fr fco fla ffi fki fra fkn cls cpa fe fa fk) (hN : mr_NX n nw fco fki fra fkn fe fk) : Met l y_M_gather [Cond.code y_M_gather b_M_gather 9 (some .int)] ({ frames := 4, cells := 0, slots := 0, locals := 85 }) (mr_PC s0 (dC, dI) [(cI, .int), (cR, .object "MeasureRows$Row"), (cL, .long), (cZ, .boolean)] [.ref (r 0), .ref (r 6), .int a1, .int a2, .int a3, .int a4] (([((r 0), .inr (0, mf_M r (nI n) nw pb lc)), ((r 1), .inr (1, [.ref (r 2), .ref (r 3)])), ((r 2), .inl (cI, 8, .inl fm)), ((r 3), .inl (cI, 8, .inl fi)), ((r 4), .inl (cR, 80, .inr (.inr (.inr (.inr fr))))), ((r 5), .inl (cI, 80, .inl fl)), ((r 6), .inl (cI, 80, .inl fc)), ((r 7), .inl (cI, 8, .inl fg))] : va_W) ++ va_pl L f) sz) (va_Qi (fun rr u => rr = nI (mr_cnt (fun j => mv_gP fkn fco fla ffi fe fa fk fi cls (j + 1) a1 a2 a3 a4) n) ∧ ∀ m, m < n → ¬ (fun j => mv_gP fkn fco fla ffi fe fa fk fi cls (j + 1) a1 a2 a3 a4) m = 0 → u (mr_cnt (fun j => mv_gP fkn fco fla ffi fe fa fk fi cls (j + 1) a1 a2 a3 a4) m) = nI (m + 1)) (fun (u : Nat → Int32) t => mr_W (dC, dI) [(cI, .int), (cR, .object "MeasureRows$Row"), (cL, .long), (cZ, .boolean)] (va_A (([((r 0), .inr (0, mf_M r (nI n) nw pb lc)), ((r 1), .inr (1, [.ref (r 2), .ref (r 3)])), ((r 2), .inl (cI, 8, .inl fm)), ((r 3), .inl (cI, 8, .inl fi)), ((r 4), .inl (cR, 80, .inr (.inr (.inr (.inr fr))))), ((r 5), .inl (cI, 80, .inl fl)), ((r 6), .inl (cI, 80, .inl fc)), ((r 7), .inl (cI, 8, .inl fg))] : va_W) ++ va_pl L f) sz) (([((r 0), .inr (0, mf_M r (nI n) nw pb lc)), ((r 1), .inr (1, [.ref (r 2), .ref (r 3)])), ((r 2), .inl (cI, 8, .inl fm)), ((r 3), .inl (cI, 8, .inl fi)), ((r 4), .inl (cR, 80, .inr (.inr (.inr (.inr fr))))), ((r 5), .inl (cI, 80, .inl fl)), ((r 6), .inl (cI, 80, .inl u)), ((r 7), .inl (cI, 8, .inl fg))] : va_W) ++ va_pl L f) t) (va_A (([((r 0), .inr (0, mf_M r (nI n) nw pb lc)), ((r 1), .inr (1, [.ref (r 2), .ref (r 3)])), ((r 2), .inl (cI, 8, .inl fm)), ((r 3), .inl (cI, 8, .inl fi)), ((r 4), .inl (cR, 80, .inr (.inr (.inr (.inr fr))))), ((r 5), .inl (cI, 80, .inl fl)), ((r 6), .inl (cI, 80, .inl fc)), ((r 7), .inl (cI, 8, .inl fg))] : va_W) ++ va_pl L f) sz)) 0 0 (va_A (([((r 0), .inr (0, mf_M r (nI n) nw pb lc)), ((r 1), .inr (1, [.ref (r 2), .ref (r 3)])), ((r 2), .inl (cI, 8, .inl fm)), ((r 3), .inl (cI, 8, .inl fi)), ((r 4), .inl (cR, 80, .inr (.inr (.inr (.inr fr))))), ((r 5), .inl (cI, 80, .inl fl)), ((r 6), .inl (cI, 80, .inl fc)), ((r 7), .inl (cI, 8, .inl fg))] : va_W) ++ va_pl L f) sz) := by
  refine Met.ofW (cc := b_M_gather) (maxL := 9) (ret := (some .int)) (by decide) rfl ?_
  intro p e s m args below meth c s₁ B hml hv
  obtain ⟨rfl, hsz, hB, hK, hP, hD0⟩ := hv
  subst hsz
  have hA0 := mr_A hB hD0
  have hD := hD0.self (sz := s.heap.size)
  generalize hAe : va_A (([((r 0), .inr (0, mf_M r (nI n) nw pb lc)), ((r 1), .inr (1, [.ref (r 2), .ref (r 3)])), ((r 2), .inl (cI, 8, .inl fm)), ((r 3), .inl (cI, 8, .inl fi)), ((r 4), .inl (cR, 80, .inr (.inr (.inr (.inr fr))))), ((r 5), .inl (cI, 80, .inl fl)), ((r 6), .inl (cI, 80, .inl fc)), ((r 7), .inl (cI, 8, .inl fg))] : va_W) ++ va_pl L f) s.heap.size = A at hD hA0 ⊢
  have hA : ∀ q : Nat, s.heap.size ≤ q → A q := fun q h => by rw [← hAe]; exact Or.inr h
  have hS : va_S A s.heap s.heap [] := va_S.rf
  have hP : va_P (dC, dI) mr_cl (([((r 0), .inr (0, mf_M r (nI n) nw pb lc)), ((r 1), .inr (1, [.ref (r 2), .ref (r 3)])), ((r 2), .inl (cI, 8, .inl fm)), ((r 3), .inl (cI, 8, .inl fi)), ((r 4), .inl (cR, 80, .inr (.inr (.inr (.inr fr))))), ((r 5), .inl (cI, 80, .inl fl)), ((r 6), .inl (cI, 80, .inl fc)), ((r 7), .inl (cI, 8, .inl fg))] : va_W) ++ va_pl L f) s.heap := hP
  have hBH := hB.at hS hA0
  have hx := B.exec
  have hb := B.bytes
  have hr := B.returns
  have hlocks := B.notSynchronized
  have hts : ∀ w ∈ lw_tbl, w.before [.ref (r 0), .ref (r 6), .int a1, .int a2, .int a3, .int a4].toArray s = true := hB.hts _
  have hown : s.vm.findClass "MeasureRows" = some m.cls := findClass_of_methodNamed B.named
  have hl := lv_entry ([.ref (r 0), .ref (r 6), .int a1, .int a2, .int a3, .int a4]) (n := 9) (Nat.le_of_ble_eq_true rfl)
  rw [lg_entry_eq]
  generalize (lg_sl ([.ref (r 0), .ref (r 6), .int a1, .int a2, .int a3, .int a4]) ++ List.replicate (9 - (lg_sl ([.ref (r 0), .ref (r 6), .int a1, .int a2, .int a3, .int a4])).length) Slot.unset).toArray = ls at hl ⊢
  have hl : lv_has ls 9 [(0, .ref (r 0)), (1, .ref (r 6)), (2, .int a1), (3, .int a2), (4, .int a3), (5, .int a4)] := hl
  refine lv_iconst (v := 0) hx hb d_M_gather_0 (by decide) ?_
  refine lv_istore (lv' := [(6, .int 0), (0, .ref (r 0)), (1, .ref (r 6)), (2, .int a1), (3, .int a2), (4, .int a3), (5, .int a4)]) hx hb d_M_gather_1 hl (by decide) rfl (fun ls hl => ?_)
  refine lv_iconst (v := 1) hx hb d_M_gather_3 (by decide) ?_
  refine lv_istore (lv' := [(7, .int 1), (6, .int 0), (0, .ref (r 0)), (1, .ref (r 6)), (2, .int a1), (3, .int a2), (4, .int a3), (5, .int a4)]) hx hb d_M_gather_4 hl (by decide) rfl (fun ls hl => ?_)
  refine mr_loop (N := n) (I := fun j H locs ls => ∃ q9 : Nat, ∃ ft9 : Nat → Int32, (q9 = mr_cnt (fun j => mv_gP fkn fco fla ffi fe fa fk fi cls (j + 1) a1 a2 a3 a4) j ∧ q9 ≤ j ∧ ∀ m, m < j → ¬ (fun j => mv_gP fkn fco fla ffi fe fa fk fi cls (j + 1) a1 a2 a3 a4) m = 0 → ft9 (mr_cnt (fun j => mv_gP fkn fco fla ffi fe fa fk fi cls (j + 1) a1 a2 a3 a4) m) = nI (m + 1)) ∧ va_P (dC, dI) mr_cl (([((r 0), .inr (0, mf_M r (nI n) nw pb lc)), ((r 1), .inr (1, [.ref (r 2), .ref (r 3)])), ((r 2), .inl (cI, 8, .inl fm)), ((r 3), .inl (cI, 8, .inl fi)), ((r 4), .inl (cR, 80, .inr (.inr (.inr (.inr fr))))), ((r 5), .inl (cI, 80, .inl fl)), ((r 6), .inl (cI, 80, .inl ft9)), ((r 7), .inl (cI, 8, .inl fg))] : va_W) ++ va_pl L f) H ∧ va_D A (([((r 0), .inr (0, mf_M r (nI n) nw pb lc)), ((r 1), .inr (1, [.ref (r 2), .ref (r 3)])), ((r 2), .inl (cI, 8, .inl fm)), ((r 3), .inl (cI, 8, .inl fi)), ((r 4), .inl (cR, 80, .inr (.inr (.inr (.inr fr))))), ((r 5), .inl (cI, 80, .inl fl)), ((r 6), .inl (cI, 80, .inl ft9)), ((r 7), .inl (cI, 8, .inl fg))] : va_W) ++ va_pl L f) ∧ va_S A s.heap H locs ∧ lv_has ls 9 [(7, .int (nI (j + 1))), (6, .int (nI q9)), (0, .ref (r 0)), (1, .ref (r 6)), (2, .int a1), (3, .int a2), (4, .int a3), (5, .int a4)]) (fun j H locs ls hj hI9 ih => ?_) (fun H locs ls hI9 => ?_) 0 _ _ _ (Nat.zero_le _) ⟨0, fc, ⟨rfl, Nat.le_refl 0, fun m hm => absurd hm (Nat.not_lt_zero m)⟩, hP, hD, hS, (lv_sub hl [0, 1, 2, 3, 4, 5, 6, 7] rfl)⟩
  · obtain ⟨q9, ft9, hexj, hP, hD, hS, hl⟩ := hI9
    have hBH := hB.at hS hA0
    refine lv_iload hx hb d_M_gather_6 (lv_at hl 0 rfl) ?_
    refine lv_aload_n hx hb d_M_gather_8 rfl (lv_at hl 2 rfl) ?_
    refine va_get (D := (dC, dI)) (ci := 0) (v := .int (nI n)) (C := R_M) (T := T_M) (N := 9) hx hb hts ti_M hown hK hP 0 rfl rfl 2 (by decide) (hts (Cond.fieldLink "MeasureRows" 22 "MeasureRows" "rowCount" "I") mw_57) (fun _ h9 => h9) rfl d_M_gather_9 ?_
    refine lv_icmp_gt (tgt := 87) hx hb d_M_gather_12 (by decide) (fun c_1 => absurd c_1 (nI_nlt (by omega) (by have := hX.1; omega))) (fun _ => ?_)
    refine lv_aload_n hx hb d_M_gather_15 rfl (lv_at hl 2 rfl) ?_
    refine lv_iload hx hb d_M_gather_16 (lv_at hl 0 rfl) ?_
    refine va_csq (va_Run.run (va_runV (As := [.int (nI (j + 1))]) (rest := []) (C := R_M) ⟨hx, hb, hml, hown, hts⟩ (mc_M_find l s0 dC dI cI cR cL cZ r n nw pb lc fr (nI (j + 1)) hX.1) ⟨(mr_cB 1 (hts (Cond.code y_M_find b_M_find 2 (some (.object "MeasureRows$Row"))) mw_117) (hts (Cond.initialized y_M_find.cls) mw_118) (hts (Cond.methodLink "MeasureRows" 111 y_M_find) mw_119) rfl rfl (by decide +kernel) ⟨Nat.le_of_ble_eq_true rfl, Nat.le_of_ble_eq_true rfl⟩), (hts (Cond.instanceMethod y_M_find) mw_120), (hts (Cond.selects "MeasureRows" y_M_find y_M_find) mw_121)⟩ (mr_preV hBH hK (hP.sub (ws' := [((r 0), .inr (0, mf_M r (nI n) nw pb lc)), ((r 4), .inl (cR, 80, .inr (.inr (.inr (.inr fr)))))]) [0, 4] rfl) (ci := 0) (q0 := 0) rfl rfl) rfl rfl hl.1 rfl (lv_room (Nat.le_of_ble_eq_true rfl)) d_M_gather_18 ⟨Nat.le_of_ble_eq_true rfl, Nat.le_of_ble_eq_true rfl⟩)) (fun r_2 h_3 => ?_)
    subst h_3
    obtain ⟨a_19, ql_19, qk_19, k_19, t_19, ld_19, kd_19, hf_19, hfi_19, m1_19, m2_19, m3_19, e1_19, e2_19, e3_19, hke_19, hte_19, hk_19, ht_19, ho_19, hne_19, hld_19⟩ := mr_fy hX hN (i := (j + 1)) (by omega) (by omega)
    refine mr_topv (show va_rf (mv_M_find n fr (nI (j + 1))) = .ref a_19 by rw [hf_19]; rfl) ?_
    have hPr_19 := mr_row3 (X := [((r 0), .inr (0, mf_M r (nI n) nw pb lc)), ((r 1), .inr (1, [.ref (r 2), .ref (r 3)])), ((r 2), .inl (cI, 8, .inl fm)), ((r 3), .inl (cI, 8, .inl fi)), ((r 4), .inl (cR, 80, .inr (.inr (.inr (.inr fr))))), ((r 5), .inl (cI, 80, .inl fl)), ((r 6), .inl (cI, 80, .inl ft9)), ((r 7), .inl (cI, 8, .inl fg))]) hP m1_19 m2_19 m3_19 e1_19 e2_19 e3_19
    refine lv_astore (lv' := [(8, .ref a_19), (7, .int (nI (j + 1))), (6, .int (nI q9)), (0, .ref (r 0)), (1, .ref (r 6)), (2, .int a1), (3, .int a2), (4, .int a3), (5, .int a4)]) hx hb d_M_gather_21 hl (by decide) rfl (fun ls hl => ?_)
    refine lv_aload hx hb d_M_gather_23 (lv_at hl 0 rfl) ?_
    refine lv_ifnull hx hb d_M_gather_25 ?_
    refine lv_aload hx hb d_M_gather_28 (lv_at hl 0 rfl) ?_
    refine va_get (D := (dC, dI)) (ci := 2) (v := .int (fkn (j + 1))) (C := R_R) (T := T_R) (N := 11) hx hb hts ti_R hown hK hPr_19 0 rfl rfl 5 (by decide) (hts (Cond.fieldLink "MeasureRows" 170 "MeasureRows$Row" "known" "I") mw_153) (fun _ h9 => h9) rfl d_M_gather_30 ?_
    refine lv_iload hx hb d_M_gather_33 (lv_at hl 8 rfl) ?_
    refine lv_icmp_gt (tgt := 81) hx hb d_M_gather_35 (by decide) (fun c_4 => ?_) (fun c_4 => ?_)
    · refine lv_iinc (v := nI ((j + 1) + 1)) (lv' := [(7, .int (nI ((j + 1) + 1))), (8, .ref a_19), (6, .int (nI q9)), (0, .ref (r 0)), (1, .ref (r 6)), (2, .int a1), (3, .int a2), (4, .int a3), (5, .int a4)]) hx hb d_M_gather_81 hl (k := 1) rfl ((nI_succ (j + 1)).symm) (by decide) rfl (fun ls hl => ?_)
      refine lv_goto (tgt := 6) hx hb d_M_gather_84 (by decide) ?_
      exact ih _ _ _ ⟨q9, ft9, ⟨by rw [mr_cnt_n (P := (fun j => mv_gP fkn fco fla ffi fe fa fk fi cls (j + 1) a1 a2 a3 a4)) (j := j) (by show mv_gP _ _ _ _ _ _ _ _ _ _ _ _ _ _ = 0; unfold mv_gP; rw [if_pos c_4])]; exact hexj.1, by have := hexj.2.1; omega, mr_gz hexj.2.2 (by show mv_gP _ _ _ _ _ _ _ _ _ _ _ _ _ _ = 0; unfold mv_gP; rw [if_pos c_4])⟩, hP, hD, hS, lv_sub hl [0, 2, 3, 4, 5, 6, 7, 8] rfl⟩
    · refine lv_iload_n hx hb d_M_gather_38 rfl (lv_at hl 5 rfl) ?_
      refine lv_aload hx hb d_M_gather_39 (lv_at hl 0 rfl) ?_
      refine va_get (D := (dC, dI)) (ci := 2) (v := .int (fco (j + 1))) (C := R_R) (T := T_R) (N := 11) hx hb hts ti_R hown hK hPr_19 0 rfl rfl 0 (by decide) (hts (Cond.fieldLink "MeasureRows" 155 "MeasureRows$Row" "code" "I") mw_147) (fun _ h9 => h9) rfl d_M_gather_41 ?_
      refine vp_callSi (va_Run.run (va_runS (As := [.int a1, .int (fco (j + 1))]) (rest := []) ⟨hx, hb, hml, hown, hts⟩ (mc_M_isUnder l s0 a1 (fco (j + 1))) ⟨(mr_cB 2 (hts (Cond.code y_M_isUnder b_M_isUnder 2 (some .boolean)) mw_200) (hts (Cond.initialized y_M_isUnder.cls) mw_201) (hts (Cond.methodLink "MeasureRows" 197 y_M_isUnder) mw_202) rfl rfl (by decide +kernel) ⟨Nat.le_of_ble_eq_true rfl, Nat.le_of_ble_eq_true rfl⟩), (hts (Cond.static y_M_isUnder) mw_203)⟩ (mr_pre0 hBH) rfl rfl hl.1 rfl (lv_room (Nat.le_of_ble_eq_true rfl)) d_M_gather_44 ⟨Nat.le_of_ble_eq_true rfl, Nat.le_of_ble_eq_true rfl⟩)) (fun r_5 h_6 => ?_)
      subst h_6
      refine lv_if_eq (tgt := 81) hx hb d_M_gather_47 (by decide) (fun c_7 => ?_) (fun c_7 => ?_)
      · refine lv_iinc (v := nI ((j + 1) + 1)) (lv' := [(7, .int (nI ((j + 1) + 1))), (8, .ref a_19), (6, .int (nI q9)), (0, .ref (r 0)), (1, .ref (r 6)), (2, .int a1), (3, .int a2), (4, .int a3), (5, .int a4)]) hx hb d_M_gather_81 hl (k := 1) rfl ((nI_succ (j + 1)).symm) (by decide) rfl (fun ls hl => ?_)
        refine lv_goto (tgt := 6) hx hb d_M_gather_84 (by decide) ?_
        exact ih _ _ _ ⟨q9, ft9, ⟨by rw [mr_cnt_n (P := (fun j => mv_gP fkn fco fla ffi fe fa fk fi cls (j + 1) a1 a2 a3 a4)) (j := j) (by show mv_gP _ _ _ _ _ _ _ _ _ _ _ _ _ _ = 0; unfold mv_gP; rw [if_neg c_4, if_pos c_7])]; exact hexj.1, by have := hexj.2.1; omega, mr_gz hexj.2.2 (by show mv_gP _ _ _ _ _ _ _ _ _ _ _ _ _ _ = 0; unfold mv_gP; rw [if_neg c_4, if_pos c_7])⟩, hP, hD, hS, lv_sub hl [0, 2, 3, 4, 5, 6, 7, 8] rfl⟩
      · refine lv_aload_n hx hb d_M_gather_50 rfl (lv_at hl 3 rfl) ?_
        refine lv_aload hx hb d_M_gather_51 (lv_at hl 0 rfl) ?_
        refine lv_iload_n hx hb d_M_gather_53 rfl (lv_at hl 6 rfl) ?_
        refine vp_callSi (va_Run.run (va_runV (As := [.ref a_19, .int a2]) (rest := []) (C := R_M) ⟨hx, hb, hml, hown, hts⟩ (mc_M_isOfLandX l s0 dC dI cI cR cL cZ r n nw pb lc fi a_19 ql_19 qk_19 (fco (j + 1)) (fla (j + 1)) (ffi (j + 1)) (fra (j + 1)) (fkn (j + 1)) (cls (j + 1)) (cpa (j + 1)) (nI t_19) k_19 a2) ⟨(mr_cB 2 (hts (Cond.code y_M_isOfLand b_M_isOfLand 3 (some .boolean)) mw_204) (hts (Cond.initialized y_M_isOfLand.cls) mw_205) (hts (Cond.methodLink "MeasureRows" 200 y_M_isOfLand) mw_206) rfl rfl (by decide +kernel) ⟨Nat.le_of_ble_eq_true rfl, Nat.le_of_ble_eq_true rfl⟩), (hts (Cond.instanceMethod y_M_isOfLand) mw_207), (hts (Cond.selects "MeasureRows" y_M_isOfLand y_M_isOfLand) mw_208)⟩ (mr_preV hBH hK ((hP.sub (ws' := [((r 0), .inr (0, mf_M r (nI n) nw pb lc)), ((r 1), .inr (1, [.ref (r 2), .ref (r 3)])), ((r 3), .inl (cI, 8, .inl fi))]) [0, 1, 3] rfl).app (hPr_19.sub (ws' := [(a_19, .inr (2, [.int (fco (j + 1)), .int (fla (j + 1)), .int (ffi (j + 1)), .int (nI k_19), .int (fra (j + 1)), .int (fkn (j + 1)), .int (cls (j + 1)), .int (cpa (j + 1)), .int (nI t_19), .ref ql_19, .ref qk_19]))]) [0] rfl)) (ci := 0) (q0 := 0) rfl rfl) rfl rfl hl.1 rfl (lv_room (Nat.le_of_ble_eq_true rfl)) d_M_gather_54 ⟨Nat.le_of_ble_eq_true rfl, Nat.le_of_ble_eq_true rfl⟩)) (fun r_8 h_9 => ?_)
        subst h_9
        refine lv_if_eq (tgt := 81) hx hb d_M_gather_57 (by decide) (fun c_10 => ?_) (fun c_10 => ?_)
        · refine lv_iinc (v := nI ((j + 1) + 1)) (lv' := [(7, .int (nI ((j + 1) + 1))), (8, .ref a_19), (6, .int (nI q9)), (0, .ref (r 0)), (1, .ref (r 6)), (2, .int a1), (3, .int a2), (4, .int a3), (5, .int a4)]) hx hb d_M_gather_81 hl (k := 1) rfl ((nI_succ (j + 1)).symm) (by decide) rfl (fun ls hl => ?_)
          refine lv_goto (tgt := 6) hx hb d_M_gather_84 (by decide) ?_
          exact ih _ _ _ ⟨q9, ft9, ⟨by rw [mr_cnt_n (P := (fun j => mv_gP fkn fco fla ffi fe fa fk fi cls (j + 1) a1 a2 a3 a4)) (j := j) (by show mv_gP _ _ _ _ _ _ _ _ _ _ _ _ _ _ = 0; unfold mv_gP; rw [if_neg c_4, if_neg c_7, if_pos c_10])]; exact hexj.1, by have := hexj.2.1; omega, mr_gz hexj.2.2 (by show mv_gP _ _ _ _ _ _ _ _ _ _ _ _ _ _ = 0; unfold mv_gP; rw [if_neg c_4, if_neg c_7, if_pos c_10])⟩, hP, hD, hS, lv_sub hl [0, 2, 3, 4, 5, 6, 7, 8] rfl⟩
        · refine lv_aload hx hb d_M_gather_60 (lv_at hl 0 rfl) ?_
          refine lv_iload hx hb d_M_gather_62 (lv_at hl 7 rfl) ?_
          refine lv_iload hx hb d_M_gather_64 (lv_at hl 8 rfl) ?_
          refine vp_callSi (va_Run.run (va_runV (As := [.int a3, .int a4]) (rest := []) (C := R_R) ⟨hx, hb, hml, hown, hts⟩ (mc_R_lastsOn l s0 dC dI cI cR cL cZ a_19 ql_19 qk_19 (fco (j + 1)) (fla (j + 1)) (ffi (j + 1)) (nI k_19) (fra (j + 1)) (fkn (j + 1)) (cls (j + 1)) (cpa (j + 1)) t_19 ld_19 kd_19 a3 a4 ht_19) ⟨(mr_cB 2 (hts (Cond.code y_R_lastsOn b_R_lastsOn 3 (some .boolean)) mw_141) (hts (Cond.initialized y_R_lastsOn.cls) mw_142) (hts (Cond.methodLink "MeasureRows" 152 y_R_lastsOn) mw_143) rfl rfl (by decide +kernel) ⟨Nat.le_of_ble_eq_true rfl, Nat.le_of_ble_eq_true rfl⟩), (hts (Cond.instanceMethod y_R_lastsOn) mw_144), (hts (Cond.selects "MeasureRows$Row" y_R_lastsOn y_R_lastsOn) mw_145)⟩ (mr_preV hBH hK (hPr_19.sub (ws' := [(a_19, .inr (2, [.int (fco (j + 1)), .int (fla (j + 1)), .int (ffi (j + 1)), .int (nI k_19), .int (fra (j + 1)), .int (fkn (j + 1)), .int (cls (j + 1)), .int (cpa (j + 1)), .int (nI t_19), .ref ql_19, .ref qk_19])), (ql_19, .inl (cI, 8, .inl ld_19)), (qk_19, .inl (cI, 8, .inl kd_19))]) [0, 1, 2] rfl) (ci := 2) (q0 := 0) rfl rfl) rfl rfl hl.1 rfl (lv_room (Nat.le_of_ble_eq_true rfl)) d_M_gather_66 ⟨Nat.le_of_ble_eq_true rfl, Nat.le_of_ble_eq_true rfl⟩)) (fun r_11 h_12 => ?_)
          subst h_12
          refine mr_top (mr_lasts hN (by omega) (by omega) hte_19 ht_19 ho_19 hld_19 a3 a4 (by rw [← (hN.2 (j + 1) (by omega) (by omega)).2.2.2.2.2]; exact c_4)) ?_
          refine lv_if_eq (tgt := 81) hx hb d_M_gather_69 (by decide) (fun c_13 => ?_) (fun c_13 => ?_)
          · refine lv_iinc (v := nI ((j + 1) + 1)) (lv' := [(7, .int (nI ((j + 1) + 1))), (8, .ref a_19), (6, .int (nI q9)), (0, .ref (r 0)), (1, .ref (r 6)), (2, .int a1), (3, .int a2), (4, .int a3), (5, .int a4)]) hx hb d_M_gather_81 hl (k := 1) rfl ((nI_succ (j + 1)).symm) (by decide) rfl (fun ls hl => ?_)
            refine lv_goto (tgt := 6) hx hb d_M_gather_84 (by decide) ?_
            exact ih _ _ _ ⟨q9, ft9, ⟨by rw [mr_cnt_n (P := (fun j => mv_gP fkn fco fla ffi fe fa fk fi cls (j + 1) a1 a2 a3 a4)) (j := j) (by show mv_gP _ _ _ _ _ _ _ _ _ _ _ _ _ _ = 0; unfold mv_gP; rw [if_neg c_4, if_neg c_7, if_neg c_10]; exact c_13)]; exact hexj.1, by have := hexj.2.1; omega, mr_gz hexj.2.2 (by show mv_gP _ _ _ _ _ _ _ _ _ _ _ _ _ _ = 0; unfold mv_gP; rw [if_neg c_4, if_neg c_7, if_neg c_10]; exact c_13)⟩, hP, hD, hS, lv_sub hl [0, 2, 3, 4, 5, 6, 7, 8] rfl⟩
          · refine lv_aload_n hx hb d_M_gather_72 rfl (lv_at hl 4 rfl) ?_
            refine lv_iload hx hb d_M_gather_73 (lv_at hl 2 rfl) ?_
            refine lv_iload hx hb d_M_gather_75 (lv_at hl 1 rfl) ?_
            refine va_iast (D := (dC, dI)) hx hb hK hP hD hS 6 0 rfl rfl (i := nI q9) (nI_in (by have := hexj.2.1; have := hX.1; omega) (by decide)) d_M_gather_77 (fun H locs hP hD hS => ?_)
            have hP : va_P (dC, dI) mr_cl (([((r 0), .inr (0, mf_M r (nI n) nw pb lc)), ((r 1), .inr (1, [.ref (r 2), .ref (r 3)])), ((r 2), .inl (cI, 8, .inl fm)), ((r 3), .inl (cI, 8, .inl fi)), ((r 4), .inl (cR, 80, .inr (.inr (.inr (.inr fr))))), ((r 5), .inl (cI, 80, .inl fl)), ((r 6), .inl (cI, 80, .inl (upd ft9 (nI q9).toNatClampNeg (nI (j + 1))))), ((r 7), .inl (cI, 8, .inl fg))] : va_W) ++ va_pl L f) H := hP
            have hD : va_D A (([((r 0), .inr (0, mf_M r (nI n) nw pb lc)), ((r 1), .inr (1, [.ref (r 2), .ref (r 3)])), ((r 2), .inl (cI, 8, .inl fm)), ((r 3), .inl (cI, 8, .inl fi)), ((r 4), .inl (cR, 80, .inr (.inr (.inr (.inr fr))))), ((r 5), .inl (cI, 80, .inl fl)), ((r 6), .inl (cI, 80, .inl (upd ft9 (nI q9).toNatClampNeg (nI (j + 1))))), ((r 7), .inl (cI, 8, .inl fg))] : va_W) ++ va_pl L f) := hD
            have hBH := hB.at hS hA0
            have hPr_19 := mr_row3 (X := [((r 0), .inr (0, mf_M r (nI n) nw pb lc)), ((r 1), .inr (1, [.ref (r 2), .ref (r 3)])), ((r 2), .inl (cI, 8, .inl fm)), ((r 3), .inl (cI, 8, .inl fi)), ((r 4), .inl (cR, 80, .inr (.inr (.inr (.inr fr))))), ((r 5), .inl (cI, 80, .inl fl)), ((r 6), .inl (cI, 80, .inl (upd ft9 (nI q9).toNatClampNeg (nI (j + 1))))), ((r 7), .inl (cI, 8, .inl fg))]) hP m1_19 m2_19 m3_19 e1_19 e2_19 e3_19
            refine lv_iinc (v := nI (q9 + 1)) (lv' := [(6, .int (nI (q9 + 1))), (8, .ref a_19), (7, .int (nI (j + 1))), (0, .ref (r 0)), (1, .ref (r 6)), (2, .int a1), (3, .int a2), (4, .int a3), (5, .int a4)]) hx hb d_M_gather_78 hl (k := 2) rfl ((nI_succ q9).symm) (by decide) rfl (fun ls hl => ?_)
            refine lv_iinc (v := nI ((j + 1) + 1)) (lv' := [(7, .int (nI ((j + 1) + 1))), (6, .int (nI (q9 + 1))), (8, .ref a_19), (0, .ref (r 0)), (1, .ref (r 6)), (2, .int a1), (3, .int a2), (4, .int a3), (5, .int a4)]) hx hb d_M_gather_81 hl (k := 2) rfl ((nI_succ (j + 1)).symm) (by decide) rfl (fun ls hl => ?_)
            refine lv_goto (tgt := 6) hx hb d_M_gather_84 (by decide) ?_
            exact ih _ _ _ ⟨(q9 + 1), (upd ft9 (nI q9).toNatClampNeg (nI (j + 1))), ⟨by rw [mr_cnt_y (P := (fun j => mv_gP fkn fco fla ffi fe fa fk fi cls (j + 1) a1 a2 a3 a4)) (j := j) (by show ¬ mv_gP _ _ _ _ _ _ _ _ _ _ _ _ _ _ = 0; unfold mv_gP; rw [if_neg c_4, if_neg c_7, if_neg c_10]; exact c_13), hexj.1], by have := hexj.2.1; omega, mr_gy hexj.1 (by have := hexj.2.1; have := hX.1; omega) hexj.2.2⟩, hP, hD, hS, lv_sub hl [0, 1, 3, 4, 5, 6, 7, 8] rfl⟩
  · obtain ⟨q9, ft9, hexj, hP, hD, hS, hl⟩ := hI9
    have hBH := hB.at hS hA0
    refine lv_iload hx hb d_M_gather_6 (lv_at hl 0 rfl) ?_
    refine lv_aload_n hx hb d_M_gather_8 rfl (lv_at hl 2 rfl) ?_
    refine va_get (D := (dC, dI)) (ci := 0) (v := .int (nI n)) (C := R_M) (T := T_M) (N := 9) hx hb hts ti_M hown hK hP 0 rfl rfl 2 (by decide) (hts (Cond.fieldLink "MeasureRows" 22 "MeasureRows" "rowCount" "I") mw_57) (fun _ h9 => h9) rfl d_M_gather_9 ?_
    refine lv_icmp_gt (tgt := 87) hx hb d_M_gather_12 (by decide) (fun _ => ?_) (fun c_14 => absurd (nI_lt (by omega) (by have := hX.1; omega)) c_14)
    refine lv_iload hx hb d_M_gather_87 (lv_at hl 1 rfl) ?_
    have hP9 := hP
    have hD9 := hD
    exact W.iret (v := nI q9) hx hb hr (fun t ht hW => ⟨⟨_, ft9, rfl, ⟨by rw [← hexj.1], hexj.2.2⟩, by rw [ht]; exact hP9, va_K.moved hW.alike hK, hD9⟩, hS.F ht⟩) hS.2.2 d_M_gather_89
