section RL
variable {n t k i : Nat} {nw : Int32} {fco fla ffi fki fra fkn fe fa fk ld kd : Nat → Int32}
theorem mr_lastR (hN : mr_NX n nw fco fki fra fkn fe fk) (h1 : 1 ≤ i) (hi : i ≤ n) (hte : fe i = nI t) (ht : t ≤ 8) (ho : 1 ≤ t) (hld : ∀ j, j < t → ld j = fa (8 * i + j) ∧ kd j = fk (8 * i + j)) {on : Int32} (h0 : ¬ on < fk (8 * i)) : mv_R_lastDayAsOf t ld kd on = mv_D_lastOf fe fa fk i on := by
  obtain ⟨⟨t', e, -, t8, hp⟩, -⟩ := hN.2 i h1 hi
  have ett : t' = t := (nI_eq (by omega) (by omega)).mp (e.symm.trans hte)
  subst ett
  obtain ⟨m, rfl⟩ : ∃ m, t' = m + 1 := ⟨t' - 1, by omega⟩
  unfold mv_R_lastDayAsOf mv_D_lastOf
  rw [(mv_la_bs h0 m hld hp).1, hte, nI_clamp (by omega)]
  rfl
theorem mr_lasts (hN : mr_NX n nw fco fki fra fkn fe fk) (h1 : 1 ≤ i) (hi : i ≤ n) (hte : fe i = nI t) (ht : t ≤ 8) (ho : 1 ≤ t) (hld : ∀ j, j < t → ld j = fa (8 * i + j) ∧ kd j = fk (8 * i + j)) (a on : Int32) (h0 : ¬ on < fk (8 * i)) : mv_R_lastsOn (ffi i) t ld kd a on = mv_D_lasts ffi fe fa fk i a on := by
  unfold mv_R_lastsOn mv_R_meets mv_D_lasts
  rw [mr_lastR hN h1 hi hte ht ho hld h0]
theorem mr_clR (hN : mr_NX n nw fco fki fra fkn fe fk) (h1 : 1 ≤ i) (hi : i ≤ n) (hke : fki i = nI k) (hte : fe i = nI t) (ht : t ≤ 8) (ho : 1 ≤ t) (hld : ∀ j, j < t → ld j = fa (8 * i + j) ∧ kd j = fk (8 * i + j)) (c l x y z v : Int32) :
    mv_D_clashes fco fla ffi fki fra fe fa fk nw i c l x y z v = if mv_R_isAlike (fco i) (fla i) (nI k) (fra i) c l z v = 0 then 0 else mv_R_meets (ffi i) t ld kd x y nw := by
  unfold mv_D_clashes mv_R_isAlike mv_R_meets
  rw [mr_lastR hN h1 hi hte ht ho hld (hN.2 i h1 hi).2.2.2.2.1, ← hke]
  by_cases c1 : fco i = c
  · by_cases c2 : fla i = l
    · by_cases c3 : fki i = z
      · by_cases c4 : fra i = v
        · simp only [if_pos c1, if_pos c2, if_pos c3, if_pos c4]
          rw [if_neg (show ¬ (1 : Int32) = 0 by decide)]
        · simp only [if_pos c1, if_pos c2, if_pos c3, if_neg c4, if_true]
      · simp only [if_pos c1, if_pos c2, if_neg c3, if_true]
    · simp only [if_pos c1, if_neg c2, if_true]
  · simp only [if_neg c1, if_true]
end RL

def mv_M_leastClash (n : Nat) (nw : Int32) (fco fla ffi fki fra fe fa fk : Nat → Int32) (a0 a1 a2 a3 a4 a5 : Int32) : Int32 := mr_fst (fun j => mv_D_clashes fco fla ffi fki fra fe fa fk nw (j + 1) a0 a1 a2 a3 a4 a5) n
set_option maxHeartbeats 4000000 in
set_option maxRecDepth 100000 in
theorem mc_M_leastClashX (l : Launch) (s0 : State) (dC : Nat → ClassId) (dI : Nat → Nat → Nat) (cI cR cL cZ : ClassId) (r : Nat → Nat) (n : Nat) (nw pb lc : Int32) (fm fi : Nat → Int32) (fr : Nat → Option Nat) (fl fc fg : Nat → Int32) (L : List Nat) (f : Nat → va_E) (fco fla ffi fki fra fkn cls cpa fe fa fk : Nat → Int32) (a0 : Int32) (a1 : Int32) (a2 : Int32) (a3 : Int32) (a4 : Int32) (a5 : Int32) (hX : mr_RX cI n L f fr fco fla ffi fki fra fkn cls cpa fe fa fk) (hN : mr_NX n nw fco fki fra fkn fe fk) : Met l y_M_leastClash [Cond.code y_M_leastClash b_M_leastClash 9 (some .int)] ({ frames := 2, cells := 0, slots := 0, locals := 47 }) (mr_PW s0 (dC, dI) [(cI, .int), (cR, .object "MeasureRows$Row"), (cL, .long), (cZ, .boolean)] [.ref (r 0), .int a0, .int a1, .int a2, .int a3, .int a4, .int a5] (([((r 0), .inr (0, mf_M r (nI n) nw pb lc)), ((r 1), .inr (1, [.ref (r 2), .ref (r 3)])), ((r 2), .inl (cI, 8, .inl fm)), ((r 3), .inl (cI, 8, .inl fi)), ((r 4), .inl (cR, 80, .inr (.inr (.inr (.inr fr))))), ((r 5), .inl (cI, 80, .inl fl)), ((r 6), .inl (cI, 80, .inl fc)), ((r 7), .inl (cI, 8, .inl fg))] : va_W) ++ va_pl L f)) (vp_Si (fun r => r = mv_M_leastClash n nw fco fla ffi fki fra fe fa fk a0 a1 a2 a3 a4 a5)) 0 0 (fun _ => False) := by
  refine Met.ofW (cc := b_M_leastClash) (maxL := 9) (ret := (some .int)) (by decide) rfl ?_
  intro p e s m args below meth c s₁ B hml hv
  obtain ⟨rfl, hB, hK, hP⟩ := hv
  have hBH := hB.here
  have hx := B.exec
  have hb := B.bytes
  have hr := B.returns
  have hlocks := B.notSynchronized
  have hts : ∀ w ∈ lw_tbl, w.before [.ref (r 0), .int a0, .int a1, .int a2, .int a3, .int a4, .int a5].toArray s = true := hB.hts _
  have hown : s.vm.findClass "MeasureRows" = some m.cls := findClass_of_methodNamed B.named
  have hl := lv_entry ([.ref (r 0), .int a0, .int a1, .int a2, .int a3, .int a4, .int a5]) (n := 9) (Nat.le_of_ble_eq_true rfl)
  rw [lg_entry_eq]
  generalize (lg_sl ([.ref (r 0), .int a0, .int a1, .int a2, .int a3, .int a4, .int a5]) ++ List.replicate (9 - (lg_sl ([.ref (r 0), .int a0, .int a1, .int a2, .int a3, .int a4, .int a5])).length) Slot.unset).toArray = ls at hl ⊢
  have hl : lv_has ls 9 [(0, .ref (r 0)), (1, .int a0), (2, .int a1), (3, .int a2), (4, .int a3), (5, .int a4), (6, .int a5)] := hl
  refine lv_iconst (v := 1) hx hb d_M_leastClash_0 (by decide) ?_
  refine lv_istore (lv' := [(7, .int 1), (0, .ref (r 0)), (1, .int a0), (2, .int a1), (3, .int a2), (4, .int a3), (5, .int a4), (6, .int a5)]) hx hb d_M_leastClash_1 hl (by decide) rfl (fun ls hl => ?_)
  refine mr_loop (N := n) (I := fun j H locs ls => H = s.heap ∧ locs = [] ∧ (∀ i, i < j → (fun j => mv_D_clashes fco fla ffi fki fra fe fa fk nw (j + 1) a0 a1 a2 a3 a4 a5) i = 0) ∧ lv_has ls 9 [(7, .int (nI (j + 1))), (0, .ref (r 0)), (1, .int a0), (2, .int a1), (3, .int a2), (4, .int a3), (5, .int a4), (6, .int a5)]) (fun j H locs ls hj hI ih => ?_) (fun H locs ls hI => ?_) 0 _ _ _ (Nat.zero_le _) ⟨rfl, rfl, fun i hi => absurd hi (Nat.not_lt_zero i), (lv_sub hl [0, 1, 2, 3, 4, 5, 6, 7] rfl)⟩
  · obtain ⟨rfl, rfl, hex9, hl⟩ := hI
    refine lv_iload hx hb d_M_leastClash_3 (lv_at hl 0 rfl) ?_
    refine lv_aload_n hx hb d_M_leastClash_5 rfl (lv_at hl 1 rfl) ?_
    refine va_get (D := (dC, dI)) (ci := 0) (v := .int (nI n)) (C := R_M) (T := T_M) (N := 9) hx hb hts ti_M hown hK hP 0 rfl rfl 2 (by decide) (hts (Cond.fieldLink "MeasureRows" 22 "MeasureRows" "rowCount" "I") mw_57) (fun _ h9 => h9) rfl d_M_leastClash_6 ?_
    refine lv_icmp_gt (tgt := 63) hx hb d_M_leastClash_9 (by decide) (fun c_1 => absurd c_1 (nI_nlt (by omega) (by have := hX.1; omega))) (fun _ => ?_)
    refine lv_aload_n hx hb d_M_leastClash_12 rfl (lv_at hl 1 rfl) ?_
    refine lv_iload hx hb d_M_leastClash_13 (lv_at hl 0 rfl) ?_
    refine va_csq (va_Run.run (va_runV (As := [.int (nI (j + 1))]) (rest := []) (C := R_M) ⟨hx, hb, hml, hown, hts⟩ (mc_M_find l s0 dC dI cI cR cL cZ r n nw pb lc fr (nI (j + 1)) hX.1) ⟨(mr_cB 1 (hts (Cond.code y_M_find b_M_find 2 (some (.object "MeasureRows$Row"))) mw_117) (hts (Cond.initialized y_M_find.cls) mw_118) (hts (Cond.methodLink "MeasureRows" 111 y_M_find) mw_119) rfl rfl (by decide +kernel) ⟨Nat.le_of_ble_eq_true rfl, Nat.le_of_ble_eq_true rfl⟩), (hts (Cond.instanceMethod y_M_find) mw_120), (hts (Cond.selects "MeasureRows" y_M_find y_M_find) mw_121)⟩ (mr_preV hBH hK (hP.sub (ws' := [((r 0), .inr (0, mf_M r (nI n) nw pb lc)), ((r 4), .inl (cR, 80, .inr (.inr (.inr (.inr fr)))))]) [0, 4] rfl) (ci := 0) (q0 := 0) rfl rfl) rfl rfl hl.1 rfl (lv_room (Nat.le_of_ble_eq_true rfl)) d_M_leastClash_15 ⟨Nat.le_of_ble_eq_true rfl, Nat.le_of_ble_eq_true rfl⟩)) (fun r_2 h_3 => ?_)
    subst h_3
    obtain ⟨a_12, ql_12, qk_12, k_12, t_12, ld_12, kd_12, hf_12, hfi_12, m1_12, m2_12, m3_12, e1_12, e2_12, e3_12, hke_12, hte_12, hk_12, ht_12, ho_12, hne_12, hld_12⟩ := mr_fy hX hN (i := (j + 1)) (by omega) (by omega)
    refine mr_topv (show va_rf (mv_M_find n fr (nI (j + 1))) = .ref a_12 by rw [hf_12]; rfl) ?_
    have hPr_12 := mr_row3 (X := [((r 0), .inr (0, mf_M r (nI n) nw pb lc)), ((r 1), .inr (1, [.ref (r 2), .ref (r 3)])), ((r 2), .inl (cI, 8, .inl fm)), ((r 3), .inl (cI, 8, .inl fi)), ((r 4), .inl (cR, 80, .inr (.inr (.inr (.inr fr))))), ((r 5), .inl (cI, 80, .inl fl)), ((r 6), .inl (cI, 80, .inl fc)), ((r 7), .inl (cI, 8, .inl fg))]) hP m1_12 m2_12 m3_12 e1_12 e2_12 e3_12
    refine lv_astore (lv' := [(8, .ref a_12), (7, .int (nI (j + 1))), (0, .ref (r 0)), (1, .int a0), (2, .int a1), (3, .int a2), (4, .int a3), (5, .int a4), (6, .int a5)]) hx hb d_M_leastClash_18 hl (by decide) rfl (fun ls hl => ?_)
    refine lv_aload hx hb d_M_leastClash_20 (lv_at hl 0 rfl) ?_
    refine lv_ifnull hx hb d_M_leastClash_22 ?_
    refine lv_aload hx hb d_M_leastClash_25 (lv_at hl 0 rfl) ?_
    refine lv_iload_n hx hb d_M_leastClash_27 rfl (lv_at hl 3 rfl) ?_
    refine lv_iload_n hx hb d_M_leastClash_28 rfl (lv_at hl 4 rfl) ?_
    refine lv_iload hx hb d_M_leastClash_29 (lv_at hl 7 rfl) ?_
    refine lv_iload hx hb d_M_leastClash_31 (lv_at hl 8 rfl) ?_
    refine vp_callSi (va_Run.run (va_runV (As := [.int a0, .int a1, .int a4, .int a5]) (rest := []) (C := R_R) ⟨hx, hb, hml, hown, hts⟩ (mc_R_isAlike l s0 dC dI cI cR cL cZ a_12 ql_12 qk_12 (fco (j + 1)) (fla (j + 1)) (ffi (j + 1)) (nI k_12) (fra (j + 1)) (fkn (j + 1)) (cls (j + 1)) (cpa (j + 1)) (nI t_12) a0 a1 a4 a5) ⟨(mr_cB 4 (hts (Cond.code y_R_isAlike b_R_isAlike 5 (some .boolean)) mw_122) (hts (Cond.initialized y_R_isAlike.cls) mw_123) (hts (Cond.methodLink "MeasureRows" 189 y_R_isAlike) mw_124) rfl rfl (by decide +kernel) ⟨Nat.le_of_ble_eq_true rfl, Nat.le_of_ble_eq_true rfl⟩), (hts (Cond.instanceMethod y_R_isAlike) mw_125), (hts (Cond.selects "MeasureRows$Row" y_R_isAlike y_R_isAlike) mw_126)⟩ (mr_preV hBH hK (hPr_12.sub (ws' := [(a_12, .inr (2, [.int (fco (j + 1)), .int (fla (j + 1)), .int (ffi (j + 1)), .int (nI k_12), .int (fra (j + 1)), .int (fkn (j + 1)), .int (cls (j + 1)), .int (cpa (j + 1)), .int (nI t_12), .ref ql_12, .ref qk_12]))]) [0] rfl) (ci := 2) (q0 := 0) rfl rfl) rfl rfl hl.1 rfl (lv_room (Nat.le_of_ble_eq_true rfl)) d_M_leastClash_33 ⟨Nat.le_of_ble_eq_true rfl, Nat.le_of_ble_eq_true rfl⟩)) (fun r_4 h_5 => ?_)
    subst h_5
    refine lv_if_eq (tgt := 57) hx hb d_M_leastClash_36 (by decide) (fun c_6 => ?_) (fun c_6 => ?_)
    · refine lv_iinc (v := nI ((j + 1) + 1)) (lv' := [(7, .int (nI ((j + 1) + 1))), (8, .ref a_12), (0, .ref (r 0)), (1, .int a0), (2, .int a1), (3, .int a2), (4, .int a3), (5, .int a4), (6, .int a5)]) hx hb d_M_leastClash_57 hl (k := 1) rfl ((nI_succ (j + 1)).symm) (by decide) rfl (fun ls hl => ?_)
      refine lv_goto (tgt := 3) hx hb d_M_leastClash_60 (by decide) ?_
      exact ih _ _ _ ⟨rfl, rfl, mr_none_succ hex9 (by show mv_D_clashes _ _ _ _ _ _ _ _ _ _ _ _ _ _ _ _ = 0; rw [mr_clR hN (by omega) (by omega) hke_12 hte_12 ht_12 ho_12 hld_12, if_pos c_6]), lv_sub hl [0, 2, 3, 4, 5, 6, 7, 8] rfl⟩
    · refine lv_aload hx hb d_M_leastClash_39 (lv_at hl 0 rfl) ?_
      refine lv_iload_n hx hb d_M_leastClash_41 rfl (lv_at hl 5 rfl) ?_
      refine lv_iload hx hb d_M_leastClash_42 (lv_at hl 6 rfl) ?_
      refine lv_aload_n hx hb d_M_leastClash_44 rfl (lv_at hl 2 rfl) ?_
      refine va_get (D := (dC, dI)) (ci := 0) (v := .int nw) (C := R_M) (T := T_M) (N := 9) hx hb hts ti_M hown hK hP 0 rfl rfl 3 (by decide) (hts (Cond.fieldLink "MeasureRows" 26 "MeasureRows" "now" "I") mw_58) (fun _ h9 => h9) rfl d_M_leastClash_45 ?_
      refine vp_callSi (va_Run.run (va_runV (As := [.int a2, .int a3, .int nw]) (rest := []) (C := R_R) ⟨hx, hb, hml, hown, hts⟩ (mc_R_meets l s0 dC dI cI cR cL cZ a_12 ql_12 qk_12 (fco (j + 1)) (fla (j + 1)) (ffi (j + 1)) (nI k_12) (fra (j + 1)) (fkn (j + 1)) (cls (j + 1)) (cpa (j + 1)) t_12 ld_12 kd_12 a2 a3 nw ht_12) ⟨(mr_cB 3 (hts (Cond.code y_R_meets b_R_meets 4 (some .boolean)) mw_108) (hts (Cond.initialized y_R_meets.cls) mw_109) (hts (Cond.methodLink "MeasureRows" 193 y_R_meets) mw_127) rfl rfl (by decide +kernel) ⟨Nat.le_of_ble_eq_true rfl, Nat.le_of_ble_eq_true rfl⟩), (hts (Cond.instanceMethod y_R_meets) mw_111), (hts (Cond.selects "MeasureRows$Row" y_R_meets y_R_meets) mw_112)⟩ (mr_preV hBH hK (hPr_12.sub (ws' := [(a_12, .inr (2, [.int (fco (j + 1)), .int (fla (j + 1)), .int (ffi (j + 1)), .int (nI k_12), .int (fra (j + 1)), .int (fkn (j + 1)), .int (cls (j + 1)), .int (cpa (j + 1)), .int (nI t_12), .ref ql_12, .ref qk_12])), (ql_12, .inl (cI, 8, .inl ld_12)), (qk_12, .inl (cI, 8, .inl kd_12))]) [0, 1, 2] rfl) (ci := 2) (q0 := 0) rfl rfl) rfl rfl hl.1 rfl (lv_room (Nat.le_of_ble_eq_true rfl)) d_M_leastClash_48 ⟨Nat.le_of_ble_eq_true rfl, Nat.le_of_ble_eq_true rfl⟩)) (fun r_7 h_8 => ?_)
      subst h_8
      refine lv_if_eq (tgt := 57) hx hb d_M_leastClash_51 (by decide) (fun c_9 => ?_) (fun c_9 => ?_)
      · refine lv_iinc (v := nI ((j + 1) + 1)) (lv' := [(7, .int (nI ((j + 1) + 1))), (8, .ref a_12), (0, .ref (r 0)), (1, .int a0), (2, .int a1), (3, .int a2), (4, .int a3), (5, .int a4), (6, .int a5)]) hx hb d_M_leastClash_57 hl (k := 1) rfl ((nI_succ (j + 1)).symm) (by decide) rfl (fun ls hl => ?_)
        refine lv_goto (tgt := 3) hx hb d_M_leastClash_60 (by decide) ?_
        exact ih _ _ _ ⟨rfl, rfl, mr_none_succ hex9 (by show mv_D_clashes _ _ _ _ _ _ _ _ _ _ _ _ _ _ _ _ = 0; rw [mr_clR hN (by omega) (by omega) hke_12 hte_12 ht_12 ho_12 hld_12, if_neg c_6]; exact c_9), lv_sub hl [0, 2, 3, 4, 5, 6, 7, 8] rfl⟩
      · refine lv_iload hx hb d_M_leastClash_54 (lv_at hl 1 rfl) ?_
        exact W.iret (v := nI (j + 1)) hx hb hr (fun t ht _ => ⟨_, rfl, (mr_fst_hit hX.1 hj hex9 (by show ¬ mv_D_clashes _ _ _ _ _ _ _ _ _ _ _ _ _ _ _ _ = 0; rw [mr_clR hN (by omega) (by omega) hke_12 hte_12 ht_12 ho_12 hld_12, if_neg c_6]; exact c_9)).symm, ht⟩) (fun _ h => nomatch h) d_M_leastClash_56
  · obtain ⟨rfl, rfl, hex9, hl⟩ := hI
    refine lv_iload hx hb d_M_leastClash_3 (lv_at hl 0 rfl) ?_
    refine lv_aload_n hx hb d_M_leastClash_5 rfl (lv_at hl 1 rfl) ?_
    refine va_get (D := (dC, dI)) (ci := 0) (v := .int (nI n)) (C := R_M) (T := T_M) (N := 9) hx hb hts ti_M hown hK hP 0 rfl rfl 2 (by decide) (hts (Cond.fieldLink "MeasureRows" 22 "MeasureRows" "rowCount" "I") mw_57) (fun _ h9 => h9) rfl d_M_leastClash_6 ?_
    refine lv_icmp_gt (tgt := 63) hx hb d_M_leastClash_9 (by decide) (fun _ => ?_) (fun c_10 => absurd (nI_lt (by omega) (by have := hX.1; omega)) c_10)
    refine lv_iconst (v := (-1)) hx hb d_M_leastClash_63 (by decide) ?_
    exact W.iret (v := (-1)) hx hb hr (fun t ht _ => ⟨_, rfl, (mr_fst_no hex9).symm, ht⟩) (fun _ h => nomatch h) d_M_leastClash_64
