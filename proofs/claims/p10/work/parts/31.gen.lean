/-- the rows: n of them, each with its two arrays, among the cells L of contents f -/
def mr_RI (cI : ClassId) (n : Nat) (L : List Nat) (f : Nat → va_E) (fr : Nat → Option Nat) : Prop := n ≤ 80 ∧ ∀ i, i < n → ∃ (a ql qk : Nat) (v0 v1 v2 v4 v5 v6 v7 : Int32) (k t : Nat) (ld kd : Nat → Int32), fr i = some a ∧ a ∈ L ∧ ql ∈ L ∧ qk ∈ L ∧ f a = .inr (2, [.int v0, .int v1, .int v2, .int (nI k), .int v4, .int v5, .int v6, .int v7, .int (nI t), .ref ql, .ref qk]) ∧ f ql = .inl (cI, 8, .inl ld) ∧ f qk = .inl (cI, 8, .inl kd) ∧ k < 8 ∧ t ≤ 8 ∧ 1 ≤ t ∧ ql ≠ qk
theorem mr_row3 {D : va_G} {cl : List vw_C} {X : va_W} {L : List Nat} {f : Nat → va_E} {H : Heap} {a b d : Nat} {ea eb ed : va_E} (hP : va_P D cl (X ++ va_pl L f) H) (ha : a ∈ L) (hb : b ∈ L) (hd : d ∈ L) (ea' : f a = ea) (eb' : f b = eb) (ed' : f d = ed) : va_P D cl [(a, ea), (b, eb), (d, ed)] H := by
  obtain ⟨k1, h1⟩ := va_pl_get (X := X) (f := f) ha
  obtain ⟨k2, h2⟩ := va_pl_get (X := X) (f := f) hb
  obtain ⟨k3, h3⟩ := va_pl_get (X := X) (f := f) hd
  rw [ea'] at h1
  rw [eb'] at h2
  rw [ed'] at h3
  intro k q hq
  match k, hq with
  | 0, hq => cases hq; exact hP _ _ h1
  | 1, hq => cases hq; exact hP _ _ h2
  | 2, hq => cases hq; exact hP _ _ h3
  | k + 3, hq => simp at hq
theorem mr_fi {x : Int32} {n : Nat} (hn : n ≤ 80) (h1 : ¬ x < 1) (h2 : ¬ nI n < x) : ∃ i, i < n ∧ x = nI (i + 1) := by
  obtain ⟨j, hj, rfl⟩ := nI_of (x := x) (fun h => h1 (by
    rw [Int32.lt_iff_toInt_lt] at h ⊢
    have a1 : (1 : Int32).toInt = 1 := by decide
    have a0 : (0 : Int32).toInt = 0 := by decide
    omega))
  rw [Int32.lt_iff_toInt_lt, nI_toInt hj] at h1
  rw [nI_ltI (by omega) hj] at h2
  have a1 : (1 : Int32).toInt = 1 := by decide
  refine ⟨j - 1, by omega, ?_⟩
  rw [show j - 1 + 1 = j by omega]
theorem mr_fb {x : Int32} {n : Nat} (hn : n ≤ 80) (h1 : ¬ x < 1) (h2 : ¬ nI n < x) : vp_in (x - 1) 80 := by
  obtain ⟨i, hi, rfl⟩ := mr_fi hn h1 h2
  rw [nI_pred]
  exact nI_in (by omega) (by decide)

def mv_M_find (n : Nat) (fr : Nat → Option Nat) (a0 : Int32) : Option Nat := if a0 < 1 then none else if (nI n) < a0 then none else (fr (a0 - 1).toNatClampNeg)
set_option maxHeartbeats 4000000 in
set_option maxRecDepth 100000 in
theorem mc_M_find (l : Launch) (s0 : State) (dC : Nat → ClassId) (dI : Nat → Nat → Nat) (cI cR cL cZ : ClassId) (r : Nat → Nat) (n : Nat) (nw pb lc : Int32) (fr : Nat → Option Nat) (a0 : Int32) (hn : n ≤ 80) : Met l y_M_find [Cond.code y_M_find b_M_find 2 (some (.object "MeasureRows$Row"))] ({ frames := 0, cells := 0, slots := 0, locals := 0 }) (mr_PW s0 (dC, dI) [(cI, .int), (cR, .object "MeasureRows$Row"), (cL, .long), (cZ, .boolean)] [.ref (r 0), .int a0] [((r 0), .inr (0, mf_M r (nI n) nw pb lc)), ((r 4), .inl (cR, 80, .inr (.inr (.inr (.inr fr)))))]) (va_Sq (fun r => r = mv_M_find n fr a0)) 0 0 (fun _ => False) := by
  refine Met.ofW (cc := b_M_find) (maxL := 2) (ret := (some (.object "MeasureRows$Row"))) (by decide) rfl ?_
  intro p e s m args below meth c s₁ B hml hv
  obtain ⟨rfl, hB, hK, hP⟩ := hv
  have hBH := hB.here
  have hx := B.exec
  have hb := B.bytes
  have hr := B.returns
  have hlocks := B.notSynchronized
  have hts : ∀ w ∈ lw_tbl, w.before [.ref (r 0), .int a0].toArray s = true := hB.hts _
  have hown : s.vm.findClass "MeasureRows" = some m.cls := findClass_of_methodNamed B.named
  have hl := lv_entry ([.ref (r 0), .int a0]) (n := 2) (Nat.le_of_ble_eq_true rfl)
  rw [lg_entry_eq]
  generalize (lg_sl ([.ref (r 0), .int a0]) ++ List.replicate (2 - (lg_sl ([.ref (r 0), .int a0])).length) Slot.unset).toArray = ls at hl ⊢
  have hl : lv_has ls 2 [(0, .ref (r 0)), (1, .int a0)] := hl
  refine lv_iload_n hx hb d_M_find_0 rfl (lv_at hl 1 rfl) ?_
  refine lv_iconst (v := 1) hx hb d_M_find_1 (by decide) ?_
  refine lv_icmp_lt (tgt := 24) hx hb d_M_find_2 (by decide) (fun c_1 => ?_) (fun c_1 => ?_)
  · refine lv_null hx hb d_M_find_24 ?_
    exact W.aret (v := .null) hx hb hr (Or.inl ⟨_, rfl⟩) (Or.inl rfl) (fun t ht _ => ⟨none, rfl, by unfold mv_M_find; rw [if_pos c_1], ht⟩) (fun _ h => nomatch h) d_M_find_25
  · refine lv_iload_n hx hb d_M_find_5 rfl (lv_at hl 1 rfl) ?_
    refine lv_aload_n hx hb d_M_find_6 rfl (lv_at hl 0 rfl) ?_
    refine va_get (D := (dC, dI)) (ci := 0) (v := .int (nI n)) (C := R_M) (T := T_M) (N := 9) hx hb hts ti_M hown hK hP 0 rfl rfl 2 (by decide) (hts (Cond.fieldLink "MeasureRows" 22 "MeasureRows" "rowCount" "I") mw_57) (fun _ h9 => h9) rfl d_M_find_7 ?_
    refine lv_icmp_gt (tgt := 24) hx hb d_M_find_10 (by decide) (fun c_2 => ?_) (fun c_2 => ?_)
    · refine lv_null hx hb d_M_find_24 ?_
      exact W.aret (v := .null) hx hb hr (Or.inl ⟨_, rfl⟩) (Or.inl rfl) (fun t ht _ => ⟨none, rfl, by unfold mv_M_find; rw [if_neg c_1, if_pos c_2], ht⟩) (fun _ h => nomatch h) d_M_find_25
    · refine lv_aload_n hx hb d_M_find_13 rfl (lv_at hl 0 rfl) ?_
      refine va_get (D := (dC, dI)) (ci := 0) (v := .ref (r 4)) (C := R_M) (T := T_M) (N := 9) hx hb hts ti_M hown hK hP 0 rfl rfl 1 (by decide) (hts (Cond.fieldLink "MeasureRows" 18 "MeasureRows" "rows" "[LMeasureRows$Row;") mw_56) (fun _ h9 => h9) rfl d_M_find_14 ?_
      refine lv_iload_n hx hb d_M_find_17 rfl (lv_at hl 1 rfl) ?_
      refine lv_iconst (v := 1) hx hb d_M_find_18 (by decide) ?_
      refine lv_isub hx hb d_M_find_19 ?_
      refine va_aldq (D := (dC, dI)) hx hb hK hP 1 1 rfl rfl (i := a0 - 1) (mr_fb hn c_1 c_2) d_M_find_20 ?_
      refine lv_goto (tgt := 25) hx hb d_M_find_21 (by decide) ?_
      exact W.aret (v := va_rf (fr (a0 - 1).toNatClampNeg)) hx hb hr (Or.inl ⟨_, rfl⟩) (mr_rfv _) (fun t ht _ => ⟨_, rfl, by unfold mv_M_find; rw [if_neg c_1, if_neg c_2], ht⟩) (fun _ h => nomatch h) d_M_find_25
theorem mr_fc {cI : ClassId} {n : Nat} {L : List Nat} {f : Nat → va_E} {fr : Nat → Option Nat} (hR : mr_RI cI n L f fr) (x : Int32) : mv_M_find n fr x = none ∨ ∃ i, i < n ∧ x = nI (i + 1) ∧ ∃ (a ql qk : Nat) (v0 v1 v2 v4 v5 v6 v7 : Int32) (k t : Nat) (ld kd : Nat → Int32), mv_M_find n fr x = some a ∧ fr i = some a ∧ a ∈ L ∧ ql ∈ L ∧ qk ∈ L ∧ f a = .inr (2, [.int v0, .int v1, .int v2, .int (nI k), .int v4, .int v5, .int v6, .int v7, .int (nI t), .ref ql, .ref qk]) ∧ f ql = .inl (cI, 8, .inl ld) ∧ f qk = .inl (cI, 8, .inl kd) ∧ k < 8 ∧ t ≤ 8 ∧ 1 ≤ t ∧ ql ≠ qk := by
  unfold mv_M_find
  by_cases h1 : x < 1
  · rw [if_pos h1]; exact Or.inl rfl
  · rw [if_neg h1]
    by_cases h2 : nI n < x
    · rw [if_pos h2]; exact Or.inl rfl
    · rw [if_neg h2]
      obtain ⟨i, hi, rfl⟩ := mr_fi hR.1 h1 h2
      obtain ⟨a, ql, qk, v0, v1, v2, v4, v5, v6, v7, k, t, ld, kd, e, rest⟩ := hR.2 i hi
      refine Or.inr ⟨i, hi, rfl, a, ql, qk, v0, v1, v2, v4, v5, v6, v7, k, t, ld, kd, ?_, e, rest⟩
      rw [nI_pred, nI_clamp (by have := hR.1; omega)]
      exact e
