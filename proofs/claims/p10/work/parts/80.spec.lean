/-! ### the rows one by one: what class and reference both hold (by hand) -/
/-- the number of the first that hits, or -1 -/
def mr_fst (P : Nat → Int32) : Nat → Int32
  | 0 => -1
  | n + 1 => if mr_fst P n = -1 then (if P n = 0 then -1 else nI (n + 1)) else mr_fst P n
theorem mr_fst_no {P : Nat → Int32} {n : Nat} (h : ∀ i, i < n → P i = 0) : mr_fst P n = -1 := by
  induction n with
  | zero => rfl
  | succ n ih =>
    show (if mr_fst P n = -1 then (if P n = 0 then -1 else nI (n + 1)) else mr_fst P n) = -1
    rw [if_pos (ih (fun i hi => h i (by omega))), if_pos (h n (by omega))]
theorem nI_ne1 {n : Nat} (h : n < 2147483648) : ¬ nI n = -1 := fun e => by
  have := congrArg Int32.toInt e
  rw [nI_toInt h] at this
  have z : (-1 : Int32).toInt = -1 := by decide
  omega
theorem mr_fst_hit {P : Nat → Int32} {n j : Nat} (hn : n ≤ 80) (hj : j < n) (h : ∀ i, i < j → P i = 0) (hp : ¬ P j = 0) : mr_fst P n = nI (j + 1) := by
  induction n with
  | zero => omega
  | succ n ih =>
    show (if mr_fst P n = -1 then (if P n = 0 then -1 else nI (n + 1)) else mr_fst P n) = _
    by_cases e : j = n
    · subst e
      rw [if_pos (mr_fst_no h), if_neg hp]
    · rw [ih (by omega) (by omega), if_neg (nI_ne1 (by omega))]
theorem mr_fst_congr {P Q : Nat → Int32} {n : Nat} (h : ∀ i, i < n → P i = Q i) : mr_fst P n = mr_fst Q n := by
  induction n with
  | zero => rfl
  | succ n ih =>
    show (if mr_fst P n = -1 then (if P n = 0 then -1 else nI (n + 1)) else mr_fst P n) = (if mr_fst Q n = -1 then (if Q n = 0 then -1 else nI (n + 1)) else mr_fst Q n)
    rw [ih (fun i hi => h i (by omega)), h n (by omega)]
theorem mr_none_succ {P : Nat → Int32} {j : Nat} (h : ∀ i, i < j → P i = 0) (hp : P j = 0) : ∀ i, i < j + 1 → P i = 0 := fun i hi => by
  by_cases e : i = j
  · rw [e]; exact hp
  · exact h i (by omega)
/-- which of the told days counts as of 'on', j further ones looked at -/
def mv_bs (fk : Nat → Int32) (b : Nat) (on : Int32) : Nat → Nat
  | 0 => 0
  | j + 1 => if fk (b + (j + 1)) ≤ on ∧ (on < fk (b + mv_bs fk b on j) ∨ fk (b + mv_bs fk b on j) ≤ fk (b + (j + 1))) then j + 1 else mv_bs fk b on j
theorem mv_bs_le (fk : Nat → Int32) (b : Nat) (on : Int32) (j : Nat) : mv_bs fk b on j ≤ j := by
  induction j with
  | zero => exact Nat.le_refl 0
  | succ j ih =>
    show (if fk (b + (j + 1)) ≤ on ∧ (on < fk (b + mv_bs fk b on j) ∨ fk (b + mv_bs fk b on j) ≤ fk (b + (j + 1))) then j + 1 else mv_bs fk b on j) ≤ j + 1
    split <;> omega
section BS
variable {fk : Nat → Int32} {b : Nat} {on : Int32} {j b9 : Nat}
theorem mv_bs_n1 (e : b9 = mv_bs fk b on j) (h1 : on < fk (b + (j + 1))) : b9 = mv_bs fk b on (j + 1) := by
  rw [e]
  show _ = (if fk (b + (j + 1)) ≤ on ∧ (on < fk (b + mv_bs fk b on j) ∨ fk (b + mv_bs fk b on j) ≤ fk (b + (j + 1))) then j + 1 else mv_bs fk b on j)
  rw [if_neg (fun h => absurd h.1 (Int32.not_le.mpr h1))]
theorem mv_bs_y1 (e : b9 = mv_bs fk b on j) (h1 : ¬ on < fk (b + (j + 1))) (h2 : on < fk (b + b9)) : j + 1 = mv_bs fk b on (j + 1) := by
  rw [e] at h2
  show _ = (if fk (b + (j + 1)) ≤ on ∧ (on < fk (b + mv_bs fk b on j) ∨ fk (b + mv_bs fk b on j) ≤ fk (b + (j + 1))) then j + 1 else mv_bs fk b on j)
  rw [if_pos ⟨Int32.not_lt.mp h1, Or.inl h2⟩]
theorem mv_bs_y2 (e : b9 = mv_bs fk b on j) (h1 : ¬ on < fk (b + (j + 1))) (h2 : ¬ fk (b + (j + 1)) < fk (b + b9)) : j + 1 = mv_bs fk b on (j + 1) := by
  rw [e] at h2
  show _ = (if fk (b + (j + 1)) ≤ on ∧ (on < fk (b + mv_bs fk b on j) ∨ fk (b + mv_bs fk b on j) ≤ fk (b + (j + 1))) then j + 1 else mv_bs fk b on j)
  rw [if_pos ⟨Int32.not_lt.mp h1, Or.inr (Int32.not_lt.mp h2)⟩]
theorem mv_bs_n2 (e : b9 = mv_bs fk b on j) (h1 : ¬ on < fk (b + b9)) (h2 : fk (b + (j + 1)) < fk (b + b9)) : b9 = mv_bs fk b on (j + 1) := by
  rw [e] at h1 h2 ⊢
  show _ = (if fk (b + (j + 1)) ≤ on ∧ (on < fk (b + mv_bs fk b on j) ∨ fk (b + mv_bs fk b on j) ≤ fk (b + (j + 1))) then j + 1 else mv_bs fk b on j)
  rw [if_neg (fun h => h.2.elim h1 (fun h => absurd h (Int32.not_le.mpr h2)))]
end BS
/-- the last day of row i as of 'on' -/
def mv_D_lastOf (fe fa fk : Nat → Int32) (i : Nat) (on : Int32) : Int32 := fa (8 * i + mv_bs fk (8 * i) on ((fe i).toNatClampNeg - 1))
/-- class and reference choose the same one -/
theorem mv_la_bs {ld kd fa fk : Nat → Int32} {b : Nat} {on : Int32} (h0 : ¬ on < fk b) (m : Nat) (h : ∀ j, j < m + 1 → ld j = fa (b + j) ∧ kd j = fk (b + j)) (hp : ∀ j, j < m + 1 → ¬ fk (b + j) < 0) :
    mv_la ld kd on (m + 1) = (fa (b + mv_bs fk b on m), fk (b + mv_bs fk b on m)) ∧ ¬ on < fk (b + mv_bs fk b on m) := by
  induction m with
  | zero =>
    obtain ⟨e1, e2⟩ := h 0 (by omega)
    have hp0 := hp 0 (by omega)
    have hl : ¬ kd 0 < (mv_la ld kd on 0).2 := by
      show ¬ kd 0 < -1
      rw [e2]
      intro hh
      rw [Int32.lt_iff_toInt_lt] at hh hp0
      have z1 : (-1 : Int32).toInt = -1 := by decide
      have z0 : (0 : Int32).toInt = 0 := by decide
      omega
    refine ⟨?_, h0⟩
    rw [mv_la_y (by rw [e2]; exact h0) hl, e1, e2]
    rfl
  | succ m ih =>
    obtain ⟨i1, i2⟩ := ih (fun j hj => h j (by omega)) (fun j hj => hp j (by omega))
    obtain ⟨e1, e2⟩ := h (m + 1) (by omega)
    have e3 : (mv_la ld kd on (m + 1)).2 = fk (b + mv_bs fk b on m) := by rw [i1]
    by_cases c1 : on < fk (b + (m + 1))
    · rw [mv_la_n1 (by rw [e2]; exact c1), ← mv_bs_n1 rfl c1]
      exact ⟨i1, i2⟩
    · by_cases c2 : fk (b + (m + 1)) < fk (b + mv_bs fk b on m)
      · rw [mv_la_n2 (by rw [e2, e3]; exact c2), ← mv_bs_n2 rfl i2 c2]
        exact ⟨i1, i2⟩
      · rw [mv_la_y (by rw [e2]; exact c1) (by rw [e2, e3]; exact c2), ← mv_bs_y2 rfl c1 c2, e1, e2]
        exact ⟨rfl, c1⟩
/-- one row: its cell and its two arrays -/
def mr_row1 (cI : ClassId) (f : Nat → va_E) (a ql qk : Nat) (fco fla ffi fki fra fkn cls cpa fe fa fk : Nat → Int32) (i : Nat) : Prop :=
  f a = .inr (2, [.int (fco i), .int (fla i), .int (ffi i), .int (fki i), .int (fra i), .int (fkn i), .int (cls i), .int (cpa i), .int (fe i), .ref ql, .ref qk]) ∧ ∃ ld kd : Nat → Int32, f ql = .inl (cI, 8, .inl ld) ∧ f qk = .inl (cI, 8, .inl kd) ∧ ∀ j, j < (fe i).toNatClampNeg → ld j = fa (8 * i + j) ∧ kd j = fk (8 * i + j)
/-- the class's rows 1 to n, exactly -/
def mr_RX (cI : ClassId) (n : Nat) (L : List Nat) (f : Nat → va_E) (fr : Nat → Option Nat) (fco fla ffi fki fra fkn cls cpa fe fa fk : Nat → Int32) : Prop :=
  n ≤ 80 ∧ ∃ ad : Nat → Nat, (∀ x y, 3 ≤ x → x < 3 * n + 3 → 3 ≤ y → y < 3 * n + 3 → ad x = ad y → x = y) ∧ ∀ i, 1 ≤ i → i ≤ n → fr (i - 1) = some (ad (3 * i)) ∧ ad (3 * i) ∈ L ∧ ad (3 * i + 1) ∈ L ∧ ad (3 * i + 2) ∈ L ∧ mr_row1 cI f (ad (3 * i)) (ad (3 * i + 1)) (ad (3 * i + 2)) fco fla ffi fki fra fkn cls cpa fe fa fk i
/-- what the numbers of the rows keep to -/
def mr_NX (n : Nat) (nw : Int32) (fco fki fra fkn fe fk : Nat → Int32) : Prop :=
  n ≤ 80 ∧ ∀ i, 1 ≤ i → i ≤ n → (∃ t : Nat, fe i = nI t ∧ 1 ≤ t ∧ t ≤ 8 ∧ ∀ j, j < t → ¬ fk (8 * i + j) < 0) ∧ (∃ k : Nat, fki i = nI k ∧ k < 8) ∧ ¬ mv_D_digits (fco i) = 0 ∧ (¬ fra i < 0 ∧ ¬ 9 < fra i) ∧ ¬ nw < fk (8 * i) ∧ fkn i = fk (8 * i)
section RX
variable {cI : ClassId} {n : Nat} {nw : Int32} {L : List Nat} {f f' : Nat → va_E} {fr : Nat → Option Nat} {fco fla ffi fki fra fkn cls cpa fe fa fk fco' fla' ffi' fki' fra' fkn' cls' cpa' fe' fa' fk' : Nat → Int32}
theorem mr_NX.mi (h : mr_NX n nw fco fki fra fkn fe fk) : mr_MI n fe fco := ⟨h.1, fun i h1 h2 => by
  obtain ⟨⟨t, e, t1, t8, -⟩, -, hd, -⟩ := h.2 i h1 h2
  exact ⟨⟨t, e, t1, t8⟩, mr_dig hd⟩⟩
/-- row i, found -/
theorem mr_fy (hX : mr_RX cI n L f fr fco fla ffi fki fra fkn cls cpa fe fa fk) (hN : mr_NX n nw fco fki fra fkn fe fk) {i : Nat} (h1 : 1 ≤ i) (hi : i ≤ n) :
    ∃ (a ql qk k t : Nat) (ld kd : Nat → Int32), mv_M_find n fr (nI i) = some a ∧ fr (i - 1) = some a ∧ a ∈ L ∧ ql ∈ L ∧ qk ∈ L ∧ f a = .inr (2, [.int (fco i), .int (fla i), .int (ffi i), .int (nI k), .int (fra i), .int (fkn i), .int (cls i), .int (cpa i), .int (nI t), .ref ql, .ref qk]) ∧ f ql = .inl (cI, 8, .inl ld) ∧ f qk = .inl (cI, 8, .inl kd) ∧ fki i = nI k ∧ fe i = nI t ∧ k < 8 ∧ t ≤ 8 ∧ 1 ≤ t ∧ ql ≠ qk ∧ ∀ j, j < t → ld j = fa (8 * i + j) ∧ kd j = fk (8 * i + j) := by
  obtain ⟨h8, ad, inj, hr⟩ := hX
  obtain ⟨e, m1, m2, m3, e1, ld, kd, e2, e3, ht⟩ := hr i h1 hi
  obtain ⟨⟨t, et, t1, t8, -⟩, ⟨k, ek, k8⟩, -⟩ := hN.2 i h1 hi
  rw [et, nI_clamp (by omega)] at ht
  refine ⟨_, _, _, k, t, ld, kd, ?_, e, m1, m2, m3, by rw [e1, ek, et], e2, e3, ek, et, k8, t8, t1, fun h => ?_, ht⟩
  · unfold mv_M_find
    rw [if_neg (show ¬ nI i < 1 from nI_nlt (b := 1) h1 (by omega)), if_neg (nI_nlt hi (by omega))]
    obtain ⟨j, rfl⟩ : ∃ j, i = j + 1 := ⟨i - 1, by omega⟩
    rw [nI_pred, nI_clamp (by omega)]
    exact e
  · have := inj _ _ (by omega) (by omega) (by omega) (by omega) h
    omega
theorem mr_fn (fr : Nat → Option Nat) {x : Int32} (h : mv_D_isRow n x = 0) : mv_M_find n fr x = none := by
  unfold mv_D_isRow at h
  unfold mv_M_find
  by_cases h1 : x < 1
  · rw [if_pos h1]
  · rw [if_neg h1] at h ⊢
    by_cases h2 : nI n < x
    · rw [if_pos h2]
    · rw [if_neg h2] at h
      exact absurd h (by decide)
/-- row i has been written: its cells, its numbers -/
theorem mr_RXset (hX : mr_RX cI n L f fr fco fla ffi fki fra fkn cls cpa fe fa fk) {i a ql qk : Nat} {v3 v8 : Int32} (h1 : 1 ≤ i) (hi : i ≤ n) (ha : fr (i - 1) = some a)
    (e1 : f a = .inr (2, [.int (fco i), .int (fla i), .int (ffi i), .int v3, .int (fra i), .int (fkn i), .int (cls i), .int (cpa i), .int v8, .ref ql, .ref qk]))
    (hf : ∀ x, x ≠ a → x ≠ ql → x ≠ qk → f' x = f x)
    (ho : ∀ i', 1 ≤ i' → i' ≤ n → i' ≠ i → fco' i' = fco i' ∧ fla' i' = fla i' ∧ ffi' i' = ffi i' ∧ fki' i' = fki i' ∧ fra' i' = fra i' ∧ fkn' i' = fkn i' ∧ cls' i' = cls i' ∧ cpa' i' = cpa i' ∧ fe' i' = fe i' ∧ ∀ j, j < (fe i').toNatClampNeg → fa' (8 * i' + j) = fa (8 * i' + j) ∧ fk' (8 * i' + j) = fk (8 * i' + j))
    (hrow : mr_row1 cI f' a ql qk fco' fla' ffi' fki' fra' fkn' cls' cpa' fe' fa' fk' i) : mr_RX cI n L f' fr fco' fla' ffi' fki' fra' fkn' cls' cpa' fe' fa' fk' := by
  obtain ⟨h8, ad, inj, hr⟩ := hX
  obtain ⟨e, -, -, -, e1', -⟩ := hr i h1 hi
  have ea : a = ad (3 * i) := by rw [e] at ha; exact (Option.some.inj ha).symm
  rw [← ea] at e1'
  have el := e1.symm.trans e1'
  simp only [Sum.inr.injEq, Prod.mk.injEq, List.cons.injEq, Value.ref.injEq, true_and, and_true] at el
  obtain ⟨-, -, eql, eqk⟩ := el
  refine ⟨h8, ad, inj, fun i' q1 q2 => ?_⟩
  obtain ⟨g0, g1, g2, g3, g4, ld, kd, g5, g6, g7⟩ := hr i' q1 q2
  refine ⟨g0, g1, g2, g3, ?_⟩
  by_cases h : i' = i
  · subst h
    rw [← ea, ← eql, ← eqk]
    exact hrow
  · obtain ⟨p0, p1, p2, p3, p4, p5, p6, p7, p8, p9⟩ := ho i' q1 q2 h
    have nn : ∀ u v : Nat, u < 3 → v < 3 → ad (3 * i' + u) ≠ ad (3 * i + v) := fun u v hu hv q => by
      have := inj _ _ (by omega) (by omega) (by omega) (by omega) q
      omega
    have k0 := hf (ad (3 * i')) (by rw [ea]; exact nn 0 0 (by omega) (by omega)) (by rw [eql]; exact nn 0 1 (by omega) (by omega)) (by rw [eqk]; exact nn 0 2 (by omega) (by omega))
    have k1 := hf (ad (3 * i' + 1)) (by rw [ea]; exact nn 1 0 (by omega) (by omega)) (by rw [eql]; exact nn 1 1 (by omega) (by omega)) (by rw [eqk]; exact nn 1 2 (by omega) (by omega))
    have k2 := hf (ad (3 * i' + 2)) (by rw [ea]; exact nn 2 0 (by omega) (by omega)) (by rw [eql]; exact nn 2 1 (by omega) (by omega)) (by rw [eqk]; exact nn 2 2 (by omega) (by omega))
    refine ⟨by rw [k0, g4, p0, p1, p2, p3, p4, p5, p6, p7, p8], ld, kd, by rw [k1, g5], by rw [k2, g6], fun j hj => ?_⟩
    rw [p8] at hj
    rw [(p9 j hj).1, (p9 j hj).2]
    exact g7 j hj
/-- RX says all that RI says -/
theorem mr_RX.ri (hX : mr_RX cI n L f fr fco fla ffi fki fra fkn cls cpa fe fa fk) (hN : mr_NX n nw fco fki fra fkn fe fk) : mr_RI cI n L f fr := ⟨hX.1, fun i hi => by
  obtain ⟨a, ql, qk, k, t, ld, kd, -, e, m1, m2, m3, e1, e2, e3, -, -, k8, t8, t1, hne, -⟩ := mr_fy hX hN (i := i + 1) (by omega) (by omega)
  exact ⟨a, ql, qk, _, _, _, _, _, _, _, k, t, ld, kd, e, m1, m2, m3, e1, e2, e3, k8, t8, t1, hne⟩⟩
end RX


