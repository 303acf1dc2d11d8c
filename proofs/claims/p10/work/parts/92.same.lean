/-! ### class and reference answer alike (by hand) -/
theorem v_day (a : Int32) : mv_D_isDay a = mv_M_isDay a := rfl
theorem v_lev (a : Int32) : (mv_M_levelOf a = 0 ↔ mv_D_digits a = 0) ∧ (mv_M_levelOf a = 3 ↔ mv_D_digits a = 6) := by
  unfold mv_M_levelOf mv_D_digits mv_D_in
  simp only [Int32.lt_iff_toInt_lt, show (10 : Int32).toInt = 10 by decide, show (99 : Int32).toInt = 99 by decide, show (1000 : Int32).toInt = 1000 by decide, show (9999 : Int32).toInt = 9999 by decide, show (100000 : Int32).toInt = 100000 by decide, show (999999 : Int32).toInt = 999999 by decide]
  generalize a.toInt = x
  by_cases h1 : x < 10
  · have g3 : x < 1000 := by omega
    have g5 : x < 100000 := by omega
    simp [h1, g3, g5]
  · by_cases h2 : 99 < x
    · by_cases h3 : x < 1000
      · have g5 : x < 100000 := by omega
        simp [h1, h2, h3, g5]
      · by_cases h4 : 9999 < x
        · by_cases h5 : x < 100000
          · simp [h1, h2, h3, h4, h5]
          · by_cases h6 : 999999 < x
            · simp [h1, h2, h3, h4, h5, h6]
            · simp [h1, h2, h3, h4, h5, h6]
        · simp [h1, h2, h3, h4]
    · simp [h1, h2]
theorem v_place (a : Int32) : mv_M_isPlace a = 0 ↔ mv_D_in a 0 23 = 0 ∧ ¬ a = 31 := by
  unfold mv_M_isPlace mv_M_isLand mv_M_isGroup mv_D_in
  have e31 : a = 31 ↔ a.toInt = 31 := ⟨fun h => by rw [h]; decide, fun h => Int32.toInt_inj.mp (by rw [h]; decide)⟩
  simp only [Int32.lt_iff_toInt_lt, Int32.le_iff_toInt_le, e31, show (0 : Int32).toInt = 0 by decide, show (16 : Int32).toInt = 16 by decide, show (24 : Int32).toInt = 24 by decide, show (23 : Int32).toInt = 23 by decide]
  generalize a.toInt = x
  by_cases h1 : x < 0
  · have g2 : x < 16 := by omega
    have g3 : ¬ x = 31 := by omega
    simp [h1, g2, g3]
  · by_cases h2 : x < 16
    · have g2 : ¬ 16 ≤ x := by omega
      have g3 : ¬ 23 < x := by omega
      simp [h1, h2, g2, g3]
    · have g2 : 16 ≤ x := by omega
      by_cases h3 : 24 ≤ x
      · have g3 : 23 < x := by omega
        by_cases h4 : x = 31
        · simp [h1, h2, g2, h3, g3, h4]
        · simp [h1, h2, g2, h3, g3, h4]
      · have g3 : ¬ 23 < x := by omega
        simp [h1, h2, g2, h3, g3]
theorem v_kind (a : Int32) (X : Int32) : (if a < 0 then 1 else if 8 ≤ a then 1 else X) = if mv_D_in a 0 7 = 0 then 1 else X := by
  unfold mv_D_in
  simp only [Int32.lt_iff_toInt_lt, Int32.le_iff_toInt_le, show (0 : Int32).toInt = 0 by decide, show (8 : Int32).toInt = 8 by decide, show (7 : Int32).toInt = 7 by decide]
  generalize a.toInt = x
  by_cases h1 : x < 0
  · simp [h1]
  · by_cases h2 : 8 ≤ x
    · have g : 7 < x := by omega
      simp [h1, h2, g]
    · have g : ¬ 7 < x := by omega
      simp [h1, h2, g]
theorem v_rankX (a X : Int32) : (if a < 0 then (1 : Int32) else if a < 10 then X else 1) = if mv_D_in a 0 9 = 0 then 1 else X := by
  unfold mv_D_in
  simp only [Int32.lt_iff_toInt_lt, show (0 : Int32).toInt = 0 by decide, show (10 : Int32).toInt = 10 by decide, show (9 : Int32).toInt = 9 by decide]
  generalize a.toInt = x
  by_cases h1 : x < 0
  · simp [h1]
  · by_cases h2 : x < 10
    · have g : ¬ 9 < x := by omega
      simp [h1, h2, g]
    · have g : 9 < x := by omega
      simp [h1, h2, g]
theorem v_last (a : Int32) : mv_M_isLastDay a = 0 ↔ mv_D_isDay a = 0 ∧ ¬ a = 20000 := by
  unfold mv_M_isLastDay
  rw [← v_day]
  by_cases h1 : mv_D_isDay a = 0
  · by_cases h2 : a = 20000 <;> simp [h1, h2]
  · simp [h1]
theorem v_full {n : Nat} (h : n ≤ 80) : (if nI n < 80 then (0 : Int32) else 2) = if nI n = 80 then 2 else 0 := by
  by_cases e : n = 80
  · subst e; decide
  · have hne : ¬ nI n = 80 := fun q => e ((nI_eq (b := 80) (by omega) (by omega)).mp q)
    rw [if_pos (show nI n < 80 from nI_lt (b := 80) (by omega) (by omega)), if_neg hne]
theorem vk_row {n : Nat} (hn : n ≤ 80) (a0 a1 a2 a3 a4 a5 a6 : Int32) : mt_D_row n a0 a1 a2 a3 a4 a5 a6 = mk_M_row n a0 a1 a2 a3 a4 a5 a6 := by
  unfold mt_D_row mk_M_row
  rw [v_full hn]
  generalize (if nI n = 80 then (2 : Int32) else 0) = Z
  simp only [v_kind, v_rankX, (v_lev a0).1, v_place, v_last, ← v_day]
  have e7 : a2 ≤ a3 ↔ ¬ a3 < a2 := Int32.not_lt.symm
  simp only [e7]
  by_cases d1 : mv_D_digits a0 = 0
  · simp [d1]
  by_cases d4 : mv_D_isDay a2 = 0
  · simp [d1, d4]
  by_cases d10 : mv_D_isDay a6 = 0
  · simp [d1, d4, d10]
  by_cases d7 : a3 < a2
  · simp [d1, d4, d10, d7]
  by_cases d8 : mv_D_in a4 0 7 = 0
  · simp [d1, d4, d10, d7, d8]
  by_cases d9 : mv_D_in a5 0 9 = 0
  · simp [d1, d4, d10, d7, d8, d9]
  by_cases d6 : a3 = 20000
  · subst d6
    by_cases d2 : mv_D_in a1 0 23 = 0 <;> by_cases d3 : a1 = 31 <;> by_cases d5 : mv_D_isDay 20000 = 0 <;> simp [d1, d4, d10, d7, d8, d9, d2, d3, d5]
  · by_cases d2 : mv_D_in a1 0 23 = 0 <;> by_cases d3 : a1 = 31 <;> by_cases d5 : mv_D_isDay a3 = 0 <;> simp [d1, d4, d10, d7, d8, d9, d2, d3, d5, d6]
theorem v_rowOK {n : Nat} {a0 a1 a2 a3 a4 a5 a6 : Int32} (h : mk_M_row n a0 a1 a2 a3 a4 a5 a6 = 0) : ¬ mv_M_levelOf a0 = 0 ∧ ¬ mv_M_isDay a6 = 0 ∧ ¬ a4 < 0 ∧ ¬ 8 ≤ a4 ∧ ¬ a5 < 0 ∧ a5 < 10 ∧ nI n < 80 := by
  unfold mk_M_row at h
  by_cases c1 : mv_M_levelOf a0 = 0
  · rw [if_pos c1] at h; exact absurd h (by decide)
  rw [if_neg c1] at h
  by_cases c2 : mv_M_isPlace a1 = 0
  · rw [if_pos c2] at h; exact absurd h (by decide)
  rw [if_neg c2] at h
  by_cases c3 : mv_M_isDay a2 = 0
  · rw [if_pos c3] at h; exact absurd h (by decide)
  rw [if_neg c3] at h
  by_cases c4 : mv_M_isLastDay a3 = 0
  · rw [if_pos c4] at h; exact absurd h (by decide)
  rw [if_neg c4] at h
  by_cases c5 : mv_M_isDay a6 = 0
  · rw [if_pos c5] at h; exact absurd h (by decide)
  rw [if_neg c5] at h
  by_cases c6 : a2 ≤ a3
  · rw [if_pos c6] at h
    by_cases c7 : a4 < 0
    · rw [if_pos c7] at h; exact absurd h (by decide)
    rw [if_neg c7] at h
    by_cases c8 : 8 ≤ a4
    · rw [if_pos c8] at h; exact absurd h (by decide)
    rw [if_neg c8] at h
    by_cases c9 : a5 < 0
    · rw [if_pos c9] at h; exact absurd h (by decide)
    rw [if_neg c9] at h
    by_cases c10 : a5 < 10
    · rw [if_pos c10] at h
      by_cases c11 : nI n < 80
      · exact ⟨c1, c5, c7, c8, c9, c10, c11⟩
      · rw [if_neg c11] at h; exact absurd h (by decide)
    · rw [if_neg c10] at h; exact absurd h (by decide)
  · rw [if_neg c6] at h; exact absurd h (by decide)
theorem v_day0 {a : Int32} (h : ¬ mv_M_isDay a = 0) : ¬ a < 0 := fun q => h (by unfold mv_M_isDay; rw [if_pos q])
section ROWS
variable {n : Nat} {nw a0 a1 a2 a3 a4 a5 a6 : Int32} {fco fla ffi fki fra fkn fe fa fk : Nat → Int32}
/-- no row is made: nothing changes -/
theorem mr_rowU (hn : n ≤ 80) (h : ¬ (mk_M_row n a0 a1 a2 a3 a4 a5 a6 = 0 ∧ mr_fst (fun j => mv_D_clashes fco fla ffi fki fra fe fa fk nw (j + 1) a0 a1 a2 a3 a4 a5) n = -1)) :
    mN_D_row_n n nw fco fla ffi fki fra fkn fe fa fk a0 a1 a2 a3 a4 a5 a6 = n ∧ mN_D_row_nw n nw fco fla ffi fki fra fkn fe fa fk a0 a1 a2 a3 a4 a5 a6 = nw ∧ mN_D_row_fco n nw fco fla ffi fki fra fkn fe fa fk a0 a1 a2 a3 a4 a5 a6 = fco ∧ mN_D_row_fla n nw fco fla ffi fki fra fkn fe fa fk a0 a1 a2 a3 a4 a5 a6 = fla ∧ mN_D_row_ffi n nw fco fla ffi fki fra fkn fe fa fk a0 a1 a2 a3 a4 a5 a6 = ffi ∧ mN_D_row_fki n nw fco fla ffi fki fra fkn fe fa fk a0 a1 a2 a3 a4 a5 a6 = fki ∧ mN_D_row_fra n nw fco fla ffi fki fra fkn fe fa fk a0 a1 a2 a3 a4 a5 a6 = fra ∧ mN_D_row_fkn n nw fco fla ffi fki fra fkn fe fa fk a0 a1 a2 a3 a4 a5 a6 = fkn ∧ mN_D_row_fe n nw fco fla ffi fki fra fkn fe fa fk a0 a1 a2 a3 a4 a5 a6 = fe ∧ mN_D_row_fa n nw fco fla ffi fki fra fkn fe fa fk a0 a1 a2 a3 a4 a5 a6 = fa ∧ mN_D_row_fk n nw fco fla ffi fki fra fkn fe fa fk a0 a1 a2 a3 a4 a5 a6 = fk := by
  rw [← vk_row hn] at h
  unfold mN_D_row_n mN_D_row_nw mN_D_row_fco mN_D_row_fla mN_D_row_ffi mN_D_row_fki mN_D_row_fra mN_D_row_fkn mN_D_row_fe mN_D_row_fa mN_D_row_fk
  by_cases c : mt_D_row n a0 a1 a2 a3 a4 a5 a6 = 0
  · have c2 : ¬ mr_fst (fun j => mv_D_clashes fco fla ffi fki fra fe fa fk nw (j + 1) a0 a1 a2 a3 a4 a5) n = -1 := fun q => h ⟨c, q⟩
    simp only [if_pos c, if_neg c2, and_self]
  · simp only [if_neg c, and_self]
/-- a row is made -/
theorem mr_rowC (hn : n ≤ 80) (h : mk_M_row n a0 a1 a2 a3 a4 a5 a6 = 0) (h2 : mr_fst (fun j => mv_D_clashes fco fla ffi fki fra fe fa fk nw (j + 1) a0 a1 a2 a3 a4 a5) n = -1) :
    mN_D_row_n n nw fco fla ffi fki fra fkn fe fa fk a0 a1 a2 a3 a4 a5 a6 = n + 1 ∧ mN_D_row_nw n nw fco fla ffi fki fra fkn fe fa fk a0 a1 a2 a3 a4 a5 a6 = (if nw < a6 then a6 else nw) ∧ mN_D_row_fco n nw fco fla ffi fki fra fkn fe fa fk a0 a1 a2 a3 a4 a5 a6 = upd fco (n + 1) a0 ∧ mN_D_row_fla n nw fco fla ffi fki fra fkn fe fa fk a0 a1 a2 a3 a4 a5 a6 = upd fla (n + 1) a1 ∧ mN_D_row_ffi n nw fco fla ffi fki fra fkn fe fa fk a0 a1 a2 a3 a4 a5 a6 = upd ffi (n + 1) a2 ∧ mN_D_row_fki n nw fco fla ffi fki fra fkn fe fa fk a0 a1 a2 a3 a4 a5 a6 = upd fki (n + 1) a4 ∧ mN_D_row_fra n nw fco fla ffi fki fra fkn fe fa fk a0 a1 a2 a3 a4 a5 a6 = upd fra (n + 1) a5 ∧ mN_D_row_fkn n nw fco fla ffi fki fra fkn fe fa fk a0 a1 a2 a3 a4 a5 a6 = upd fkn (n + 1) a6 ∧ mN_D_row_fe n nw fco fla ffi fki fra fkn fe fa fk a0 a1 a2 a3 a4 a5 a6 = upd fe (n + 1) 1 ∧ mN_D_row_fa n nw fco fla ffi fki fra fkn fe fa fk a0 a1 a2 a3 a4 a5 a6 = upd fa (8 * (n + 1)) a3 ∧ mN_D_row_fk n nw fco fla ffi fki fra fkn fe fa fk a0 a1 a2 a3 a4 a5 a6 = upd fk (8 * (n + 1)) a6 := by
  rw [← vk_row hn] at h
  unfold mN_D_row_n mN_D_row_nw mN_D_row_fco mN_D_row_fla mN_D_row_ffi mN_D_row_fki mN_D_row_fra mN_D_row_fkn mN_D_row_fe mN_D_row_fa mN_D_row_fk
  simp only [if_pos h, if_pos h2, and_self]
theorem v_rowV (hn : n ≤ 80) (h : mk_M_row n a0 a1 a2 a3 a4 a5 a6 = 0) : (if mr_fst (fun j => mv_D_clashes fco fla ffi fki fra fe fa fk nw (j + 1) a0 a1 a2 a3 a4 a5) n = -1 then nI (n + 1) else (-1) - mr_fst (fun j => mv_D_clashes fco fla ffi fki fra fe fa fk nw (j + 1) a0 a1 a2 a3 a4 a5) n) = mv_D_row n nw fco fla ffi fki fra fkn fe fa fk a0 a1 a2 a3 a4 a5 a6 := by
  have ht : mt_D_row n a0 a1 a2 a3 a4 a5 a6 = 0 := by rw [vk_row hn]; exact h
  unfold mv_D_row
  rw [if_pos ht]
theorem v_max {x y z : Int32} (h : ¬ x < z) : ¬ (if x < y then y else x) < z := by
  by_cases c : x < y
  · rw [if_pos c]
    rw [Int32.lt_iff_toInt_lt] at *
    omega
  · rw [if_neg c]; exact h
theorem v_max2 (x y : Int32) : ¬ (if x < y then y else x) < y := by
  by_cases c : x < y
  · rw [if_pos c]; exact Int32.lt_irrefl
  · rw [if_neg c]; exact c
theorem mr_NXrow (hN : mr_NX n nw fco fki fra fkn fe fk) (h : mk_M_row n a0 a1 a2 a3 a4 a5 a6 = 0) : mr_NX (n + 1) (if nw < a6 then a6 else nw) (upd fco (n + 1) a0) (upd fki (n + 1) a4) (upd fra (n + 1) a5) (upd fkn (n + 1) a6) (upd fe (n + 1) 1) (upd fk (8 * (n + 1)) a6) := by
  obtain ⟨c1, c5, c7, c8, c9, c10, c11⟩ := v_rowOK h
  have hn80 := mr_n80 c11 hN.1
  refine ⟨by omega, fun i h1 h2 => ?_⟩
  by_cases e : i = n + 1
  · subst e
    refine ⟨⟨1, by simp [upd]; rfl, by omega, by omega, fun j hj => ?_⟩, ?_, ?_, ⟨?_, ?_⟩, ?_, ?_⟩
    · obtain rfl : j = 0 := by omega
      have : upd fk (8 * (n + 1)) a6 (8 * (n + 1) + 0) = a6 := by simp [upd]
      rw [this]; exact v_day0 c5
    · obtain ⟨k, k8, ek⟩ := mr_k8 c7 c8
      exact ⟨k, by simp [upd, ek], k8⟩
    · have : upd fco (n + 1) a0 (n + 1) = a0 := by simp [upd]
      rw [this]; exact fun q => c1 ((v_lev a0).1.mpr q)
    · have : upd fra (n + 1) a5 (n + 1) = a5 := by simp [upd]
      rw [this]; exact c9
    · have : upd fra (n + 1) a5 (n + 1) = a5 := by simp [upd]
      rw [this]
      rw [Int32.lt_iff_toInt_lt] at c10 ⊢
      have z9 : (9 : Int32).toInt = 9 := by decide
      have z10 : (10 : Int32).toInt = 10 := by decide
      omega
    · have : upd fk (8 * (n + 1)) a6 (8 * (n + 1)) = a6 := by simp [upd]
      rw [this]; exact v_max2 nw a6
    · simp [upd]
  · obtain ⟨⟨t, et, t1, t8, hp⟩, ⟨k, ek, k8⟩, hd, hr, hw, hkn⟩ := hN.2 i h1 (by omega)
    have u : ∀ (g : Nat → Int32) (v : Int32), upd g (n + 1) v i = g i := fun g v => by simp [upd, e]
    have uk : ∀ j, j < 8 → upd fk (8 * (n + 1)) a6 (8 * i + j) = fk (8 * i + j) := fun j hj => by
      have : 8 * i + j ≠ 8 * (n + 1) := by omega
      simp [upd, this]
    have uk0 : upd fk (8 * (n + 1)) a6 (8 * i) = fk (8 * i) := uk 0 (by omega)
    rw [u, u, u, u, u, uk0]
    exact ⟨⟨t, et, t1, t8, fun j hj => by rw [uk j (by omega)]; exact hp j hj⟩, ⟨k, ek, k8⟩, hd, hr, v_max hw, hkn⟩
end ROWS
section ENDS
variable {n i : Nat} {nw a1 a2 : Int32} {fco fki fra fkn ffi fe fa fk : Nat → Int32}
theorem v_e8 {t : Nat} (et : fe i = nI t) (t8 : t ≤ 8) : fe i < 8 ↔ ¬ fe i = 8 := by
  rw [et]
  by_cases e : t = 8
  · subst e; decide
  · exact ⟨fun _ q => e ((nI_eq (b := 8) (by omega) (by omega)).mp q), fun _ => nI_lt (b := 8) (by omega) (by omega)⟩
theorem vk_end (hN : mr_NX n nw fco fki fra fkn fe fk) (h1 : 1 ≤ i) (hi : i ≤ n) : mN_D_end_y_th ffi fe fa fk nw i a1 a2 = mk_M_end_y fe i a1 a2 := by
  obtain ⟨⟨t, et, -, t8, -⟩, -⟩ := hN.2 i h1 hi
  unfold mN_D_end_y_th mk_M_end_y
  simp only [v_last, ← v_day, v_e8 et t8]
  by_cases d1 : mv_D_isDay a1 = 0 <;> by_cases d2 : a1 = 20000 <;> by_cases d3 : mv_D_isDay a2 = 0 <;> by_cases d4 : fe i = 8 <;> by_cases d5 : ffi i ≤ a1 <;> simp [d1, d2, d3, d4, d5]
theorem v_endV (hN : mr_NX n nw fco fki fra fkn fe fk) (h1 : 1 ≤ i) (hi : i ≤ n) (h : mk_M_end_y fe i a1 a2 = 0) : mv_M_end_y ffi fe i a1 = mv_D_end_y ffi fe fa fk nw i a1 a2 := by
  obtain ⟨⟨t, et, -, t8, -⟩, -⟩ := hN.2 i h1 hi
  unfold mk_M_end_y at h
  unfold mv_D_end_y mv_M_end_y
  simp only [v_last, ← v_day, v_e8 et t8] at h ⊢
  by_cases d1 : mv_D_isDay a1 = 0 <;> by_cases d2 : a1 = 20000 <;> by_cases d3 : mv_D_isDay a2 = 0 <;> by_cases d4 : fe i = 8 <;> by_cases d5 : ffi i ≤ a1 <;> simp [d1, d2, d3, d4, d5] at h ⊢
theorem v_endN (hN : mr_NX n nw fco fki fra fkn fe fk) (h1 : 1 ≤ i) (hi : i ≤ n) : mN_D_end_y_nw ffi fe fa fk nw i a1 a2 = (if mk_M_end_y fe i a1 a2 = 0 then mN_M_end_nw ffi nw i a1 a2 else nw) ∧ mN_D_end_y_fe ffi fe fa fk nw i a1 a2 = (if mk_M_end_y fe i a1 a2 = 0 then mN_M_end_fe ffi fe i a1 else fe) ∧ mN_D_end_y_fa ffi fe fa fk nw i a1 a2 = (if mk_M_end_y fe i a1 a2 = 0 then mN_M_end_fa ffi fe fa i a1 else fa) ∧ mN_D_end_y_fk ffi fe fa fk nw i a1 a2 = (if mk_M_end_y fe i a1 a2 = 0 then mN_M_end_fk ffi fe fk i a1 a2 else fk) := by
  obtain ⟨⟨t, et, -, t8, -⟩, -⟩ := hN.2 i h1 hi
  have h80 := hN.1
  have ei : (nI i).toNatClampNeg = i := nI_clamp (by omega)
  have ex : (nI (8 * i) + fe i).toNatClampNeg = 8 * i + (fe i).toNatClampNeg := by
    rw [et, nI_add, nI_clamp (by omega), nI_clamp (by omega)]
  have e7 : a2 ≤ nw ↔ ¬ nw < a2 := Int32.not_lt.symm
  unfold mN_D_end_y_nw mN_D_end_y_fe mN_D_end_y_fa mN_D_end_y_fk mk_M_end_y mN_M_end_nw mN_M_end_fe mN_M_end_fa mN_M_end_fk
  simp only [v_last, ← v_day, v_e8 et t8, ei, ex, e7]
  by_cases d1 : mv_D_isDay a1 = 0 <;> by_cases d2 : a1 = 20000 <;> by_cases d3 : mv_D_isDay a2 = 0 <;> by_cases d4 : fe i = 8 <;> by_cases d5 : ffi i ≤ a1 <;> by_cases d6 : nw < a2 <;> simp [d1, d2, d3, d4, d5, d6]
theorem v_endOK (h : mk_M_end_y fe i a1 a2 = 0) : ¬ mv_M_isDay a2 = 0 ∧ fe i < 8 := by
  unfold mk_M_end_y at h
  by_cases c1 : mv_M_isLastDay a1 = 0
  · rw [if_pos c1] at h; exact absurd h (by decide)
  rw [if_neg c1] at h
  by_cases c2 : mv_M_isDay a2 = 0
  · rw [if_pos c2] at h; exact absurd h (by decide)
  rw [if_neg c2] at h
  by_cases c3 : fe i < 8
  · exact ⟨c2, c3⟩
  · rw [if_neg c3] at h; exact absurd h (by decide)
theorem mr_NXend (hN : mr_NX n nw fco fki fra fkn fe fk) (h1 : 1 ≤ i) (hi : i ≤ n) : mr_NX n (if mk_M_end_y fe i a1 a2 = 0 then mN_M_end_nw ffi nw i a1 a2 else nw) fco fki fra fkn (if mk_M_end_y fe i a1 a2 = 0 then mN_M_end_fe ffi fe i a1 else fe) (if mk_M_end_y fe i a1 a2 = 0 then mN_M_end_fk ffi fe fk i a1 a2 else fk) := by
  by_cases c : mk_M_end_y fe i a1 a2 = 0
  · rw [if_pos c, if_pos c, if_pos c]
    unfold mN_M_end_nw mN_M_end_fe mN_M_end_fk
    by_cases c2 : ffi i ≤ a1
    · rw [if_pos c2, if_pos c2, if_pos c2]
      obtain ⟨c3, c4⟩ := v_endOK c
      obtain ⟨⟨t, et, t1, t8, hp⟩, -⟩ := id (hN.2 i h1 hi)
      have t7 : t < 8 := mr_t8 (by rw [← et]; exact Int32.not_le.mpr c4) t8
      have ec : (fe i).toNatClampNeg = t := by rw [et, nI_clamp (by omega)]
      rw [ec]
      refine ⟨hN.1, fun i' q1 q2 => ?_⟩
      obtain ⟨⟨t', et', t1', t8', hp'⟩, hk', hd', hr', hw', hkn'⟩ := hN.2 i' q1 q2
      have k0 : upd fk (8 * i + t) a2 (8 * i') = fk (8 * i') := by
        have : 8 * i' ≠ 8 * i + t := by omega
        simp [upd, this]
      rw [k0]
      refine ⟨?_, hk', hd', hr', v_max hw', hkn'⟩
      by_cases e : i' = i
      · subst e
        have eu : upd fe i' (fe i' + 1) i' = fe i' + 1 := by simp [upd]
        refine ⟨t + 1, by rw [eu, et]; exact nI_1 t, by omega, by omega, fun j hj => ?_⟩
        by_cases ej : j = t
        · subst ej
          have : upd fk (8 * i' + j) a2 (8 * i' + j) = a2 := by simp [upd]
          rw [this]; exact v_day0 c3
        · have : 8 * i' + j ≠ 8 * i' + t := by omega
          have : upd fk (8 * i' + t) a2 (8 * i' + j) = fk (8 * i' + j) := by simp [upd, ej]
          rw [this]; exact hp j (by omega)
      · refine ⟨t', by simp [upd, e, et'], t1', t8', fun j hj => ?_⟩
        have : 8 * i' + j ≠ 8 * i + t := by omega
        have : upd fk (8 * i + t) a2 (8 * i' + j) = fk (8 * i' + j) := by simp [upd, this]
        rw [this]; exact hp' j hj
    · rw [if_neg c2, if_neg c2, if_neg c2]; exact hN
  · rw [if_neg c, if_neg c, if_neg c]; exact hN
theorem vk_change {a0 a3 : Int32} : mN_D_change_th n nw ffi fe fa fk a0 a1 a3 = mk_M_change n nw ffi fe fa fk a0 a1 a3 := rfl
theorem v_changeV {a0 a3 : Int32} : mv_M_change n nw ffi fe fa fk a0 a1 a3 = mv_D_change n nw ffi fe fa fk a0 a1 a3 := rfl
end ENDS


