theorem mr_t9 {t : Nat} (h : ¬ nI t = 8) (h8 : t ≤ 8) : t < 8 := by
  rcases Nat.lt_or_ge t 8 with q | q
  · exact q
  · exact absurd (show nI t = 8 by rw [show t = 8 by omega]; rfl) h
theorem mr_n79 {n : Nat} (h : ¬ nI n = 80) (h8 : n ≤ 80) : n < 80 := by
  rcases Nat.lt_or_ge n 80 with q | q
  · exact q
  · exact absurd (show nI n = 80 by rw [show n = 80 by omega]; rfl) h
theorem mr_MIe {n i t : Nat} {fe fco : Nat → Int32} (hM : mr_MI n fe fco) (hi1 : 1 ≤ i) (hin : i ≤ n) (ht : t < 8) : mr_MI n (upd fe (nI i).toNatClampNeg (nI (t + 1))) fco := by
  rw [nI_clamp (by have := hM.1; omega)]
  refine ⟨hM.1, fun j h1 h2 => ⟨?_, (hM.2 j h1 h2).2⟩⟩
  by_cases h : j = i
  · exact ⟨t + 1, by simp [upd, h], by omega, by omega⟩
  · obtain ⟨t', e, q⟩ := (hM.2 j h1 h2).1
    exact ⟨t', by simp [upd, h, e], q⟩
theorem mr_dig {a : Int32} (h : ¬ mv_D_digits a = 0) : ¬ a < 0 := fun h0 => h (by
  unfold mv_D_digits mv_D_in
  rw [Int32.lt_iff_toInt_lt] at h0
  have z0 : (0 : Int32).toInt = 0 := by decide
  have e : ∀ k : Int32, 0 ≤ k.toInt → a < k ∨ k.toInt = 0 ∨ a < k := fun k hk => Or.inl (by rw [Int32.lt_iff_toInt_lt]; omega)
  have l : ∀ k : Int32, 0 ≤ k.toInt → a < k := fun k hk => by rw [Int32.lt_iff_toInt_lt]; omega
  rw [if_pos (l 10 (by decide)), if_pos rfl, if_pos (l 1000 (by decide)), if_pos rfl, if_pos (l 100000 (by decide)), if_pos rfl])
theorem mr_MIr {n : Nat} {fe fco : Nat → Int32} {a : Int32} (hM : mr_MI n fe fco) (hn : n < 80) (ha : ¬ mv_D_digits a = 0) : mr_MI (n + 1) (upd fe (nI (n + 1)).toNatClampNeg 1) (upd fco (nI (n + 1)).toNatClampNeg a) := by
  rw [nI_clamp (by omega)]
  refine ⟨by omega, fun j h1 h2 => ?_⟩
  by_cases h : j = n + 1
  · exact ⟨⟨1, by simp [upd, h]; rfl, by omega, by omega⟩, by simp [upd, h]; exact Int32.not_lt.mp (mr_dig ha)⟩
  · obtain ⟨⟨t', e, q⟩, q2⟩ := hM.2 j h1 (by omega)
    exact ⟨⟨t', by simp [upd, h, e], q⟩, by simp [upd, h]; exact Int32.not_lt.mp q2⟩
theorem mw_328 : Cond.code y_D_clashes b_D_clashes 8 (some .boolean) ∈ lw_tbl := by decide +kernel
theorem mw_329 : Cond.initialized y_D_clashes.cls ∈ lw_tbl := by decide +kernel
theorem mw_330 : Cond.methodLink "MeasureRowsModel" 100 y_D_clashes ∈ lw_tbl := by decide +kernel
theorem mw_331 : Cond.instanceMethod y_D_clashes ∈ lw_tbl := by decide +kernel
theorem mw_332 : Cond.selects "MeasureRowsModel" y_D_clashes y_D_clashes ∈ lw_tbl := by decide +kernel

