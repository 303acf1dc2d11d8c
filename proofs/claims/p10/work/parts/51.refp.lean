theorem mr_iu0 (a : Int32) : a.toInt + ((0 : Nat) : Int) ≤ (a.toNatClampNeg : Int) := by
  show a.toInt + 0 ≤ ((a.toInt.toNat : Nat) : Int)
  omega
theorem mr_iu {v a : Int32} {j : Nat} {N : Int} (h0 : ¬ a < 0) (h : ¬ v ≤ a) (hv : v.toInt + (j : Int) ≤ N) : (v / 100).toInt + ((j + 1 : Nat) : Int) ≤ N := by
  rw [Int32.lt_iff_toInt_lt] at h0
  rw [Int32.le_iff_toInt_le] at h
  have z0 : (0 : Int32).toInt = 0 := by decide
  have z1 : (100 : Int32).toInt = 100 := by decide
  rw [lg_idiv_nonneg (by omega) (by omega), z1]
  omega
theorem mr_iue {v a : Int32} {N : Nat} (h0 : ¬ a < 0) (hv : v.toInt + (N : Int) ≤ (N : Int)) : v ≤ a := by
  rw [Int32.lt_iff_toInt_lt] at h0
  rw [Int32.le_iff_toInt_le]
  have z0 : (0 : Int32).toInt = 0 := by decide
  omega
theorem mw_263 : Cond.fieldLink "MeasureRowsModel" 19 "MeasureRowsModel" "first" "[I" ∈ lw_tbl := by decide +kernel
theorem mw_264 : Cond.code y_D_lastOf b_D_lastOf 6 (some .int) ∈ lw_tbl := by decide +kernel
theorem mw_265 : Cond.initialized y_D_lastOf.cls ∈ lw_tbl := by decide +kernel
theorem mw_266 : Cond.methodLink "MeasureRowsModel" 87 y_D_lastOf ∈ lw_tbl := by decide +kernel
theorem mw_267 : Cond.instanceMethod y_D_lastOf ∈ lw_tbl := by decide +kernel
theorem mw_268 : Cond.selects "MeasureRowsModel" y_D_lastOf y_D_lastOf ∈ lw_tbl := by decide +kernel
theorem mw_269 : Cond.fieldLink "MeasureRowsModel" 13 "MeasureRowsModel" "code" "[I" ∈ lw_tbl := by decide +kernel
theorem mw_270 : Cond.fieldLink "MeasureRowsModel" 16 "MeasureRowsModel" "land" "[I" ∈ lw_tbl := by decide +kernel
theorem mw_271 : Cond.fieldLink "MeasureRowsModel" 22 "MeasureRowsModel" "kind" "[I" ∈ lw_tbl := by decide +kernel
theorem mw_272 : Cond.fieldLink "MeasureRowsModel" 25 "MeasureRowsModel" "rank" "[I" ∈ lw_tbl := by decide +kernel
theorem mw_273 : Cond.fieldLink "MeasureRowsModel" 84 "MeasureRowsModel" "now" "I" ∈ lw_tbl := by decide +kernel

