/-- the reference's rows: n of them; their ends and codes -/
def mr_MI (n : Nat) (fe fco : Nat → Int32) : Prop := n ≤ 80 ∧ ∀ i, 1 ≤ i → i ≤ n → (∃ t, fe i = nI t ∧ 1 ≤ t ∧ t ≤ 8) ∧ ¬ fco i < 0
theorem mr_mul8 (i : Nat) : (8 : Int32) * nI i = nI (8 * i) := by
  show Int32.ofNat 8 * Int32.ofNat i = Int32.ofNat (8 * i)
  rw [Int32.ofNat_mul]
theorem mr_nc {f : Nat → Int32} {i : Nat} (h : i ≤ 80) : f (nI i).toNatClampNeg = f i := by rw [nI_clamp (by omega)]
theorem mw_260 : Cond.fieldLink "MeasureRowsModel" 37 "MeasureRowsModel" "ends" "[I" ∈ lw_tbl := by decide +kernel
theorem mw_261 : Cond.fieldLink "MeasureRowsModel" 43 "MeasureRowsModel" "lastKnown" "[I" ∈ lw_tbl := by decide +kernel
theorem mw_262 : Cond.fieldLink "MeasureRowsModel" 40 "MeasureRowsModel" "last" "[I" ∈ lw_tbl := by decide +kernel

