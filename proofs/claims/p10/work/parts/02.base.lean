/-! MY BASE ROWS: small numbers -/
def mr_ushr (x y : Int32) : Int32 := (x.toUInt32 >>> (y.toUInt32 &&& Int32.toUInt32 31)).toInt32
def mr_b01 (x : Int32) : Prop := x = 0 ∨ x = 1
theorem mr_b0 : mr_b01 0 := Or.inl rfl
theorem mr_b1 : mr_b01 1 := Or.inr rfl
theorem mr_bi {q : Prop} [Decidable q] {x y : Int32} (h1 : mr_b01 x) (h2 : mr_b01 y) : mr_b01 (if q then x else y) := by
  by_cases h : q
  · rw [if_pos h]; exact h1
  · rw [if_neg h]; exact h2
theorem mr_narz {v : Int32} (h : mr_b01 v) : narrow .boolean (.int v) = .int v := by
  rcases h with h | h <;> rw [h] <;> rfl
theorem mr_ne {x k : Int32} {z : Int} (hz : k.toInt = z) (h : ¬ x = k) : x.toInt ≠ z := fun q => h (Int32.toInt_inj.mp (by rw [q, hz]))
