/-- the kind of the x-th candidate (99: none) -/
def mr_K (n : Nat) (fr : Nat → Option Nat) (f : Nat → va_E) (fc : Nat → Int32) (x : Nat) : Nat := match mv_M_find n fr (fc x) with
  | none => 99
  | some a => match f a with
    | .inr o => match (o.2[3]? : Option Value) with
      | some (Value.int v) => v.toNatClampNeg
      | _ => 99
    | _ => 99
theorem mr_K_eq {n : Nat} {fr : Nat → Option Nat} {f : Nat → va_E} {fc : Nat → Int32} {x a k : Nat} {v0 v1 v2 : Int32} {w : List Value} (h : mv_M_find n fr (fc x) = some a) (e : f a = .inr (2, .int v0 :: .int v1 :: .int v2 :: .int (nI k) :: w)) (hk : k < 8) : mr_K n fr f fc x = k := by
  unfold mr_K
  rw [h]
  show (match f a with
    | .inr o => match (o.2[3]? : Option Value) with
      | some (Value.int v) => v.toNatClampNeg
      | _ => 99
    | _ => 99) = k
  rw [e]
  exact nI_clamp (n := k) (by omega)
def mr_c1 (K : Nat → Nat) (d : Nat) : Nat → Nat
  | 0 => 0
  | m + 1 => mr_c1 K d m + if K m < d then 1 else 0
def mr_c2 (K : Nat → Nat) (d : Nat) : Nat → Nat
  | 0 => 0
  | m + 1 => mr_c2 K d m + if K m = d then 1 else 0
theorem mr_c_le (K : Nat → Nat) (d m : Nat) : mr_c1 K d m + mr_c2 K d m ≤ m := by
  induction m with
  | zero => exact Nat.le_refl 0
  | succ m ih =>
    show mr_c1 K d m + (if K m < d then 1 else 0) + (mr_c2 K d m + if K m = d then 1 else 0) ≤ m + 1
    by_cases h1 : K m < d
    · rw [if_pos h1, if_neg (by omega)]; omega
    · rw [if_neg h1]
      by_cases h2 : K m = d
      · rw [if_pos h2]; omega
      · rw [if_neg h2]; omega
theorem mr_c_next (K : Nat → Nat) (d m : Nat) : mr_c1 K (d + 1) m = mr_c1 K d m + mr_c2 K d m := by
  induction m with
  | zero => rfl
  | succ m ih =>
    show mr_c1 K (d + 1) m + (if K m < d + 1 then 1 else 0) = mr_c1 K d m + (if K m < d then 1 else 0) + (mr_c2 K d m + if K m = d then 1 else 0)
    rw [ih]
    by_cases h1 : K m < d
    · rw [if_pos h1, if_pos (show K m < d + 1 by omega), if_neg (show ¬ K m = d by omega)]; omega
    · rw [if_neg h1]
      by_cases h2 : K m = d
      · rw [if_pos h2, if_pos (show K m < d + 1 by omega)]; omega
      · rw [if_neg h2, if_neg (show ¬ K m < d + 1 by omega)]; omega
theorem mr_c2_mono (K : Nat → Nat) (d i : Nat) : ∀ m, mr_c2 K d i ≤ mr_c2 K d (i + m) := by
  intro m
  induction m with
  | zero => exact Nat.le_refl _
  | succ m ih => exact Nat.le_trans ih (Nat.le_add_right _ _)
theorem mr_c2_y {K : Nat → Nat} {d i : Nat} (h : K i = d) : mr_c2 K d (i + 1) = mr_c2 K d i + 1 := by
  show mr_c2 K d i + (if K i = d then 1 else 0) = _
  rw [if_pos h]
theorem mr_c_lt {K : Nat → Nat} {d i m q : Nat} (hi : i < m) (h : K i = d) (hq : q ≤ mr_c1 K d m + mr_c2 K d i) : q < m := by
  have h1 := mr_c_le K d m
  have h2 := mr_c2_mono K d (i + 1) (m - (i + 1))
  rw [show i + 1 + (m - (i + 1)) = m by omega, mr_c2_y h] at h2
  omega
theorem mr_kk {k j : Nat} (h : nI k = nI j) (hk : k < 8) (hj : j < 8) : k = j := (nI_eq (by omega) (by omega)).mp h
theorem mw_214 : Cond.code y_M_isBeaten b_M_isBeaten 2 (some .boolean) ∈ lw_tbl := by decide +kernel
theorem mw_215 : Cond.initialized y_M_isBeaten.cls ∈ lw_tbl := by decide +kernel
theorem mw_216 : Cond.methodLink "MeasureRows" 214 y_M_isBeaten ∈ lw_tbl := by decide +kernel
theorem mw_217 : Cond.instanceMethod y_M_isBeaten ∈ lw_tbl := by decide +kernel
theorem mw_218 : Cond.selects "MeasureRows" y_M_isBeaten y_M_isBeaten ∈ lw_tbl := by decide +kernel

