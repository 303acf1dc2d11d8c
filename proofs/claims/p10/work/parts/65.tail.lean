/-! the first cell stays, the others were worked upon -/
theorem mr_tl {A : Nat → Prop} {D : va_G} {cl : List vw_C} {Y Y1 : va_W} {x : Nat × va_E} {H H1 : Heap} (hP : va_P D cl (x :: Y) H) (hD : va_D A (x :: Y)) (hk : ∀ q : Nat, q < H.size → ¬ va_A Y H.size q → H1[q]? = H[q]?) (hF : ∀ q : Nat, va_A Y H.size q → A q) (hP1 : va_P D cl Y1 H1) (hD1 : va_D (va_A Y H.size) Y1) : va_P D cl (x :: Y1) H1 ∧ va_D A (x :: Y1) := by
  have hlt := (hP 0 x rfl).lt
  have hno : ¬ va_A Y H.size x.1 := by
    rintro (⟨k, e, h⟩ | h)
    · have := hD.1 0 (k + 1) x _ rfl h rfl
      omega
    · omega
  refine ⟨?_, ?_, ?_⟩
  · intro k y h
    match k, h with
    | 0, h => cases h; exact (hP 0 x rfl).kept (hk x.1 hlt hno)
    | k + 1, h => exact hP1 k y h
  · intro i j y z hi hj e
    match i, j, hi, hj with
    | 0, 0, _, _ => rfl
    | 0, j + 1, hi, hj => cases hi; exact absurd (e ▸ hD1.2 j z hj) hno
    | i + 1, 0, hi, hj => cases hj; exact absurd (e ▸ hD1.2 i y hi) hno
    | i + 1, j + 1, hi, hj => exact congrArg (· + 1) (hD1.1 i j y z hi hj e)
  · intro k y h
    match k, h with
    | 0, h => cases h; exact hD.2 0 x rfl
    | k + 1, h => exact hF _ (hD1.2 k y h)
