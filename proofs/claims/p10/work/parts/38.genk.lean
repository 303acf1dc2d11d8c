theorem mr_Afree {A : Nat → Prop} {ws : va_W} {H0 H : Heap} {locs : List Loc} (hD : va_D A ws) (hS : va_S A H0 H locs) (hA : ∀ q, H0.size ≤ q → A q) : ∀ q, va_A ws H.size q → A q := fun q h => by
  rcases h with ⟨k, e, hk⟩ | h
  · exact hD.2 k _ hk
  · exact hA q (Nat.le_trans hS.1 h)
theorem mw_209 : Cond.code y_R_isContentWith b_R_isContentWith 2 (some .boolean) ∈ lw_tbl := by decide +kernel
theorem mw_210 : Cond.initialized y_R_isContentWith.cls ∈ lw_tbl := by decide +kernel
theorem mw_211 : Cond.methodLink "MeasureRows" 207 y_R_isContentWith ∈ lw_tbl := by decide +kernel
theorem mw_212 : Cond.instanceMethod y_R_isContentWith ∈ lw_tbl := by decide +kernel
theorem mw_213 : Cond.selects "MeasureRows$Row" y_R_isContentWith y_R_isContentWith ∈ lw_tbl := by decide +kernel

