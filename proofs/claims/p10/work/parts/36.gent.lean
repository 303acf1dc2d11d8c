theorem mr_t8 {t : Nat} (h : ¬ 8 ≤ nI t) (h8 : t ≤ 8) : t < 8 := by
  rcases Nat.lt_or_ge t 8 with q | q
  · exact q
  · exact absurd (nI_le (a := 8) q (by omega)) h
theorem mw_184 : Cond.code y_M_isLastDay b_M_isLastDay 1 (some .boolean) ∈ lw_tbl := by decide +kernel
theorem mw_185 : Cond.initialized y_M_isLastDay.cls ∈ lw_tbl := by decide +kernel
theorem mw_186 : Cond.methodLink "MeasureRows" 86 y_M_isLastDay ∈ lw_tbl := by decide +kernel
theorem mw_187 : Cond.static y_M_isLastDay ∈ lw_tbl := by decide +kernel
theorem mw_188 : Cond.code y_R_tell b_R_tell 3 none ∈ lw_tbl := by decide +kernel
theorem mw_189 : Cond.initialized y_R_tell.cls ∈ lw_tbl := by decide +kernel
theorem mw_190 : Cond.methodLink "MeasureRows" 131 y_R_tell ∈ lw_tbl := by decide +kernel
theorem mw_191 : Cond.instanceMethod y_R_tell ∈ lw_tbl := by decide +kernel
theorem mw_192 : Cond.selects "MeasureRows$Row" y_R_tell y_R_tell ∈ lw_tbl := by decide +kernel
theorem mw_193 : Cond.methodLink "MeasureRows" 105 Lib.Math.max.name ∈ lw_tbl := by decide +kernel
theorem mw_194 : Cond.static Lib.Math.max.name ∈ lw_tbl := by decide +kernel
theorem mw_195 : Cond.initialized "java/lang/Math" ∈ lw_tbl := by decide +kernel
theorem mw_196 : Cond.code Lib.Math.max.name Lib.Math.max.code 2 (some .int) ∈ lw_tbl := by decide +kernel
theorem mw_197 : Cond.stringRef "MeasureRows" 126 "no room for another last day" ∈ lw_tbl := by decide +kernel
theorem mw_198 : Cond.classLink "MeasureRows" 93 mr_ise ∈ lw_tbl := by decide +kernel
theorem mw_199 : Cond.initialized mr_ise ∈ lw_tbl := by decide +kernel

