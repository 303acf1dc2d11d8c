theorem mw_333 : Cond.fieldLink "MeasureRowsModel" 49 "MeasureRowsModel" "good" "[Z" ∈ lw_tbl := by decide +kernel
theorem mw_334 : Cond.code y_D_beats b_D_beats 5 (some .boolean) ∈ lw_tbl := by decide +kernel
theorem mw_335 : Cond.initialized y_D_beats.cls ∈ lw_tbl := by decide +kernel
theorem mw_336 : Cond.methodLink "MeasureRowsModel" 127 y_D_beats ∈ lw_tbl := by decide +kernel
theorem mw_337 : Cond.instanceMethod y_D_beats ∈ lw_tbl := by decide +kernel
theorem mw_338 : Cond.selects "MeasureRowsModel" y_D_beats y_D_beats ∈ lw_tbl := by decide +kernel

