theorem mw_380 : Cond.code y_M_row b_M_row 9 (some .int) ∈ lw_tbl := by decide +kernel
theorem mw_381 : Cond.initialized y_M_row.cls ∈ lw_tbl := by decide +kernel
theorem mw_382 : Cond.methodLink "MeasureRowsLaw" 18 y_M_row ∈ lw_tbl := by decide +kernel
theorem mw_383 : Cond.instanceMethod y_M_row ∈ lw_tbl := by decide +kernel
theorem mw_384 : Cond.selects "MeasureRows" y_M_row y_M_row ∈ lw_tbl := by decide +kernel
theorem mw_385 : Cond.classLink "MeasureRowsLaw" 24 mr_ise ∈ lw_tbl := by decide +kernel
theorem mw_386 : Cond.castable mr_ise mr_ise ∈ lw_tbl := by decide +kernel
theorem mw_387 : Cond.code y_M_end b_M_end 5 (some .int) ∈ lw_tbl := by decide +kernel
theorem mw_388 : Cond.initialized y_M_end.cls ∈ lw_tbl := by decide +kernel
theorem mw_389 : Cond.methodLink "MeasureRowsLaw" 26 y_M_end ∈ lw_tbl := by decide +kernel
theorem mw_390 : Cond.instanceMethod y_M_end ∈ lw_tbl := by decide +kernel
theorem mw_391 : Cond.selects "MeasureRows" y_M_end y_M_end ∈ lw_tbl := by decide +kernel

