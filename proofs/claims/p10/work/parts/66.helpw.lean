theorem mw_370 : Cond.code y_M_apply b_M_apply 6 (some .int) ∈ lw_tbl := by decide +kernel
theorem mw_371 : Cond.initialized y_M_apply.cls ∈ lw_tbl := by decide +kernel
theorem mw_372 : Cond.methodLink "MeasureRowsLaw" 30 y_M_apply ∈ lw_tbl := by decide +kernel
theorem mw_373 : Cond.instanceMethod y_M_apply ∈ lw_tbl := by decide +kernel
theorem mw_374 : Cond.selects "MeasureRows" y_M_apply y_M_apply ∈ lw_tbl := by decide +kernel
theorem mw_375 : Cond.code y_M_scan b_M_scan 5 (some .int) ∈ lw_tbl := by decide +kernel
theorem mw_376 : Cond.initialized y_M_scan.cls ∈ lw_tbl := by decide +kernel
theorem mw_377 : Cond.methodLink "MeasureRowsLaw" 34 y_M_scan ∈ lw_tbl := by decide +kernel
theorem mw_378 : Cond.instanceMethod y_M_scan ∈ lw_tbl := by decide +kernel
theorem mw_379 : Cond.selects "MeasureRows" y_M_scan y_M_scan ∈ lw_tbl := by decide +kernel

