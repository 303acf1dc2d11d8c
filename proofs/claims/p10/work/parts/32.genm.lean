theorem mw_117 : Cond.code y_M_find b_M_find 2 (some (.object "MeasureRows$Row")) ∈ lw_tbl := by decide +kernel
theorem mw_118 : Cond.initialized y_M_find.cls ∈ lw_tbl := by decide +kernel
theorem mw_119 : Cond.methodLink "MeasureRows" 111 y_M_find ∈ lw_tbl := by decide +kernel
theorem mw_120 : Cond.instanceMethod y_M_find ∈ lw_tbl := by decide +kernel
theorem mw_121 : Cond.selects "MeasureRows" y_M_find y_M_find ∈ lw_tbl := by decide +kernel
theorem mw_122 : Cond.code y_R_isAlike b_R_isAlike 5 (some .boolean) ∈ lw_tbl := by decide +kernel
theorem mw_123 : Cond.initialized y_R_isAlike.cls ∈ lw_tbl := by decide +kernel
theorem mw_124 : Cond.methodLink "MeasureRows" 189 y_R_isAlike ∈ lw_tbl := by decide +kernel
theorem mw_125 : Cond.instanceMethod y_R_isAlike ∈ lw_tbl := by decide +kernel
theorem mw_126 : Cond.selects "MeasureRows$Row" y_R_isAlike y_R_isAlike ∈ lw_tbl := by decide +kernel
theorem mw_127 : Cond.methodLink "MeasureRows" 193 y_R_meets ∈ lw_tbl := by decide +kernel

