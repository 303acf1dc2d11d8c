theorem mw_200 : Cond.code y_M_isUnder b_M_isUnder 2 (some .boolean) ∈ lw_tbl := by decide +kernel
theorem mw_201 : Cond.initialized y_M_isUnder.cls ∈ lw_tbl := by decide +kernel
theorem mw_202 : Cond.methodLink "MeasureRows" 197 y_M_isUnder ∈ lw_tbl := by decide +kernel
theorem mw_203 : Cond.static y_M_isUnder ∈ lw_tbl := by decide +kernel
theorem mw_204 : Cond.code y_M_isOfLand b_M_isOfLand 3 (some .boolean) ∈ lw_tbl := by decide +kernel
theorem mw_205 : Cond.initialized y_M_isOfLand.cls ∈ lw_tbl := by decide +kernel
theorem mw_206 : Cond.methodLink "MeasureRows" 200 y_M_isOfLand ∈ lw_tbl := by decide +kernel
theorem mw_207 : Cond.instanceMethod y_M_isOfLand ∈ lw_tbl := by decide +kernel
theorem mw_208 : Cond.selects "MeasureRows" y_M_isOfLand y_M_isOfLand ∈ lw_tbl := by decide +kernel

