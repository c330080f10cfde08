/-! FIGURES: their runs, checked -/
set_option maxRecDepth 100000 in
theorem hg3_5_0 : x_fs pk3_5 0 139 = true := by decide +kernel
