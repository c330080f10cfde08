/-! FIGURES: their runs, checked -/
set_option maxRecDepth 100000 in
theorem hg3_4_0 : x_fs pk3_4 0 68 = true := by decide +kernel
