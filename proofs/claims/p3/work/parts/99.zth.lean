/-! FIGURES: their runs, checked -/
set_option maxRecDepth 100000 in
theorem hg0_5_0 : x_fs pk0_5 0 108 = true := by decide +kernel
