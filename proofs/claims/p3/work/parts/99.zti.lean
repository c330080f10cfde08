/-! FIGURES: their runs, checked -/
set_option maxRecDepth 100000 in
theorem hg0_5_108 : x_fs pk0_5 108 118 = true := by decide +kernel
