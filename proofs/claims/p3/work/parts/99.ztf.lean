/-! FIGURES: their runs, checked -/
set_option maxRecDepth 100000 in
theorem hg0_4_0 : x_fs pk0_4 0 125 = true := by decide +kernel
