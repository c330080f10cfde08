/-! FIGURES: their runs, checked -/
set_option maxRecDepth 100000 in
theorem hg0_5_226 : x_fs pk0_5 226 110 = true := by decide +kernel
