/-! FIGURES: their runs, checked -/
set_option maxRecDepth 100000 in
theorem hg0_5_336 : x_fs pk0_5 336 112 = true := by decide +kernel
