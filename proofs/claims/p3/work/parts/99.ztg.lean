/-! FIGURES: their runs, checked -/
set_option maxRecDepth 100000 in
theorem hg0_4_125 : x_fs pk0_4 125 66 = true := by decide +kernel
