/-! FIGURES: their runs, checked -/
set_option maxRecDepth 100000 in
theorem hg0_5_448 : x_fs pk0_5 448 28 = true := by decide +kernel
