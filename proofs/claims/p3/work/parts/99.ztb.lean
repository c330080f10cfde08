/-! FIGURES: their runs, checked -/
set_option maxRecDepth 100000 in
theorem hg2_5_0 : x_fs pk2_5 0 90 = true := by decide +kernel
set_option maxRecDepth 100000 in
theorem hg3_0_0 : x_fs pk3_0 0 4 = true := by decide +kernel
set_option maxRecDepth 100000 in
theorem hg3_1_0 : x_fs pk3_1 0 7 = true := by decide +kernel
set_option maxRecDepth 100000 in
theorem hg3_2_0 : x_fs pk3_2 0 13 = true := by decide +kernel
set_option maxRecDepth 100000 in
theorem hg3_3_0 : x_fs pk3_3 0 29 = true := by decide +kernel
