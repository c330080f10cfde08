/-! FIGURES: their runs, checked -/
set_option maxRecDepth 100000 in
theorem hg3_5_139 : x_fs pk3_5 139 25 = true := by decide +kernel
set_option maxRecDepth 100000 in
theorem hg0_0_0 : x_fs pk0_0 0 11 = true := by decide +kernel
set_option maxRecDepth 100000 in
theorem hg0_1_0 : x_fs pk0_1 0 16 = true := by decide +kernel
set_option maxRecDepth 100000 in
theorem hg0_2_0 : x_fs pk0_2 0 31 = true := by decide +kernel
set_option maxRecDepth 100000 in
theorem hg0_3_0 : x_fs pk0_3 0 76 = true := by decide +kernel
