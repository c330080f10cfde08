/-! FIGURES: their runs, checked -/
set_option maxRecDepth 100000 in
theorem hg1_0_0 : x_fs pk1_0 0 3 = true := by decide +kernel
set_option maxRecDepth 100000 in
theorem hg1_1_0 : x_fs pk1_1 0 4 = true := by decide +kernel
set_option maxRecDepth 100000 in
theorem hg1_2_0 : x_fs pk1_2 0 6 = true := by decide +kernel
set_option maxRecDepth 100000 in
theorem hg1_3_0 : x_fs pk1_3 0 12 = true := by decide +kernel
set_option maxRecDepth 100000 in
theorem hg1_4_0 : x_fs pk1_4 0 26 = true := by decide +kernel
set_option maxRecDepth 100000 in
theorem hg1_5_0 : x_fs pk1_5 0 58 = true := by decide +kernel
set_option maxRecDepth 100000 in
theorem hg2_0_0 : x_fs pk2_0 0 3 = true := by decide +kernel
set_option maxRecDepth 100000 in
theorem hg2_1_0 : x_fs pk2_1 0 5 = true := by decide +kernel
set_option maxRecDepth 100000 in
theorem hg2_2_0 : x_fs pk2_2 0 9 = true := by decide +kernel
set_option maxRecDepth 100000 in
theorem hg2_3_0 : x_fs pk2_3 0 18 = true := by decide +kernel
set_option maxRecDepth 100000 in
theorem hg2_4_0 : x_fs pk2_4 0 39 = true := by decide +kernel
