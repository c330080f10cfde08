/-! LAYS: a piece of a long one, checked -/
set_option maxRecDepth 100000 in
theorem hyK_05 : x_K 2 pk0_5 0 sh0_5 = true := by decide +kernel
