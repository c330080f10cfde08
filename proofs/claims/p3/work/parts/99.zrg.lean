/-! LAYS: a piece of a long one, checked -/
set_option maxRecDepth 100000 in
theorem hy17_05 : mg_234_17r 98 (fun _ => false) (xH 0 sp_190) (fun _ _ => false) 1000 170 sp_170 = true := by decide +kernel
