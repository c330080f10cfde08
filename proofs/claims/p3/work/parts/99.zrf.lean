/-! LAYS: a piece of a long one, checked -/
set_option maxRecDepth 100000 in
theorem hype_05 : mg_234 (mg_234_17r 98 (fun _ => false) (fun _ _ => false) (xH 170 sp_170) 170) (fun _ _ => false) 98 sk_4 (fun _ => false) = true := by decide +kernel
