/-! LAYS: a piece of a long one, checked -/
set_option maxRecDepth 100000 in
theorem hy190_05 : mg_234_190r 98 (fun M => x_eq M sk_5) (fun _ _ => false) (fun _ _ => false) 20000 0 sp_190 = true := by decide +kernel
set_option maxRecDepth 100000 in
theorem hy4_05 : mg_239_10r (xo1 98 sk_4 sk_5) 98 0 5 (fun _ => false) (xH 0 sa0_5) (fun _ _ => false) (fun _ _ => false) (fun _ => false) 2 sk_4 = true := by decide +kernel
