/-! the fill, its first 1000 -/
set_option maxRecDepth 100000 in
theorem gf_l0 : mg_107_10r 149 (fun _ => false) (tH 1000 gn0_l1000) 1000 0 gn0_l0 = true := by decide +kernel
