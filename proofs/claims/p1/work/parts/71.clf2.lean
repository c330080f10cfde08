/-! the fill, its next 1000 -/
set_option maxRecDepth 100000 in
theorem gf_l1 : mg_107_10r 149 (fun _ => false) (tH 2000 gn0_l2000) 1000 1000 gn0_l1000 = true := by decide +kernel
