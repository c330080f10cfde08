/-! the fill, the rest -/
set_option maxRecDepth 100000 in
theorem gf_l2 : mg_107_10r 149 (fun M => y_sub M gn0_e2) (fun _ _ => false) 1000 2000 gn0_l2000 = true := by decide +kernel
