/-! THE CLASS: its runs, checked -/
set_option maxRecDepth 100000 in
theorem gk0_6 : mg_14_55b 136 0 (fun M => y_sub M gm0_b) (fun _ _ => false) 6 gm0_h6 = true := by decide +kernel
