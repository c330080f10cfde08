/-! THE CLASS: its runs, checked -/
set_option maxRecDepth 100000 in
theorem gk0_4 : mg_14_55b 136 0 (fun _ => false) (tH 5 gm0_h5) 4 gm0_h4 = true := by decide +kernel
