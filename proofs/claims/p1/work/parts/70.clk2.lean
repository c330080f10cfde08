/-! THE CLASS: its runs, checked -/
set_option maxRecDepth 100000 in
theorem gk3_4 : mg_14_55b 136 3 (fun _ => false) (tH 5 gm3_h5) 4 gm3_h4 = true := by decide +kernel
