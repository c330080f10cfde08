/-! THE CLASS: its runs, checked -/
set_option maxRecDepth 100000 in
theorem gk3_5 : mg_14_55b 136 3 (fun _ => false) (tH 6 gm3_h6) 5 gm3_h5 = true := by decide +kernel
