/-! THE CLASS: its runs, checked -/
set_option maxRecDepth 100000 in
theorem gk2_5 : mg_14_55b 136 2 (fun _ => false) (tH 6 gm2_h6) 5 gm2_h5 = true := by decide +kernel
set_option maxRecDepth 100000 in
theorem gk2_6 : mg_14_55b 136 2 (fun M => y_sub M gm2_b) (fun _ _ => false) 6 gm2_h6 = true := by decide +kernel
set_option maxRecDepth 100000 in
theorem gk3_e : mg_14 (tH 0 gm3_h0) 136 3 gm3_a (fun _ => false) = true := by decide +kernel
set_option maxRecDepth 100000 in
theorem gk3_0 : mg_14_55b 136 3 (fun _ => false) (tH 1 gm3_h1) 0 gm3_h0 = true := by decide +kernel
set_option maxRecDepth 100000 in
theorem gk3_1 : mg_14_55b 136 3 (fun _ => false) (tH 2 gm3_h2) 1 gm3_h1 = true := by decide +kernel
set_option maxRecDepth 100000 in
theorem gk3_2 : mg_14_55b 136 3 (fun _ => false) (tH 3 gm3_h3) 2 gm3_h2 = true := by decide +kernel
set_option maxRecDepth 100000 in
theorem gk3_3 : mg_14_55b 136 3 (fun _ => false) (tH 4 gm3_h4) 3 gm3_h3 = true := by decide +kernel
