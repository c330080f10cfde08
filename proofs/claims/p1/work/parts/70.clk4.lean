/-! THE CLASS: its runs, checked -/
set_option maxRecDepth 100000 in
theorem gk3_6 : mg_14_55b 136 3 (fun M => y_sub M gm3_b) (fun _ _ => false) 6 gm3_h6 = true := by decide +kernel
set_option maxRecDepth 100000 in
theorem gk0_e : mg_14 (tH 0 gm0_h0) 136 0 gm0_a (fun _ => false) = true := by decide +kernel
set_option maxRecDepth 100000 in
theorem gk0_0 : mg_14_55b 136 0 (fun _ => false) (tH 1 gm0_h1) 0 gm0_h0 = true := by decide +kernel
set_option maxRecDepth 100000 in
theorem gk0_1 : mg_14_55b 136 0 (fun _ => false) (tH 2 gm0_h2) 1 gm0_h1 = true := by decide +kernel
set_option maxRecDepth 100000 in
theorem gk0_2 : mg_14_55b 136 0 (fun _ => false) (tH 3 gm0_h3) 2 gm0_h2 = true := by decide +kernel
set_option maxRecDepth 100000 in
theorem gk0_3 : mg_14_55b 136 0 (fun _ => false) (tH 4 gm0_h4) 3 gm0_h3 = true := by decide +kernel
