/-! THE CLASS: its runs, checked -/
set_option maxRecDepth 100000 in
theorem gk1_e : mg_14 (tH 0 gm1_h0) 136 1 gm1_a (fun _ => false) = true := by decide +kernel
set_option maxRecDepth 100000 in
theorem gk1_0 : mg_14_55b 136 1 (fun _ => false) (tH 1 gm1_h1) 0 gm1_h0 = true := by decide +kernel
set_option maxRecDepth 100000 in
theorem gk1_1 : mg_14_55b 136 1 (fun _ => false) (tH 2 gm1_h2) 1 gm1_h1 = true := by decide +kernel
set_option maxRecDepth 100000 in
theorem gk1_2 : mg_14_55b 136 1 (fun _ => false) (tH 3 gm1_h3) 2 gm1_h2 = true := by decide +kernel
set_option maxRecDepth 100000 in
theorem gk1_3 : mg_14_55b 136 1 (fun _ => false) (tH 4 gm1_h4) 3 gm1_h3 = true := by decide +kernel
set_option maxRecDepth 100000 in
theorem gk1_4 : mg_14_55b 136 1 (fun _ => false) (tH 5 gm1_h5) 4 gm1_h4 = true := by decide +kernel
set_option maxRecDepth 100000 in
theorem gk1_5 : mg_14_55b 136 1 (fun _ => false) (tH 6 gm1_h6) 5 gm1_h5 = true := by decide +kernel
set_option maxRecDepth 100000 in
theorem gk1_6 : mg_14_55b 136 1 (fun M => y_sub M gm1_b) (fun _ _ => false) 6 gm1_h6 = true := by decide +kernel
set_option maxRecDepth 100000 in
theorem gk2_e : mg_14 (tH 0 gm2_h0) 136 2 gm2_a (fun _ => false) = true := by decide +kernel
set_option maxRecDepth 100000 in
theorem gk2_0 : mg_14_55b 136 2 (fun _ => false) (tH 1 gm2_h1) 0 gm2_h0 = true := by decide +kernel
set_option maxRecDepth 100000 in
theorem gk2_1 : mg_14_55b 136 2 (fun _ => false) (tH 2 gm2_h2) 1 gm2_h1 = true := by decide +kernel
set_option maxRecDepth 100000 in
theorem gk2_2 : mg_14_55b 136 2 (fun _ => false) (tH 3 gm2_h3) 2 gm2_h2 = true := by decide +kernel
set_option maxRecDepth 100000 in
theorem gk2_3 : mg_14_55b 136 2 (fun _ => false) (tH 4 gm2_h4) 3 gm2_h3 = true := by decide +kernel
set_option maxRecDepth 100000 in
theorem gk2_4 : mg_14_55b 136 2 (fun _ => false) (tH 5 gm2_h5) 4 gm2_h4 = true := by decide +kernel
