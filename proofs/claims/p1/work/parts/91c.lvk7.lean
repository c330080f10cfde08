/-! level: its runs, checked -/
set_option maxRecDepth 100000 in
theorem gq_k17 : mg_234_17r 98 (fun _ => false) (tH 0 gq_190) (fun _ _ => false) 1000 170 gq_170 = true := by decide +kernel
set_option maxRecDepth 100000 in
theorem gq_k190 : mg_234_190r 98 (fun M => y_sub M gq_5) (fun _ _ => false) (fun _ _ => false) 20000 0 gq_190 = true := by decide +kernel
