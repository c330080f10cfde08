/-! level: its runs, checked -/
set_option maxRecDepth 100000 in
theorem gq_kpe : mg_234 (mg_234_17r 98 (fun _ => false) (fun _ _ => false) (tH 170 gq_170) 170) (fun _ _ => false) 98 gq_4 (fun _ => false) = true := by decide +kernel
