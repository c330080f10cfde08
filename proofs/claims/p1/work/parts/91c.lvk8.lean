/-! level: its runs, checked -/
set_option maxRecDepth 100000 in
theorem gq_k4 : mg_239_10r (mo1 98 gq_4 gq_5) 98 0 5 (fun _ => false) (tH 0 gq_77) (fun _ _ => false) (fun _ => false) 2 gq_4 = true := by decide +kernel
set_option maxRecDepth 100000 in
theorem gq_k77 : mg_239_77r m_234 98 0 5 (fun _ => false) (fun _ => false) (tH 0 gq_135) (fun _ _ => false) 5000 0 gq_77 = true := by decide +kernel
set_option maxRecDepth 100000 in
theorem gq_k135 : mg_239_135r m_234 98 0 5 (fun M => y_sub M gq_l) (fun _ => false) (fun _ _ => false) (fun _ _ => false) 5000 0 gq_135 = true := by decide +kernel
