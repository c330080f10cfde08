/-! level: its runs, checked -/
set_option maxRecDepth 100000 in
theorem gq_ke : mg_239 m_234 (mg_239_10r m_234 98 0 5 (fun _ => false) (fun _ _ => false) (fun _ _ => false) (fun M => y_sub M gq_4) 4) (fun _ _ => false) (fun _ _ => false) 98 0 5 gq_e (fun _ => false) = true := by decide +kernel
