/-! THE REFERENCE: its runs, checked -/
set_option maxRecDepth 100000 in
theorem hl3_5 : m_239 98 3 5 rm3_5 (fun M => y_sub M rl3_5) = true := by decide +kernel
