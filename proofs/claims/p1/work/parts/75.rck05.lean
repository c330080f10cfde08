/-! THE REFERENCE: its runs, checked -/
set_option maxRecDepth 100000 in
theorem hl3_4 : m_239 98 3 4 rm3_4 (fun M => y_sub M rl3_4) = true := by decide +kernel
