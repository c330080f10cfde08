/-! THE REFERENCE: its runs, checked -/
set_option maxRecDepth 100000 in
theorem hl0_4 : m_239 98 0 4 rm0_4 (fun M => y_sub M rl0_4) = true := by decide +kernel
