/-! THE REFERENCE: its runs, checked -/
set_option maxRecDepth 100000 in
theorem hl0_1 : m_239 98 0 1 rm0_1 (fun M => y_sub M rl0_1) = true := by decide +kernel
set_option maxRecDepth 100000 in
theorem hl0_2 : m_239 98 0 2 rm0_2 (fun M => y_sub M rl0_2) = true := by decide +kernel
