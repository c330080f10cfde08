/-! THE REFERENCE: its runs, checked -/
set_option maxRecDepth 100000 in
theorem hl0_3 : m_239 98 0 3 rm0_3 (fun M => y_sub M rl0_3) = true := by decide +kernel
