/-! THE REFERENCE: its runs, checked -/
set_option maxRecDepth 100000 in
theorem hl2_2 : m_239 98 2 2 rm2_2 (fun M => y_sub M rl2_2) = true := by decide +kernel
set_option maxRecDepth 100000 in
theorem hl2_3 : m_239 98 2 3 rm2_3 (fun M => y_sub M rl2_3) = true := by decide +kernel
set_option maxRecDepth 100000 in
theorem hl2_4 : m_239 98 2 4 rm2_4 (fun M => y_sub M rl2_4) = true := by decide +kernel
