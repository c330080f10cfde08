/-! level: its runs, checked -/
set_option maxRecDepth 100000 in
theorem gw_k4 : m_257 98 4 gv_4 (kE 340) = true := by decide +kernel
