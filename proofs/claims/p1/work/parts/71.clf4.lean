/-! the figures of depth 5 -/
set_option maxRecDepth 100000 in
theorem gf_2 : m_2 148 gn0_e2 (fun M => y_sub M gn0_e88) = true := by decide +kernel
