/-! THE REFERENCE: its runs, checked -/
set_option maxRecDepth 100000 in
theorem hr1_e : mr_300 (z_no []) m_239 (tR 4294967295 0 rm1_0) 98 1 gm1_z (fun _ _ => false) = true := by decide +kernel
set_option maxRecDepth 100000 in
theorem hl1_0 : m_239 98 1 0 rm1_0 (fun M => y_sub M rl1_0) = true := by decide +kernel
set_option maxRecDepth 100000 in
theorem hl1_1 : m_239 98 1 1 rm1_1 (fun M => y_sub M rl1_1) = true := by decide +kernel
set_option maxRecDepth 100000 in
theorem hl1_2 : m_239 98 1 2 rm1_2 (fun M => y_sub M rl1_2) = true := by decide +kernel
set_option maxRecDepth 100000 in
theorem hl1_3 : m_239 98 1 3 rm1_3 (fun M => y_sub M rl1_3) = true := by decide +kernel
set_option maxRecDepth 100000 in
theorem hl1_4 : m_239 98 1 4 rm1_4 (fun M => y_sub M rl1_4) = true := by decide +kernel
