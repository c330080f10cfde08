/-! THE REFERENCE: its runs, checked -/
set_option maxRecDepth 100000 in
theorem hz2_16806 : mr_300_44b (z_no []) m_239 98 2 (kE 5) (fun _ _ _ _ _ => false) 0 0 5 6 rf2_5_16806 = true := by decide +kernel
set_option maxRecDepth 100000 in
theorem hf2_21208 : mr_300_44b (z_is 21208) (mo3 98 2 5 rm2_5 rl2_5) 98 2 (fun _ _ => false) (tR 5 6 rf2_5_21208) 0 0 4294967295 5 rm2_5 = true := by decide +kernel
set_option maxRecDepth 100000 in
theorem hz2_21208 : mr_300_44b (z_no []) m_239 98 2 (kE 5) (fun _ _ _ _ _ => false) 0 0 5 6 rf2_5_21208 = true := by decide +kernel
set_option maxRecDepth 100000 in
theorem hz2_n : mr_300_44b (z_no []) m_239 98 2 (kE 4294967295) (fun _ _ _ _ _ => false) 0 0 4294967295 6 rm2_6 = true := by decide +kernel
set_option maxRecDepth 100000 in
theorem hr3_e : mr_300 (z_no []) m_239 (tR 4294967295 0 rm3_0) 98 3 gm3_z (fun _ _ => false) = true := by decide +kernel
set_option maxRecDepth 100000 in
theorem hl3_0 : m_239 98 3 0 rm3_0 (fun M => y_sub M rl3_0) = true := by decide +kernel
set_option maxRecDepth 100000 in
theorem hl3_1 : m_239 98 3 1 rm3_1 (fun M => y_sub M rl3_1) = true := by decide +kernel
set_option maxRecDepth 100000 in
theorem hl3_2 : m_239 98 3 2 rm3_2 (fun M => y_sub M rl3_2) = true := by decide +kernel
set_option maxRecDepth 100000 in
theorem hl3_3 : m_239 98 3 3 rm3_3 (fun M => y_sub M rl3_3) = true := by decide +kernel
