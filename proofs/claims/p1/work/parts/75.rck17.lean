/-! THE REFERENCE: its runs, checked -/
set_option maxRecDepth 100000 in
theorem hz0_n : mr_300_44b (z_no []) m_239 98 0 (kE 4294967295) (fun _ _ _ _ _ => false) 0 0 4294967295 6 rm0_6 = true := by decide +kernel
