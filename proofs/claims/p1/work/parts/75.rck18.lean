/-! THE REFERENCE: its runs, checked -/
set_option maxRecDepth 100000 in
theorem hj_2 : mq_299_2r (z_no [4294967295, 130, 174, 1371, 3981, 14005, 16806, 21208, 146893]) 98 (fun r M => f_if false (Nat.beq r 0) (y_sub M rm0_6)) (fun _ _ => false) 5000 314 sj_314 = true := by decide +kernel
set_option maxRecDepth 100000 in
theorem hz0_n : mr_300_44b (z_no []) m_239 98 0 (kE 4294967295) (fun _ _ _ _ _ => false) 0 0 4294967295 6 rm0_6 = true := by decide +kernel
