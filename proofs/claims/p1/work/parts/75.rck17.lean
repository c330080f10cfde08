/-! THE REFERENCE: its runs, checked -/
set_option maxRecDepth 100000 in
theorem hj_1 : mq_299_2r (z_no [4294967295, 130, 174, 1371, 3981, 14005, 16806, 21208, 146893]) 98 (fun _ _ => false) (tH 314 sj_314) 160 154 sj_154 = true := by decide +kernel
