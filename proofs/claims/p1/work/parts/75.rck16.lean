/-! THE REFERENCE: its runs, checked -/
set_option maxRecDepth 100000 in
theorem hj_0 : mq_299 (z_no [4294967295, 130, 174, 1371, 3981, 14005, 16806, 21208, 146893]) (mq_299_2r (z_no [4294967295, 130, 174, 1371, 3981, 14005, 16806, 21208, 146893]) 98 (fun _ _ => false) (tH 154 sj_154) 154) 98 rl0_5 (fun _ _ => false) = true := by decide +kernel
