/-! level: its runs, checked -/
set_option maxRecDepth 100000 in
theorem gv_k5 : m_157 64 5 gv_c (fun r M => f_if false (Nat.beq r 890) (y_sub M gv_5)) = true := by decide +kernel
set_option maxRecDepth 100000 in
theorem gv_x5 : y_is gv_5 98 11 true = true := by decide +kernel
set_option maxRecDepth 100000 in
theorem gw_k5 : mv_257 (mo3 98 0 5 gq_e gq_l) 98 5 gv_5 (kE 890) = true := by decide +kernel
