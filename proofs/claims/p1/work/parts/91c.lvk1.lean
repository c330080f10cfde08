/-! level: its runs, checked -/
set_option maxRecDepth 100000 in
theorem gv_k3 : m_157 64 3 gv_c (fun r M => f_if false (Nat.beq r 130) (y_sub M gv_3)) = true := by decide +kernel
set_option maxRecDepth 100000 in
theorem gv_x3 : y_is gv_3 98 11 true = true := by decide +kernel
set_option maxRecDepth 100000 in
theorem gw_k3 : m_257 98 3 gv_3 (kE 130) = true := by decide +kernel
