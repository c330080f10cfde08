/-! level: its runs, checked -/
set_option maxRecDepth 100000 in
theorem gv_k0 : m_157 64 0 gv_c (fun r M => f_if false (Nat.beq r 10) (y_sub M gv_0)) = true := by decide +kernel
set_option maxRecDepth 100000 in
theorem gv_x0 : y_is gv_0 98 11 true = true := by decide +kernel
set_option maxRecDepth 100000 in
theorem gw_k0 : m_257 98 0 gv_0 (kE 10) = true := by decide +kernel
set_option maxRecDepth 100000 in
theorem gv_k1 : m_157 64 1 gv_c (fun r M => f_if false (Nat.beq r 20) (y_sub M gv_1)) = true := by decide +kernel
set_option maxRecDepth 100000 in
theorem gv_x1 : y_is gv_1 98 11 true = true := by decide +kernel
set_option maxRecDepth 100000 in
theorem gw_k1 : m_257 98 1 gv_1 (kE 20) = true := by decide +kernel
set_option maxRecDepth 100000 in
theorem gv_k2 : m_157 64 2 gv_c (fun r M => f_if false (Nat.beq r 50) (y_sub M gv_2)) = true := by decide +kernel
set_option maxRecDepth 100000 in
theorem gv_x2 : y_is gv_2 98 11 true = true := by decide +kernel
set_option maxRecDepth 100000 in
theorem gw_k2 : m_257 98 2 gv_2 (kE 50) = true := by decide +kernel
