/-! level: its runs, checked -/
set_option maxRecDepth 100000 in
theorem gv_k4 : m_157 64 4 gv_c (fun r M => f_if false (Nat.beq r 340) (y_sub M gv_4)) = true := by decide +kernel
set_option maxRecDepth 100000 in
theorem gv_x4 : y_is gv_4 98 11 true = true := by decide +kernel
