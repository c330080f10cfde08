/-! rows of code, decoded and linked -/
theorem dt_r0 : dt_all (dt_row 0) (dt_co 0) = true := by decide +kernel
theorem dt_r1 : dt_all (dt_row 1) (dt_co 1) = true := by decide +kernel
theorem dt_m1 : dt_mck 1 = true := by decide +kernel
theorem dt_r2 : dt_all (dt_row 2) (dt_co 2) = true := by decide +kernel
theorem dt_m2 : dt_mck 2 = true := by decide +kernel
