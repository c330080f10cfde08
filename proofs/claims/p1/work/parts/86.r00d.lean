/-! rows of the law -/
theorem dt_r0_1100 : dt_all (dt_row 0) (dt_sub [true, true, false, false] (dt_co 0)) = true := by decide +kernel
theorem dt_r0_1101 : dt_all (dt_row 0) (dt_sub [true, true, false, true] (dt_co 0)) = true := by decide +kernel
theorem dt_r0_1110 : dt_all (dt_row 0) (dt_sub [true, true, true, false] (dt_co 0)) = true := by decide +kernel
theorem dt_r0_1111 : dt_all (dt_row 0) (dt_sub [true, true, true, true] (dt_co 0)) = true := by decide +kernel
