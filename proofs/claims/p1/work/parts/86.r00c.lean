/-! rows of the law -/
theorem dt_r0_1000 : dt_all (dt_row 0) (dt_sub [true, false, false, false] (dt_co 0)) = true := by decide +kernel
theorem dt_r0_1001 : dt_all (dt_row 0) (dt_sub [true, false, false, true] (dt_co 0)) = true := by decide +kernel
theorem dt_r0_1010 : dt_all (dt_row 0) (dt_sub [true, false, true, false] (dt_co 0)) = true := by decide +kernel
theorem dt_r0_1011 : dt_all (dt_row 0) (dt_sub [true, false, true, true] (dt_co 0)) = true := by decide +kernel
