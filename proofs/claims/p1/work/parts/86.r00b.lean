/-! rows of the law -/
theorem dt_r0_0100 : dt_all (dt_row 0) (dt_sub [false, true, false, false] (dt_co 0)) = true := by decide +kernel
theorem dt_r0_0101 : dt_all (dt_row 0) (dt_sub [false, true, false, true] (dt_co 0)) = true := by decide +kernel
theorem dt_r0_0110 : dt_all (dt_row 0) (dt_sub [false, true, true, false] (dt_co 0)) = true := by decide +kernel
theorem dt_r0_0111 : dt_all (dt_row 0) (dt_sub [false, true, true, true] (dt_co 0)) = true := by decide +kernel
