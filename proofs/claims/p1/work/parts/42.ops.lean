/-! calls -/
set_option maxRecDepth 100000 in
theorem dt_p0 : fv_ap (fv dt_R0 (dt_sg 8) 4096 1000000 2000000 dt_B0) (dt_C 248) = true := by decide +kernel
set_option maxRecDepth 100000 in
theorem dt_p10 : fv_ap (fv dt_R0 (dt_sg 8) 4096 1000000 2000000 dt_B0) (dt_C 559) = true := by decide +kernel
set_option maxRecDepth 100000 in
theorem dt_p14 : fv_ap (fv dt_R0 (dt_sg 8) 4096 1000000 2000000 dt_B0) (dt_C 721) = true := by decide +kernel
set_option maxRecDepth 100000 in
theorem dt_p16 : fv_ap (fv dt_R0 (dt_sg 8) 4096 1000000 2000000 dt_B0) (dt_C 767) = true := by decide +kernel
set_option maxRecDepth 100000 in
theorem dt_p43 : fv_ap (fv dt_R0 (dt_sg 8) 4096 1000000 2000000 dt_B0) (dt_C 1608) = true := by decide +kernel
set_option maxRecDepth 100000 in
theorem dt_p46 : fv_ap (fv dt_R0 (dt_sg 8) 4096 1000000 2000000 dt_B0) (dt_C 1707) = true := by decide +kernel
set_option maxRecDepth 100000 in
theorem dt_p47 : fv_ap (fv dt_R0 (dt_sg 8) 4096 1000000 2000000 dt_B0) (dt_C 1730) = true := by decide +kernel
set_option maxRecDepth 100000 in
theorem dt_p48 : fv_ap (fv dt_R0 (dt_sg 8) 4096 1000000 2000000 dt_B0) (dt_C 1743) = true := by decide +kernel
set_option maxRecDepth 100000 in
theorem dt_p49 : fv_ap (fv dt_R0 (dt_sg 8) 4096 1000000 2000000 dt_B0) (dt_C 1766) = true := by decide +kernel
set_option maxRecDepth 100000 in
theorem dt_p33 : fv_ap (fv dt_R0 (dt_sg 8) 4096 1000000 2000000 dt_B0) (dt_C 1338) = true := by decide +kernel
