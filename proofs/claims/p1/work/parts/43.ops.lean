/-! calls -/
set_option maxRecDepth 100000 in
theorem dt_p5 : fv_ap (fv dt_R0 (dt_sg 8) 4096 1000000 2000000 dt_B0) (dt_C 363) = true := by decide +kernel
set_option maxRecDepth 100000 in
theorem dt_p6 : fv_ap (fv dt_R0 (dt_sg 8) 4096 1000000 2000000 dt_B0) (dt_C 406) = true := by decide +kernel
set_option maxRecDepth 100000 in
theorem dt_p8 : fv_ap (fv dt_R0 (dt_sg 8) 4096 1000000 2000000 dt_B0) (dt_C 482) = true := by decide +kernel
set_option maxRecDepth 100000 in
theorem dt_p9 : fv_ap (fv dt_R0 (dt_sg 8) 4096 1000000 2000000 dt_B0) (dt_C 515) = true := by decide +kernel
set_option maxRecDepth 100000 in
theorem dt_p12 : fv_ap (fv dt_R0 (dt_sg 8) 4096 1000000 2000000 dt_B0) (dt_C 635) = true := by decide +kernel
set_option maxRecDepth 100000 in
theorem dt_p15 : fv_ap (fv dt_R0 (dt_sg 8) 4096 1000000 2000000 dt_B0) (dt_C 744) = true := by decide +kernel
set_option maxRecDepth 100000 in
theorem dt_p17 : fv_ap (fv dt_R0 (dt_sg 8) 4096 1000000 2000000 dt_B0) (dt_C 780) = true := by decide +kernel
set_option maxRecDepth 100000 in
theorem dt_p18 : fv_ap (fv dt_R0 (dt_sg 8) 4096 1000000 2000000 dt_B0) (dt_C 823) = true := by decide +kernel
set_option maxRecDepth 100000 in
theorem dt_p30 : fv_ap (fv dt_R0 (dt_sg 8) 4096 1000000 2000000 dt_B0) (dt_C 1205) = true := by decide +kernel
set_option maxRecDepth 100000 in
theorem dt_p32 : fv_ap (fv dt_R0 (dt_sg 8) 4096 1000000 2000000 dt_B0) (dt_C 1315) = true := by decide +kernel
set_option maxRecDepth 100000 in
theorem dt_p34 : fv_ap (fv dt_R0 (dt_sg 8) 4096 1000000 2000000 dt_B0) (dt_C 1351) = true := by decide +kernel
set_option maxRecDepth 100000 in
theorem dt_p35 : fv_ap (fv dt_R0 (dt_sg 8) 4096 1000000 2000000 dt_B0) (dt_C 1384) = true := by decide +kernel
set_option maxRecDepth 100000 in
theorem dt_p36 : fv_ap (fv dt_R0 (dt_sg 8) 4096 1000000 2000000 dt_B0) (dt_C 1427) = true := by decide +kernel
set_option maxRecDepth 100000 in
theorem dt_p37 : fv_ap (fv dt_R0 (dt_sg 8) 4096 1000000 2000000 dt_B0) (dt_C 1460) = true := by decide +kernel
set_option maxRecDepth 100000 in
theorem dt_p38 : fv_ap (fv dt_R0 (dt_sg 8) 4096 1000000 2000000 dt_B0) (dt_C 1483) = true := by decide +kernel
set_option maxRecDepth 100000 in
theorem dt_p39 : fv_ap (fv dt_R0 (dt_sg 8) 4096 1000000 2000000 dt_B0) (dt_C 1516) = true := by decide +kernel
set_option maxRecDepth 100000 in
theorem dt_p40 : fv_ap (fv dt_R0 (dt_sg 8) 4096 1000000 2000000 dt_B0) (dt_C 1539) = true := by decide +kernel
set_option maxRecDepth 100000 in
theorem dt_p41 : fv_ap (fv dt_R0 (dt_sg 8) 4096 1000000 2000000 dt_B0) (dt_C 1562) = true := by decide +kernel
set_option maxRecDepth 100000 in
theorem dt_p42 : fv_ap (fv dt_R0 (dt_sg 8) 4096 1000000 2000000 dt_B0) (dt_C 1585) = true := by decide +kernel
set_option maxRecDepth 100000 in
theorem dt_p44 : fv_ap (fv dt_R0 (dt_sg 8) 4096 1000000 2000000 dt_B0) (dt_C 1621) = true := by decide +kernel
set_option maxRecDepth 100000 in
theorem dt_p45 : fv_ap (fv dt_R0 (dt_sg 8) 4096 1000000 2000000 dt_B0) (dt_C 1684) = true := by decide +kernel
