/-! from the constructors to each call -/
def dt_sw : List Nat := [248, 261, 284, 307, 330, 363, 406, 429, 482, 515, 559, 582, 635, 678, 721, 744, 767, 780, 823, 856, 889, 922, 965, 1014, 1037, 1060, 1093, 1126, 1149, 1172, 1205, 1292, 1315, 1338, 1351, 1384, 1427, 1460, 1483, 1516, 1539, 1562, 1585, 1608, 1621, 1684, 1707, 1730, 1743, 1766]
noncomputable def dt_R2 : Nat → Nat → Option sR := fun y pc => @Bool.rec (fun _ => Option sR) none (@Bool.rec (fun _ => Option sR) none (some (chk dt_B0 (dt_C pc))) (dt_sw.elem pc)) (Nat.beq y 0)
theorem dt_t0 : fv_ap (fv dt_R0 (dt_sg 0) 4096 1000000 100 dt_B0) dt_C1 = true := by decide +kernel
theorem dt_t1 : fv_ap (fv dt_R0 (dt_sg 1) 4096 1000000 100 dt_B0) dt_C1 = true := by decide +kernel
theorem dt_t2 : fv_ap (fv dt_R0 (dt_sg 2) 4096 1000000 100 dt_B0) dt_C1 = true := by decide +kernel
theorem dt_t3 : fv_ap (fv dt_R0 (dt_sg 3) 4096 1000000 100 dt_B0) dt_C1 = true := by decide +kernel
theorem dt_t4 : fv_ap (fv dt_R0 (dt_sg 4) 4096 1000000 100 dt_B0) dt_C1 = true := by decide +kernel
theorem dt_t5 : fv_ap (fv dt_R0 (dt_sg 5) 4096 1000000 100 dt_B0) dt_C1 = true := by decide +kernel
theorem dt_t6 : fv_ap (fv dt_R0 (dt_sg 6) 4096 1000000 100 dt_B0) dt_C1 = true := by decide +kernel
theorem dt_t7 : fv_ap (fv dt_R0 (dt_sg 7) 4096 1000000 100 dt_B0) dt_C1 = true := by decide +kernel
set_option maxRecDepth 100000 in
theorem dt_t8 : fv_ap (fv dt_R2 (dt_sg 8) 4096 1000000 100 dt_B0) dt_C1 = true := by decide +kernel
