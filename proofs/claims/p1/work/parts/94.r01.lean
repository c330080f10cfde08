/-! rows of code, decoded and linked -/
theorem dt_r3 : dt_all (dt_row 3) (dt_co 3) = true := by decide +kernel
theorem dt_m3 : dt_mck 3 = true := by decide +kernel
theorem dt_r4 : dt_all (dt_row 4) (dt_co 4) = true := by decide +kernel
theorem dt_m4 : dt_mck 4 = true := by decide +kernel
theorem dt_r5 : dt_all (dt_row 5) (dt_co 5) = true := by decide +kernel
theorem dt_m5 : dt_mck 5 = true := by decide +kernel
theorem dt_r6 : dt_all (dt_row 6) (dt_co 6) = true := by decide +kernel
theorem dt_m6 : dt_mck 6 = true := by decide +kernel
theorem dt_r7 : dt_all (dt_row 7) (dt_co 7) = true := by decide +kernel
theorem dt_m7 : dt_mck 7 = true := by decide +kernel
theorem dt_r8 : dt_all (dt_row 8) (dt_co 8) = true := by decide +kernel
theorem dt_m8 : dt_mck 8 = true := by decide +kernel
theorem dt_r9 : dt_all (dt_row 9) (dt_co 9) = true := by decide +kernel
theorem dt_m9 : dt_mck 9 = true := by decide +kernel
theorem dt_r10 : dt_all (dt_row 10) (dt_co 10) = true := by decide +kernel
theorem dt_m10 : dt_mck 10 = true := by decide +kernel
theorem dt_r11 : dt_all (dt_row 11) (dt_co 11) = true := by decide +kernel
theorem dt_m11 : dt_mck 11 = true := by decide +kernel
theorem dt_r12 : dt_all (dt_row 12) (dt_co 12) = true := by decide +kernel
theorem dt_m12 : dt_mck 12 = true := by decide +kernel
theorem dt_r13 : dt_all (dt_row 13) (dt_co 13) = true := by decide +kernel
theorem dt_m13 : dt_mck 13 = true := by decide +kernel
theorem dt_r14 : dt_all (dt_row 14) (dt_co 14) = true := by decide +kernel
theorem dt_m14 : dt_mck 14 = true := by decide +kernel
theorem dt_r15 : dt_all (dt_row 15) (dt_co 15) = true := by decide +kernel
theorem dt_m15 : dt_mck 15 = true := by decide +kernel
theorem dt_r16 : dt_all (dt_row 16) (dt_co 16) = true := by decide +kernel
theorem dt_m16 : dt_mck 16 = true := by decide +kernel
theorem dt_r17 : dt_all (dt_row 17) (dt_co 17) = true := by decide +kernel
theorem dt_m17 : dt_mck 17 = true := by decide +kernel
theorem dt_r18 : dt_all (dt_row 18) (dt_co 18) = true := by decide +kernel
theorem dt_m18 : dt_mck 18 = true := by decide +kernel
theorem dt_r19 : dt_all (dt_row 19) (dt_co 19) = true := by decide +kernel
theorem dt_m19 : dt_mck 19 = true := by decide +kernel
theorem dt_r20 : dt_all (dt_row 20) (dt_co 20) = true := by decide +kernel
theorem dt_m20 : dt_mck 20 = true := by decide +kernel
theorem dt_r21 : dt_all (dt_row 21) (dt_co 21) = true := by decide +kernel
theorem dt_m21 : dt_mck 21 = true := by decide +kernel
theorem dt_r22 : dt_all (dt_row 22) (dt_co 22) = true := by decide +kernel
theorem dt_m22 : dt_mck 22 = true := by decide +kernel
theorem dt_r23 : dt_all (dt_row 23) (dt_co 23) = true := by decide +kernel
theorem dt_m23 : dt_mck 23 = true := by decide +kernel
theorem dt_r24 : dt_all (dt_row 24) (dt_co 24) = true := by decide +kernel
theorem dt_m24 : dt_mck 24 = true := by decide +kernel
theorem dt_r25 : dt_all (dt_row 25) (dt_co 25) = true := by decide +kernel
theorem dt_m25 : dt_mck 25 = true := by decide +kernel
theorem dt_r26 : dt_all (dt_row 26) (dt_co 26) = true := by decide +kernel
theorem dt_m26 : dt_mck 26 = true := by decide +kernel
theorem dt_r27 : dt_all (dt_row 27) (dt_co 27) = true := by decide +kernel
theorem dt_m27 : dt_mck 27 = true := by decide +kernel
theorem dt_r28 : dt_all (dt_row 28) (dt_co 28) = true := by decide +kernel
theorem dt_m28 : dt_mck 28 = true := by decide +kernel
theorem dt_r29 : dt_all (dt_row 29) (dt_co 29) = true := by decide +kernel
theorem dt_m29 : dt_mck 29 = true := by decide +kernel
theorem dt_r30 : dt_all (dt_row 30) (dt_co 30) = true := by decide +kernel
theorem dt_m30 : dt_mck 30 = true := by decide +kernel
theorem dt_r31 : dt_all (dt_row 31) (dt_co 31) = true := by decide +kernel
theorem dt_m31 : dt_mck 31 = true := by decide +kernel
theorem dt_r32 : dt_all (dt_row 32) (dt_co 32) = true := by decide +kernel
theorem dt_m32 : dt_mck 32 = true := by decide +kernel
theorem dt_r33 : dt_all (dt_row 33) (dt_co 33) = true := by decide +kernel
theorem dt_m33 : dt_mck 33 = true := by decide +kernel
theorem dt_r34 : dt_all (dt_row 34) (dt_co 34) = true := by decide +kernel
theorem dt_m34 : dt_mck 34 = true := by decide +kernel
theorem dt_r35 : dt_all (dt_row 35) (dt_co 35) = true := by decide +kernel
theorem dt_m35 : dt_mck 35 = true := by decide +kernel
theorem dt_r36 : dt_all (dt_row 36) (dt_co 36) = true := by decide +kernel
theorem dt_m36 : dt_mck 36 = true := by decide +kernel
theorem dt_r37 : dt_all (dt_row 37) (dt_co 37) = true := by decide +kernel
theorem dt_m37 : dt_mck 37 = true := by decide +kernel
theorem dt_r38 : dt_all (dt_row 38) (dt_co 38) = true := by decide +kernel
theorem dt_m38 : dt_mck 38 = true := by decide +kernel
theorem dt_r39 : dt_all (dt_row 39) (dt_co 39) = true := by decide +kernel
theorem dt_m39 : dt_mck 39 = true := by decide +kernel
theorem dt_r40 : dt_all (dt_row 40) (dt_co 40) = true := by decide +kernel
theorem dt_m40 : dt_mck 40 = true := by decide +kernel
theorem dt_r41 : dt_all (dt_row 41) (dt_co 41) = true := by decide +kernel
theorem dt_m41 : dt_mck 41 = true := by decide +kernel
theorem dt_r42 : dt_all (dt_row 42) (dt_co 42) = true := by decide +kernel
theorem dt_m42 : dt_mck 42 = true := by decide +kernel
theorem dt_r43 : dt_all (dt_row 43) (dt_co 43) = true := by decide +kernel
theorem dt_m43 : dt_mck 43 = true := by decide +kernel
theorem dt_r44 : dt_all (dt_row 44) (dt_co 44) = true := by decide +kernel
theorem dt_m44 : dt_mck 44 = true := by decide +kernel
theorem dt_r45 : dt_all (dt_row 45) (dt_co 45) = true := by decide +kernel
theorem dt_m45 : dt_mck 45 = true := by decide +kernel
set_option maxRecDepth 10000 in
theorem dt_R1 : ∀ y, y < 46 → dt_all (dt_row y) (dt_co y) = true := (dt_one (dt_one (dt_one (dt_one (dt_one (dt_one (dt_one (dt_one (dt_one (dt_one (dt_one (dt_one (dt_one (dt_one (dt_one (dt_one (dt_one (dt_one (dt_one (dt_one (dt_one (dt_one (dt_one (dt_one (dt_one (dt_one (dt_one (dt_one (dt_one (dt_one (dt_one (dt_one (dt_one (dt_one (dt_one (dt_one (dt_one (dt_one (dt_one (dt_one (dt_one (dt_one (dt_one dt_R0 dt_r3) dt_r4) dt_r5) dt_r6) dt_r7) dt_r8) dt_r9) dt_r10) dt_r11) dt_r12) dt_r13) dt_r14) dt_r15) dt_r16) dt_r17) dt_r18) dt_r19) dt_r20) dt_r21) dt_r22) dt_r23) dt_r24) dt_r25) dt_r26) dt_r27) dt_r28) dt_r29) dt_r30) dt_r31) dt_r32) dt_r33) dt_r34) dt_r35) dt_r36) dt_r37) dt_r38) dt_r39) dt_r40) dt_r41) dt_r42) dt_r43) dt_r44) dt_r45)
set_option maxRecDepth 10000 in
theorem dt_Q1 : ∀ y, y < 46 → 0 < y → dt_mck y = true := (dt_one (dt_one (dt_one (dt_one (dt_one (dt_one (dt_one (dt_one (dt_one (dt_one (dt_one (dt_one (dt_one (dt_one (dt_one (dt_one (dt_one (dt_one (dt_one (dt_one (dt_one (dt_one (dt_one (dt_one (dt_one (dt_one (dt_one (dt_one (dt_one (dt_one (dt_one (dt_one (dt_one (dt_one (dt_one (dt_one (dt_one (dt_one (dt_one (dt_one (dt_one (dt_one (dt_one dt_Q0 (fun _ => dt_m3)) (fun _ => dt_m4)) (fun _ => dt_m5)) (fun _ => dt_m6)) (fun _ => dt_m7)) (fun _ => dt_m8)) (fun _ => dt_m9)) (fun _ => dt_m10)) (fun _ => dt_m11)) (fun _ => dt_m12)) (fun _ => dt_m13)) (fun _ => dt_m14)) (fun _ => dt_m15)) (fun _ => dt_m16)) (fun _ => dt_m17)) (fun _ => dt_m18)) (fun _ => dt_m19)) (fun _ => dt_m20)) (fun _ => dt_m21)) (fun _ => dt_m22)) (fun _ => dt_m23)) (fun _ => dt_m24)) (fun _ => dt_m25)) (fun _ => dt_m26)) (fun _ => dt_m27)) (fun _ => dt_m28)) (fun _ => dt_m29)) (fun _ => dt_m30)) (fun _ => dt_m31)) (fun _ => dt_m32)) (fun _ => dt_m33)) (fun _ => dt_m34)) (fun _ => dt_m35)) (fun _ => dt_m36)) (fun _ => dt_m37)) (fun _ => dt_m38)) (fun _ => dt_m39)) (fun _ => dt_m40)) (fun _ => dt_m41)) (fun _ => dt_m42)) (fun _ => dt_m43)) (fun _ => dt_m44)) (fun _ => dt_m45))
