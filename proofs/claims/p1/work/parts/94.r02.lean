/-! rows of code, decoded and linked -/
theorem dt_r46 : dt_all (dt_row 46) (dt_co 46) = true := by decide +kernel
theorem dt_m46 : dt_mck 46 = true := by decide +kernel
theorem dt_r47 : dt_all (dt_row 47) (dt_co 47) = true := by decide +kernel
theorem dt_m47 : dt_mck 47 = true := by decide +kernel
theorem dt_r48 : dt_all (dt_row 48) (dt_co 48) = true := by decide +kernel
theorem dt_m48 : dt_mck 48 = true := by decide +kernel
theorem dt_r49 : dt_all (dt_row 49) (dt_co 49) = true := by decide +kernel
theorem dt_m49 : dt_mck 49 = true := by decide +kernel
theorem dt_r50 : dt_all (dt_row 50) (dt_co 50) = true := by decide +kernel
theorem dt_m50 : dt_mck 50 = true := by decide +kernel
theorem dt_r51 : dt_all (dt_row 51) (dt_co 51) = true := by decide +kernel
theorem dt_m51 : dt_mck 51 = true := by decide +kernel
theorem dt_r52 : dt_all (dt_row 52) (dt_co 52) = true := by decide +kernel
theorem dt_m52 : dt_mck 52 = true := by decide +kernel
theorem dt_r53 : dt_all (dt_row 53) (dt_co 53) = true := by decide +kernel
theorem dt_m53 : dt_mck 53 = true := by decide +kernel
theorem dt_r54 : dt_all (dt_row 54) (dt_co 54) = true := by decide +kernel
theorem dt_m54 : dt_mck 54 = true := by decide +kernel
theorem dt_r55 : dt_all (dt_row 55) (dt_co 55) = true := by decide +kernel
theorem dt_m55 : dt_mck 55 = true := by decide +kernel
theorem dt_r56 : dt_all (dt_row 56) (dt_co 56) = true := by decide +kernel
theorem dt_m56 : dt_mck 56 = true := by decide +kernel
theorem dt_r57 : dt_all (dt_row 57) (dt_co 57) = true := by decide +kernel
theorem dt_m57 : dt_mck 57 = true := by decide +kernel
theorem dt_r58 : dt_all (dt_row 58) (dt_co 58) = true := by decide +kernel
theorem dt_m58 : dt_mck 58 = true := by decide +kernel
theorem dt_r59 : dt_all (dt_row 59) (dt_co 59) = true := by decide +kernel
theorem dt_m59 : dt_mck 59 = true := by decide +kernel
theorem dt_r60 : dt_all (dt_row 60) (dt_co 60) = true := by decide +kernel
theorem dt_m60 : dt_mck 60 = true := by decide +kernel
theorem dt_r61 : dt_all (dt_row 61) (dt_co 61) = true := by decide +kernel
theorem dt_m61 : dt_mck 61 = true := by decide +kernel
theorem dt_r62 : dt_all (dt_row 62) (dt_co 62) = true := by decide +kernel
theorem dt_m62 : dt_mck 62 = true := by decide +kernel
theorem dt_r63 : dt_all (dt_row 63) (dt_co 63) = true := by decide +kernel
theorem dt_m63 : dt_mck 63 = true := by decide +kernel
theorem dt_r64 : dt_all (dt_row 64) (dt_co 64) = true := by decide +kernel
theorem dt_m64 : dt_mck 64 = true := by decide +kernel
theorem dt_r65 : dt_all (dt_row 65) (dt_co 65) = true := by decide +kernel
theorem dt_m65 : dt_mck 65 = true := by decide +kernel
theorem dt_r66 : dt_all (dt_row 66) (dt_co 66) = true := by decide +kernel
theorem dt_m66 : dt_mck 66 = true := by decide +kernel
theorem dt_r67 : dt_all (dt_row 67) (dt_co 67) = true := by decide +kernel
theorem dt_m67 : dt_mck 67 = true := by decide +kernel
theorem dt_r68 : dt_all (dt_row 68) (dt_co 68) = true := by decide +kernel
theorem dt_m68 : dt_mck 68 = true := by decide +kernel
theorem dt_r69 : dt_all (dt_row 69) (dt_co 69) = true := by decide +kernel
theorem dt_m69 : dt_mck 69 = true := by decide +kernel
theorem dt_r70 : dt_all (dt_row 70) (dt_co 70) = true := by decide +kernel
theorem dt_m70 : dt_mck 70 = true := by decide +kernel
theorem dt_r71 : dt_all (dt_row 71) (dt_co 71) = true := by decide +kernel
theorem dt_m71 : dt_mck 71 = true := by decide +kernel
theorem dt_r72 : dt_all (dt_row 72) (dt_co 72) = true := by decide +kernel
theorem dt_m72 : dt_mck 72 = true := by decide +kernel
theorem dt_r73 : dt_all (dt_row 73) (dt_co 73) = true := by decide +kernel
theorem dt_m73 : dt_mck 73 = true := by decide +kernel
theorem dt_r74 : dt_all (dt_row 74) (dt_co 74) = true := by decide +kernel
theorem dt_m74 : dt_mck 74 = true := by decide +kernel
theorem dt_r75 : dt_all (dt_row 75) (dt_co 75) = true := by decide +kernel
theorem dt_m75 : dt_mck 75 = true := by decide +kernel
theorem dt_r76 : dt_all (dt_row 76) (dt_co 76) = true := by decide +kernel
theorem dt_m76 : dt_mck 76 = true := by decide +kernel
theorem dt_r77 : dt_all (dt_row 77) (dt_co 77) = true := by decide +kernel
theorem dt_m77 : dt_mck 77 = true := by decide +kernel
theorem dt_r78 : dt_all (dt_row 78) (dt_co 78) = true := by decide +kernel
theorem dt_m78 : dt_mck 78 = true := by decide +kernel
theorem dt_r79 : dt_all (dt_row 79) (dt_co 79) = true := by decide +kernel
theorem dt_m79 : dt_mck 79 = true := by decide +kernel
theorem dt_r80 : dt_all (dt_row 80) (dt_co 80) = true := by decide +kernel
theorem dt_m80 : dt_mck 80 = true := by decide +kernel
theorem dt_r81 : dt_all (dt_row 81) (dt_co 81) = true := by decide +kernel
theorem dt_m81 : dt_mck 81 = true := by decide +kernel
theorem dt_r82 : dt_all (dt_row 82) (dt_co 82) = true := by decide +kernel
theorem dt_m82 : dt_mck 82 = true := by decide +kernel
theorem dt_r83 : dt_all (dt_row 83) (dt_co 83) = true := by decide +kernel
theorem dt_m83 : dt_mck 83 = true := by decide +kernel
theorem dt_r84 : dt_all (dt_row 84) (dt_co 84) = true := by decide +kernel
theorem dt_m84 : dt_mck 84 = true := by decide +kernel
theorem dt_r85 : dt_all (dt_row 85) (dt_co 85) = true := by decide +kernel
theorem dt_m85 : dt_mck 85 = true := by decide +kernel
theorem dt_r86 : dt_all (dt_row 86) (dt_co 86) = true := by decide +kernel
theorem dt_m86 : dt_mck 86 = true := by decide +kernel
theorem dt_r87 : dt_all (dt_row 87) (dt_co 87) = true := by decide +kernel
theorem dt_m87 : dt_mck 87 = true := by decide +kernel
theorem dt_r88 : dt_all (dt_row 88) (dt_co 88) = true := by decide +kernel
theorem dt_m88 : dt_mck 88 = true := by decide +kernel
theorem dt_r89 : dt_all (dt_row 89) (dt_co 89) = true := by decide +kernel
theorem dt_m89 : dt_mck 89 = true := by decide +kernel
theorem dt_r90 : dt_all (dt_row 90) (dt_co 90) = true := by decide +kernel
theorem dt_m90 : dt_mck 90 = true := by decide +kernel
theorem dt_r91 : dt_all (dt_row 91) (dt_co 91) = true := by decide +kernel
theorem dt_m91 : dt_mck 91 = true := by decide +kernel
theorem dt_r92 : dt_all (dt_row 92) (dt_co 92) = true := by decide +kernel
theorem dt_m92 : dt_mck 92 = true := by decide +kernel
theorem dt_r93 : dt_all (dt_row 93) (dt_co 93) = true := by decide +kernel
theorem dt_m93 : dt_mck 93 = true := by decide +kernel
set_option maxRecDepth 10000 in
theorem dt_R2 : ∀ y, y < 94 → dt_all (dt_row y) (dt_co y) = true := (dt_one (dt_one (dt_one (dt_one (dt_one (dt_one (dt_one (dt_one (dt_one (dt_one (dt_one (dt_one (dt_one (dt_one (dt_one (dt_one (dt_one (dt_one (dt_one (dt_one (dt_one (dt_one (dt_one (dt_one (dt_one (dt_one (dt_one (dt_one (dt_one (dt_one (dt_one (dt_one (dt_one (dt_one (dt_one (dt_one (dt_one (dt_one (dt_one (dt_one (dt_one (dt_one (dt_one (dt_one (dt_one (dt_one (dt_one (dt_one dt_R1 dt_r46) dt_r47) dt_r48) dt_r49) dt_r50) dt_r51) dt_r52) dt_r53) dt_r54) dt_r55) dt_r56) dt_r57) dt_r58) dt_r59) dt_r60) dt_r61) dt_r62) dt_r63) dt_r64) dt_r65) dt_r66) dt_r67) dt_r68) dt_r69) dt_r70) dt_r71) dt_r72) dt_r73) dt_r74) dt_r75) dt_r76) dt_r77) dt_r78) dt_r79) dt_r80) dt_r81) dt_r82) dt_r83) dt_r84) dt_r85) dt_r86) dt_r87) dt_r88) dt_r89) dt_r90) dt_r91) dt_r92) dt_r93)
set_option maxRecDepth 10000 in
theorem dt_Q2 : ∀ y, y < 94 → 0 < y → dt_mck y = true := (dt_one (dt_one (dt_one (dt_one (dt_one (dt_one (dt_one (dt_one (dt_one (dt_one (dt_one (dt_one (dt_one (dt_one (dt_one (dt_one (dt_one (dt_one (dt_one (dt_one (dt_one (dt_one (dt_one (dt_one (dt_one (dt_one (dt_one (dt_one (dt_one (dt_one (dt_one (dt_one (dt_one (dt_one (dt_one (dt_one (dt_one (dt_one (dt_one (dt_one (dt_one (dt_one (dt_one (dt_one (dt_one (dt_one (dt_one (dt_one dt_Q1 (fun _ => dt_m46)) (fun _ => dt_m47)) (fun _ => dt_m48)) (fun _ => dt_m49)) (fun _ => dt_m50)) (fun _ => dt_m51)) (fun _ => dt_m52)) (fun _ => dt_m53)) (fun _ => dt_m54)) (fun _ => dt_m55)) (fun _ => dt_m56)) (fun _ => dt_m57)) (fun _ => dt_m58)) (fun _ => dt_m59)) (fun _ => dt_m60)) (fun _ => dt_m61)) (fun _ => dt_m62)) (fun _ => dt_m63)) (fun _ => dt_m64)) (fun _ => dt_m65)) (fun _ => dt_m66)) (fun _ => dt_m67)) (fun _ => dt_m68)) (fun _ => dt_m69)) (fun _ => dt_m70)) (fun _ => dt_m71)) (fun _ => dt_m72)) (fun _ => dt_m73)) (fun _ => dt_m74)) (fun _ => dt_m75)) (fun _ => dt_m76)) (fun _ => dt_m77)) (fun _ => dt_m78)) (fun _ => dt_m79)) (fun _ => dt_m80)) (fun _ => dt_m81)) (fun _ => dt_m82)) (fun _ => dt_m83)) (fun _ => dt_m84)) (fun _ => dt_m85)) (fun _ => dt_m86)) (fun _ => dt_m87)) (fun _ => dt_m88)) (fun _ => dt_m89)) (fun _ => dt_m90)) (fun _ => dt_m91)) (fun _ => dt_m92)) (fun _ => dt_m93))
