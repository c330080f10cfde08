/-! rows of code, decoded and linked -/
theorem dt_r94 : dt_all (dt_row 94) (dt_co 94) = true := by decide +kernel
theorem dt_m94 : dt_mck 94 = true := by decide +kernel
theorem dt_r95 : dt_all (dt_row 95) (dt_co 95) = true := by decide +kernel
theorem dt_m95 : dt_mck 95 = true := by decide +kernel
theorem dt_r96 : dt_all (dt_row 96) (dt_co 96) = true := by decide +kernel
theorem dt_m96 : dt_mck 96 = true := by decide +kernel
theorem dt_r97 : dt_all (dt_row 97) (dt_co 97) = true := by decide +kernel
theorem dt_m97 : dt_mck 97 = true := by decide +kernel
theorem dt_r98 : dt_all (dt_row 98) (dt_co 98) = true := by decide +kernel
theorem dt_m98 : dt_mck 98 = true := by decide +kernel
theorem dt_r99 : dt_all (dt_row 99) (dt_co 99) = true := by decide +kernel
theorem dt_m99 : dt_mck 99 = true := by decide +kernel
theorem dt_r100 : dt_all (dt_row 100) (dt_co 100) = true := by decide +kernel
theorem dt_m100 : dt_mck 100 = true := by decide +kernel
theorem dt_r101 : dt_all (dt_row 101) (dt_co 101) = true := by decide +kernel
theorem dt_m101 : dt_mck 101 = true := by decide +kernel
theorem dt_r102 : dt_all (dt_row 102) (dt_co 102) = true := by decide +kernel
theorem dt_m102 : dt_mck 102 = true := by decide +kernel
theorem dt_r103 : dt_all (dt_row 103) (dt_co 103) = true := by decide +kernel
theorem dt_m103 : dt_mck 103 = true := by decide +kernel
theorem dt_r104 : dt_all (dt_row 104) (dt_co 104) = true := by decide +kernel
theorem dt_m104 : dt_mck 104 = true := by decide +kernel
theorem dt_r105 : dt_all (dt_row 105) (dt_co 105) = true := by decide +kernel
theorem dt_m105 : dt_mck 105 = true := by decide +kernel
theorem dt_r106 : dt_all (dt_row 106) (dt_co 106) = true := by decide +kernel
theorem dt_m106 : dt_mck 106 = true := by decide +kernel
theorem dt_r107 : dt_all (dt_row 107) (dt_co 107) = true := by decide +kernel
theorem dt_m107 : dt_mck 107 = true := by decide +kernel
theorem dt_r108 : dt_all (dt_row 108) (dt_co 108) = true := by decide +kernel
theorem dt_m108 : dt_mck 108 = true := by decide +kernel
theorem dt_r109 : dt_all (dt_row 109) (dt_co 109) = true := by decide +kernel
theorem dt_m109 : dt_mck 109 = true := by decide +kernel
theorem dt_r110 : dt_all (dt_row 110) (dt_co 110) = true := by decide +kernel
theorem dt_m110 : dt_mck 110 = true := by decide +kernel
theorem dt_r111 : dt_all (dt_row 111) (dt_co 111) = true := by decide +kernel
theorem dt_m111 : dt_mck 111 = true := by decide +kernel
theorem dt_r112 : dt_all (dt_row 112) (dt_co 112) = true := by decide +kernel
theorem dt_m112 : dt_mck 112 = true := by decide +kernel
theorem dt_r113 : dt_all (dt_row 113) (dt_co 113) = true := by decide +kernel
theorem dt_m113 : dt_mck 113 = true := by decide +kernel
theorem dt_r114 : dt_all (dt_row 114) (dt_co 114) = true := by decide +kernel
theorem dt_m114 : dt_mck 114 = true := by decide +kernel
theorem dt_r115 : dt_all (dt_row 115) (dt_co 115) = true := by decide +kernel
theorem dt_m115 : dt_mck 115 = true := by decide +kernel
theorem dt_r116 : dt_all (dt_row 116) (dt_co 116) = true := by decide +kernel
theorem dt_m116 : dt_mck 116 = true := by decide +kernel
theorem dt_r117 : dt_all (dt_row 117) (dt_co 117) = true := by decide +kernel
theorem dt_m117 : dt_mck 117 = true := by decide +kernel
theorem dt_r118 : dt_all (dt_row 118) (dt_co 118) = true := by decide +kernel
theorem dt_m118 : dt_mck 118 = true := by decide +kernel
theorem dt_r119 : dt_all (dt_row 119) (dt_co 119) = true := by decide +kernel
theorem dt_m119 : dt_mck 119 = true := by decide +kernel
theorem dt_r120 : dt_all (dt_row 120) (dt_co 120) = true := by decide +kernel
theorem dt_m120 : dt_mck 120 = true := by decide +kernel
theorem dt_r121 : dt_all (dt_row 121) (dt_co 121) = true := by decide +kernel
theorem dt_m121 : dt_mck 121 = true := by decide +kernel
theorem dt_r122 : dt_all (dt_row 122) (dt_co 122) = true := by decide +kernel
theorem dt_m122 : dt_mck 122 = true := by decide +kernel
theorem dt_r123 : dt_all (dt_row 123) (dt_co 123) = true := by decide +kernel
theorem dt_m123 : dt_mck 123 = true := by decide +kernel
theorem dt_r124 : dt_all (dt_row 124) (dt_co 124) = true := by decide +kernel
theorem dt_m124 : dt_mck 124 = true := by decide +kernel
theorem dt_r125 : dt_all (dt_row 125) (dt_co 125) = true := by decide +kernel
theorem dt_m125 : dt_mck 125 = true := by decide +kernel
theorem dt_r126 : dt_all (dt_row 126) (dt_co 126) = true := by decide +kernel
theorem dt_m126 : dt_mck 126 = true := by decide +kernel
theorem dt_r127 : dt_all (dt_row 127) (dt_co 127) = true := by decide +kernel
theorem dt_m127 : dt_mck 127 = true := by decide +kernel
theorem dt_r128 : dt_all (dt_row 128) (dt_co 128) = true := by decide +kernel
theorem dt_m128 : dt_mck 128 = true := by decide +kernel
theorem dt_r129 : dt_all (dt_row 129) (dt_co 129) = true := by decide +kernel
theorem dt_m129 : dt_mck 129 = true := by decide +kernel
theorem dt_r130 : dt_all (dt_row 130) (dt_co 130) = true := by decide +kernel
theorem dt_m130 : dt_mck 130 = true := by decide +kernel
theorem dt_r131 : dt_all (dt_row 131) (dt_co 131) = true := by decide +kernel
theorem dt_m131 : dt_mck 131 = true := by decide +kernel
theorem dt_r132 : dt_all (dt_row 132) (dt_co 132) = true := by decide +kernel
theorem dt_m132 : dt_mck 132 = true := by decide +kernel
theorem dt_r133 : dt_all (dt_row 133) (dt_co 133) = true := by decide +kernel
theorem dt_m133 : dt_mck 133 = true := by decide +kernel
theorem dt_r134 : dt_all (dt_row 134) (dt_co 134) = true := by decide +kernel
theorem dt_m134 : dt_mck 134 = true := by decide +kernel
theorem dt_r135 : dt_all (dt_row 135) (dt_co 135) = true := by decide +kernel
theorem dt_m135 : dt_mck 135 = true := by decide +kernel
theorem dt_r136 : dt_all (dt_row 136) (dt_co 136) = true := by decide +kernel
theorem dt_m136 : dt_mck 136 = true := by decide +kernel
theorem dt_r137 : dt_all (dt_row 137) (dt_co 137) = true := by decide +kernel
theorem dt_m137 : dt_mck 137 = true := by decide +kernel
set_option maxRecDepth 10000 in
theorem dt_R3 : ∀ y, y < 138 → dt_all (dt_row y) (dt_co y) = true := (dt_one (dt_one (dt_one (dt_one (dt_one (dt_one (dt_one (dt_one (dt_one (dt_one (dt_one (dt_one (dt_one (dt_one (dt_one (dt_one (dt_one (dt_one (dt_one (dt_one (dt_one (dt_one (dt_one (dt_one (dt_one (dt_one (dt_one (dt_one (dt_one (dt_one (dt_one (dt_one (dt_one (dt_one (dt_one (dt_one (dt_one (dt_one (dt_one (dt_one (dt_one (dt_one (dt_one (dt_one dt_R2 dt_r94) dt_r95) dt_r96) dt_r97) dt_r98) dt_r99) dt_r100) dt_r101) dt_r102) dt_r103) dt_r104) dt_r105) dt_r106) dt_r107) dt_r108) dt_r109) dt_r110) dt_r111) dt_r112) dt_r113) dt_r114) dt_r115) dt_r116) dt_r117) dt_r118) dt_r119) dt_r120) dt_r121) dt_r122) dt_r123) dt_r124) dt_r125) dt_r126) dt_r127) dt_r128) dt_r129) dt_r130) dt_r131) dt_r132) dt_r133) dt_r134) dt_r135) dt_r136) dt_r137)
set_option maxRecDepth 10000 in
theorem dt_Q3 : ∀ y, y < 138 → 0 < y → dt_mck y = true := (dt_one (dt_one (dt_one (dt_one (dt_one (dt_one (dt_one (dt_one (dt_one (dt_one (dt_one (dt_one (dt_one (dt_one (dt_one (dt_one (dt_one (dt_one (dt_one (dt_one (dt_one (dt_one (dt_one (dt_one (dt_one (dt_one (dt_one (dt_one (dt_one (dt_one (dt_one (dt_one (dt_one (dt_one (dt_one (dt_one (dt_one (dt_one (dt_one (dt_one (dt_one (dt_one (dt_one (dt_one dt_Q2 (fun _ => dt_m94)) (fun _ => dt_m95)) (fun _ => dt_m96)) (fun _ => dt_m97)) (fun _ => dt_m98)) (fun _ => dt_m99)) (fun _ => dt_m100)) (fun _ => dt_m101)) (fun _ => dt_m102)) (fun _ => dt_m103)) (fun _ => dt_m104)) (fun _ => dt_m105)) (fun _ => dt_m106)) (fun _ => dt_m107)) (fun _ => dt_m108)) (fun _ => dt_m109)) (fun _ => dt_m110)) (fun _ => dt_m111)) (fun _ => dt_m112)) (fun _ => dt_m113)) (fun _ => dt_m114)) (fun _ => dt_m115)) (fun _ => dt_m116)) (fun _ => dt_m117)) (fun _ => dt_m118)) (fun _ => dt_m119)) (fun _ => dt_m120)) (fun _ => dt_m121)) (fun _ => dt_m122)) (fun _ => dt_m123)) (fun _ => dt_m124)) (fun _ => dt_m125)) (fun _ => dt_m126)) (fun _ => dt_m127)) (fun _ => dt_m128)) (fun _ => dt_m129)) (fun _ => dt_m130)) (fun _ => dt_m131)) (fun _ => dt_m132)) (fun _ => dt_m133)) (fun _ => dt_m134)) (fun _ => dt_m135)) (fun _ => dt_m136)) (fun _ => dt_m137))
