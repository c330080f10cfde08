/-! rows of code, decoded and linked -/
theorem dt_r288 : dt_all (dt_row 288) (dt_co 288) = true := by decide +kernel
theorem dt_m288 : dt_mck 288 = true := by decide +kernel
theorem dt_r289 : dt_all (dt_row 289) (dt_co 289) = true := by decide +kernel
theorem dt_m289 : dt_mck 289 = true := by decide +kernel
theorem dt_r290 : dt_all (dt_row 290) (dt_co 290) = true := by decide +kernel
theorem dt_m290 : dt_mck 290 = true := by decide +kernel
theorem dt_r291 : dt_all (dt_row 291) (dt_co 291) = true := by decide +kernel
theorem dt_m291 : dt_mck 291 = true := by decide +kernel
theorem dt_r292 : dt_all (dt_row 292) (dt_co 292) = true := by decide +kernel
theorem dt_m292 : dt_mck 292 = true := by decide +kernel
theorem dt_r293 : dt_all (dt_row 293) (dt_co 293) = true := by decide +kernel
theorem dt_m293 : dt_mck 293 = true := by decide +kernel
theorem dt_r294 : dt_all (dt_row 294) (dt_co 294) = true := by decide +kernel
theorem dt_m294 : dt_mck 294 = true := by decide +kernel
theorem dt_r295 : dt_all (dt_row 295) (dt_co 295) = true := by decide +kernel
theorem dt_m295 : dt_mck 295 = true := by decide +kernel
theorem dt_r296 : dt_all (dt_row 296) (dt_co 296) = true := by decide +kernel
theorem dt_m296 : dt_mck 296 = true := by decide +kernel
theorem dt_r297 : dt_all (dt_row 297) (dt_co 297) = true := by decide +kernel
theorem dt_m297 : dt_mck 297 = true := by decide +kernel
theorem dt_r298 : dt_all (dt_row 298) (dt_co 298) = true := by decide +kernel
theorem dt_m298 : dt_mck 298 = true := by decide +kernel
theorem dt_r299 : dt_all (dt_row 299) (dt_co 299) = true := by decide +kernel
theorem dt_m299 : dt_mck 299 = true := by decide +kernel
theorem dt_r300 : dt_all (dt_row 300) (dt_co 300) = true := by decide +kernel
theorem dt_m300 : dt_mck 300 = true := by decide +kernel
theorem dt_r301 : dt_all (dt_row 301) (dt_co 301) = true := by decide +kernel
theorem dt_m301 : dt_mck 301 = true := by decide +kernel
theorem dt_r302 : dt_all (dt_row 302) (dt_co 302) = true := by decide +kernel
theorem dt_m302 : dt_mck 302 = true := by decide +kernel
theorem dt_r303 : dt_all (dt_row 303) (dt_co 303) = true := by decide +kernel
theorem dt_m303 : dt_mck 303 = true := by decide +kernel
theorem dt_r304 : dt_all (dt_row 304) (dt_co 304) = true := by decide +kernel
theorem dt_m304 : dt_mck 304 = true := by decide +kernel
theorem dt_r305 : dt_all (dt_row 305) (dt_co 305) = true := by decide +kernel
theorem dt_m305 : dt_mck 305 = true := by decide +kernel
theorem dt_r306 : dt_all (dt_row 306) (dt_co 306) = true := by decide +kernel
theorem dt_m306 : dt_mck 306 = true := by decide +kernel
theorem dt_r307 : dt_all (dt_row 307) (dt_co 307) = true := by decide +kernel
theorem dt_m307 : dt_mck 307 = true := by decide +kernel
theorem dt_r308 : dt_all (dt_row 308) (dt_co 308) = true := by decide +kernel
theorem dt_m308 : dt_mck 308 = true := by decide +kernel
theorem dt_r309 : dt_all (dt_row 309) (dt_co 309) = true := by decide +kernel
theorem dt_m309 : dt_mck 309 = true := by decide +kernel
theorem dt_r310 : dt_all (dt_row 310) (dt_co 310) = true := by decide +kernel
theorem dt_m310 : dt_mck 310 = true := by decide +kernel
theorem dt_r311 : dt_all (dt_row 311) (dt_co 311) = true := by decide +kernel
theorem dt_m311 : dt_mck 311 = true := by decide +kernel
theorem dt_r312 : dt_all (dt_row 312) (dt_co 312) = true := by decide +kernel
theorem dt_m312 : dt_mck 312 = true := by decide +kernel
theorem dt_r313 : dt_all (dt_row 313) (dt_co 313) = true := by decide +kernel
theorem dt_m313 : dt_mck 313 = true := by decide +kernel
theorem dt_r314 : dt_all (dt_row 314) (dt_co 314) = true := by decide +kernel
theorem dt_m314 : dt_mck 314 = true := by decide +kernel
set_option maxRecDepth 10000 in
theorem dt_R8 : ∀ y, y < 315 → dt_all (dt_row y) (dt_co y) = true := (dt_one (dt_one (dt_one (dt_one (dt_one (dt_one (dt_one (dt_one (dt_one (dt_one (dt_one (dt_one (dt_one (dt_one (dt_one (dt_one (dt_one (dt_one (dt_one (dt_one (dt_one (dt_one (dt_one (dt_one (dt_one (dt_one (dt_one dt_R7 dt_r288) dt_r289) dt_r290) dt_r291) dt_r292) dt_r293) dt_r294) dt_r295) dt_r296) dt_r297) dt_r298) dt_r299) dt_r300) dt_r301) dt_r302) dt_r303) dt_r304) dt_r305) dt_r306) dt_r307) dt_r308) dt_r309) dt_r310) dt_r311) dt_r312) dt_r313) dt_r314)
set_option maxRecDepth 10000 in
theorem dt_Q8 : ∀ y, y < 315 → 0 < y → dt_mck y = true := (dt_one (dt_one (dt_one (dt_one (dt_one (dt_one (dt_one (dt_one (dt_one (dt_one (dt_one (dt_one (dt_one (dt_one (dt_one (dt_one (dt_one (dt_one (dt_one (dt_one (dt_one (dt_one (dt_one (dt_one (dt_one (dt_one (dt_one dt_Q7 (fun _ => dt_m288)) (fun _ => dt_m289)) (fun _ => dt_m290)) (fun _ => dt_m291)) (fun _ => dt_m292)) (fun _ => dt_m293)) (fun _ => dt_m294)) (fun _ => dt_m295)) (fun _ => dt_m296)) (fun _ => dt_m297)) (fun _ => dt_m298)) (fun _ => dt_m299)) (fun _ => dt_m300)) (fun _ => dt_m301)) (fun _ => dt_m302)) (fun _ => dt_m303)) (fun _ => dt_m304)) (fun _ => dt_m305)) (fun _ => dt_m306)) (fun _ => dt_m307)) (fun _ => dt_m308)) (fun _ => dt_m309)) (fun _ => dt_m310)) (fun _ => dt_m311)) (fun _ => dt_m312)) (fun _ => dt_m313)) (fun _ => dt_m314))
