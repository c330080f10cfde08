/-! rows of code, decoded and linked -/
theorem dt_r350 : dt_all (dt_row 350) (dt_co 350) = true := by decide +kernel
theorem dt_m350 : dt_mck 350 = true := by decide +kernel
theorem dt_r351 : dt_all (dt_row 351) (dt_co 351) = true := by decide +kernel
theorem dt_m351 : dt_mck 351 = true := by decide +kernel
theorem dt_r352 : dt_all (dt_row 352) (dt_co 352) = true := by decide +kernel
theorem dt_m352 : dt_mck 352 = true := by decide +kernel
theorem dt_r353 : dt_all (dt_row 353) (dt_co 353) = true := by decide +kernel
theorem dt_m353 : dt_mck 353 = true := by decide +kernel
theorem dt_r354 : dt_all (dt_row 354) (dt_co 354) = true := by decide +kernel
theorem dt_m354 : dt_mck 354 = true := by decide +kernel
theorem dt_r355 : dt_all (dt_row 355) (dt_co 355) = true := by decide +kernel
theorem dt_m355 : dt_mck 355 = true := by decide +kernel
theorem dt_r356 : dt_all (dt_row 356) (dt_co 356) = true := by decide +kernel
theorem dt_m356 : dt_mck 356 = true := by decide +kernel
theorem dt_r357 : dt_all (dt_row 357) (dt_co 357) = true := by decide +kernel
theorem dt_m357 : dt_mck 357 = true := by decide +kernel
theorem dt_r358 : dt_all (dt_row 358) (dt_co 358) = true := by decide +kernel
theorem dt_m358 : dt_mck 358 = true := by decide +kernel
theorem dt_r359 : dt_all (dt_row 359) (dt_co 359) = true := by decide +kernel
theorem dt_r360 : dt_all (dt_row 360) (dt_co 360) = true := by decide +kernel
theorem dt_r361 : dt_all (dt_row 361) (dt_co 361) = true := by decide +kernel
theorem dt_r362 : dt_all (dt_row 362) (dt_co 362) = true := by decide +kernel
theorem dt_r363 : dt_all (dt_row 363) (dt_co 363) = true := by decide +kernel
theorem dt_r364 : dt_all (dt_row 364) (dt_co 364) = true := by decide +kernel
theorem dt_r365 : dt_all (dt_row 365) (dt_co 365) = true := by decide +kernel
theorem dt_m365 : dt_mck 365 = true := by decide +kernel
theorem dt_m366 : dt_mck 366 = true := by decide +kernel
theorem dt_m367 : dt_mck 367 = true := by decide +kernel
set_option maxRecDepth 10000 in
theorem dt_R10 : ∀ y, y < 366 → dt_all (dt_row y) (dt_co y) = true := (dt_one (dt_one (dt_one (dt_one (dt_one (dt_one (dt_one (dt_one (dt_one (dt_one (dt_one (dt_one (dt_one (dt_one (dt_one (dt_one dt_R9 dt_r350) dt_r351) dt_r352) dt_r353) dt_r354) dt_r355) dt_r356) dt_r357) dt_r358) dt_r359) dt_r360) dt_r361) dt_r362) dt_r363) dt_r364) dt_r365)
set_option maxRecDepth 10000 in
theorem dt_Q10 : ∀ y, y < 359 → 0 < y → dt_mck y = true := (dt_one (dt_one (dt_one (dt_one (dt_one (dt_one (dt_one (dt_one (dt_one dt_Q9 (fun _ => dt_m350)) (fun _ => dt_m351)) (fun _ => dt_m352)) (fun _ => dt_m353)) (fun _ => dt_m354)) (fun _ => dt_m355)) (fun _ => dt_m356)) (fun _ => dt_m357)) (fun _ => dt_m358))
