/-! rows of code, decoded and linked -/
theorem dt_r254 : dt_all (dt_row 254) (dt_co 254) = true := by decide +kernel
theorem dt_m254 : dt_mck 254 = true := by decide +kernel
theorem dt_r255 : dt_all (dt_row 255) (dt_co 255) = true := by decide +kernel
theorem dt_m255 : dt_mck 255 = true := by decide +kernel
theorem dt_r256 : dt_all (dt_row 256) (dt_co 256) = true := by decide +kernel
theorem dt_m256 : dt_mck 256 = true := by decide +kernel
theorem dt_r257 : dt_all (dt_row 257) (dt_co 257) = true := by decide +kernel
theorem dt_m257 : dt_mck 257 = true := by decide +kernel
theorem dt_r258 : dt_all (dt_row 258) (dt_co 258) = true := by decide +kernel
theorem dt_m258 : dt_mck 258 = true := by decide +kernel
theorem dt_r259 : dt_all (dt_row 259) (dt_co 259) = true := by decide +kernel
theorem dt_m259 : dt_mck 259 = true := by decide +kernel
theorem dt_r260 : dt_all (dt_row 260) (dt_co 260) = true := by decide +kernel
theorem dt_m260 : dt_mck 260 = true := by decide +kernel
theorem dt_r261 : dt_all (dt_row 261) (dt_co 261) = true := by decide +kernel
theorem dt_m261 : dt_mck 261 = true := by decide +kernel
theorem dt_r262 : dt_all (dt_row 262) (dt_co 262) = true := by decide +kernel
theorem dt_m262 : dt_mck 262 = true := by decide +kernel
theorem dt_r263 : dt_all (dt_row 263) (dt_co 263) = true := by decide +kernel
theorem dt_m263 : dt_mck 263 = true := by decide +kernel
theorem dt_r264 : dt_all (dt_row 264) (dt_co 264) = true := by decide +kernel
theorem dt_m264 : dt_mck 264 = true := by decide +kernel
theorem dt_r265 : dt_all (dt_row 265) (dt_co 265) = true := by decide +kernel
theorem dt_m265 : dt_mck 265 = true := by decide +kernel
theorem dt_r266 : dt_all (dt_row 266) (dt_co 266) = true := by decide +kernel
theorem dt_m266 : dt_mck 266 = true := by decide +kernel
theorem dt_r267 : dt_all (dt_row 267) (dt_co 267) = true := by decide +kernel
theorem dt_m267 : dt_mck 267 = true := by decide +kernel
theorem dt_r268 : dt_all (dt_row 268) (dt_co 268) = true := by decide +kernel
theorem dt_m268 : dt_mck 268 = true := by decide +kernel
theorem dt_r269 : dt_all (dt_row 269) (dt_co 269) = true := by decide +kernel
theorem dt_m269 : dt_mck 269 = true := by decide +kernel
theorem dt_r270 : dt_all (dt_row 270) (dt_co 270) = true := by decide +kernel
theorem dt_m270 : dt_mck 270 = true := by decide +kernel
theorem dt_r271 : dt_all (dt_row 271) (dt_co 271) = true := by decide +kernel
theorem dt_m271 : dt_mck 271 = true := by decide +kernel
theorem dt_r272 : dt_all (dt_row 272) (dt_co 272) = true := by decide +kernel
theorem dt_m272 : dt_mck 272 = true := by decide +kernel
theorem dt_r273 : dt_all (dt_row 273) (dt_co 273) = true := by decide +kernel
theorem dt_m273 : dt_mck 273 = true := by decide +kernel
theorem dt_r274 : dt_all (dt_row 274) (dt_co 274) = true := by decide +kernel
theorem dt_m274 : dt_mck 274 = true := by decide +kernel
theorem dt_r275 : dt_all (dt_row 275) (dt_co 275) = true := by decide +kernel
theorem dt_m275 : dt_mck 275 = true := by decide +kernel
theorem dt_r276 : dt_all (dt_row 276) (dt_co 276) = true := by decide +kernel
theorem dt_m276 : dt_mck 276 = true := by decide +kernel
theorem dt_r277 : dt_all (dt_row 277) (dt_co 277) = true := by decide +kernel
theorem dt_m277 : dt_mck 277 = true := by decide +kernel
theorem dt_r278 : dt_all (dt_row 278) (dt_co 278) = true := by decide +kernel
theorem dt_m278 : dt_mck 278 = true := by decide +kernel
theorem dt_r279 : dt_all (dt_row 279) (dt_co 279) = true := by decide +kernel
theorem dt_m279 : dt_mck 279 = true := by decide +kernel
theorem dt_r280 : dt_all (dt_row 280) (dt_co 280) = true := by decide +kernel
theorem dt_m280 : dt_mck 280 = true := by decide +kernel
theorem dt_r281 : dt_all (dt_row 281) (dt_co 281) = true := by decide +kernel
theorem dt_m281 : dt_mck 281 = true := by decide +kernel
theorem dt_r282 : dt_all (dt_row 282) (dt_co 282) = true := by decide +kernel
theorem dt_m282 : dt_mck 282 = true := by decide +kernel
theorem dt_r283 : dt_all (dt_row 283) (dt_co 283) = true := by decide +kernel
theorem dt_m283 : dt_mck 283 = true := by decide +kernel
theorem dt_r284 : dt_all (dt_row 284) (dt_co 284) = true := by decide +kernel
theorem dt_m284 : dt_mck 284 = true := by decide +kernel
theorem dt_r285 : dt_all (dt_row 285) (dt_co 285) = true := by decide +kernel
theorem dt_m285 : dt_mck 285 = true := by decide +kernel
theorem dt_r286 : dt_all (dt_row 286) (dt_co 286) = true := by decide +kernel
theorem dt_m286 : dt_mck 286 = true := by decide +kernel
theorem dt_r287 : dt_all (dt_row 287) (dt_co 287) = true := by decide +kernel
theorem dt_m287 : dt_mck 287 = true := by decide +kernel
set_option maxRecDepth 10000 in
theorem dt_R7 : ∀ y, y < 288 → dt_all (dt_row y) (dt_co y) = true := (dt_one (dt_one (dt_one (dt_one (dt_one (dt_one (dt_one (dt_one (dt_one (dt_one (dt_one (dt_one (dt_one (dt_one (dt_one (dt_one (dt_one (dt_one (dt_one (dt_one (dt_one (dt_one (dt_one (dt_one (dt_one (dt_one (dt_one (dt_one (dt_one (dt_one (dt_one (dt_one (dt_one (dt_one dt_R6 dt_r254) dt_r255) dt_r256) dt_r257) dt_r258) dt_r259) dt_r260) dt_r261) dt_r262) dt_r263) dt_r264) dt_r265) dt_r266) dt_r267) dt_r268) dt_r269) dt_r270) dt_r271) dt_r272) dt_r273) dt_r274) dt_r275) dt_r276) dt_r277) dt_r278) dt_r279) dt_r280) dt_r281) dt_r282) dt_r283) dt_r284) dt_r285) dt_r286) dt_r287)
set_option maxRecDepth 10000 in
theorem dt_Q7 : ∀ y, y < 288 → 0 < y → dt_mck y = true := (dt_one (dt_one (dt_one (dt_one (dt_one (dt_one (dt_one (dt_one (dt_one (dt_one (dt_one (dt_one (dt_one (dt_one (dt_one (dt_one (dt_one (dt_one (dt_one (dt_one (dt_one (dt_one (dt_one (dt_one (dt_one (dt_one (dt_one (dt_one (dt_one (dt_one (dt_one (dt_one (dt_one (dt_one dt_Q6 (fun _ => dt_m254)) (fun _ => dt_m255)) (fun _ => dt_m256)) (fun _ => dt_m257)) (fun _ => dt_m258)) (fun _ => dt_m259)) (fun _ => dt_m260)) (fun _ => dt_m261)) (fun _ => dt_m262)) (fun _ => dt_m263)) (fun _ => dt_m264)) (fun _ => dt_m265)) (fun _ => dt_m266)) (fun _ => dt_m267)) (fun _ => dt_m268)) (fun _ => dt_m269)) (fun _ => dt_m270)) (fun _ => dt_m271)) (fun _ => dt_m272)) (fun _ => dt_m273)) (fun _ => dt_m274)) (fun _ => dt_m275)) (fun _ => dt_m276)) (fun _ => dt_m277)) (fun _ => dt_m278)) (fun _ => dt_m279)) (fun _ => dt_m280)) (fun _ => dt_m281)) (fun _ => dt_m282)) (fun _ => dt_m283)) (fun _ => dt_m284)) (fun _ => dt_m285)) (fun _ => dt_m286)) (fun _ => dt_m287))
