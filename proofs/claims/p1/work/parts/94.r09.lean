/-! rows of code, decoded and linked -/
theorem dt_r315 : dt_all (dt_row 315) (dt_co 315) = true := by decide +kernel
theorem dt_m315 : dt_mck 315 = true := by decide +kernel
theorem dt_r316 : dt_all (dt_row 316) (dt_co 316) = true := by decide +kernel
theorem dt_m316 : dt_mck 316 = true := by decide +kernel
theorem dt_r317 : dt_all (dt_row 317) (dt_co 317) = true := by decide +kernel
theorem dt_m317 : dt_mck 317 = true := by decide +kernel
theorem dt_r318 : dt_all (dt_row 318) (dt_co 318) = true := by decide +kernel
theorem dt_m318 : dt_mck 318 = true := by decide +kernel
theorem dt_r319 : dt_all (dt_row 319) (dt_co 319) = true := by decide +kernel
theorem dt_m319 : dt_mck 319 = true := by decide +kernel
theorem dt_r320 : dt_all (dt_row 320) (dt_co 320) = true := by decide +kernel
theorem dt_m320 : dt_mck 320 = true := by decide +kernel
theorem dt_r321 : dt_all (dt_row 321) (dt_co 321) = true := by decide +kernel
theorem dt_m321 : dt_mck 321 = true := by decide +kernel
theorem dt_r322 : dt_all (dt_row 322) (dt_co 322) = true := by decide +kernel
theorem dt_m322 : dt_mck 322 = true := by decide +kernel
theorem dt_r323 : dt_all (dt_row 323) (dt_co 323) = true := by decide +kernel
theorem dt_m323 : dt_mck 323 = true := by decide +kernel
theorem dt_r324 : dt_all (dt_row 324) (dt_co 324) = true := by decide +kernel
theorem dt_m324 : dt_mck 324 = true := by decide +kernel
theorem dt_r325 : dt_all (dt_row 325) (dt_co 325) = true := by decide +kernel
theorem dt_m325 : dt_mck 325 = true := by decide +kernel
theorem dt_r326 : dt_all (dt_row 326) (dt_co 326) = true := by decide +kernel
theorem dt_m326 : dt_mck 326 = true := by decide +kernel
theorem dt_r327 : dt_all (dt_row 327) (dt_co 327) = true := by decide +kernel
theorem dt_m327 : dt_mck 327 = true := by decide +kernel
theorem dt_r328 : dt_all (dt_row 328) (dt_co 328) = true := by decide +kernel
theorem dt_m328 : dt_mck 328 = true := by decide +kernel
theorem dt_r329 : dt_all (dt_row 329) (dt_co 329) = true := by decide +kernel
theorem dt_m329 : dt_mck 329 = true := by decide +kernel
theorem dt_r330 : dt_all (dt_row 330) (dt_co 330) = true := by decide +kernel
theorem dt_m330 : dt_mck 330 = true := by decide +kernel
theorem dt_r331 : dt_all (dt_row 331) (dt_co 331) = true := by decide +kernel
theorem dt_m331 : dt_mck 331 = true := by decide +kernel
theorem dt_r332 : dt_all (dt_row 332) (dt_co 332) = true := by decide +kernel
theorem dt_m332 : dt_mck 332 = true := by decide +kernel
theorem dt_r333 : dt_all (dt_row 333) (dt_co 333) = true := by decide +kernel
theorem dt_m333 : dt_mck 333 = true := by decide +kernel
theorem dt_r334 : dt_all (dt_row 334) (dt_co 334) = true := by decide +kernel
theorem dt_m334 : dt_mck 334 = true := by decide +kernel
theorem dt_r335 : dt_all (dt_row 335) (dt_co 335) = true := by decide +kernel
theorem dt_m335 : dt_mck 335 = true := by decide +kernel
theorem dt_r336 : dt_all (dt_row 336) (dt_co 336) = true := by decide +kernel
theorem dt_m336 : dt_mck 336 = true := by decide +kernel
theorem dt_r337 : dt_all (dt_row 337) (dt_co 337) = true := by decide +kernel
theorem dt_m337 : dt_mck 337 = true := by decide +kernel
theorem dt_r338 : dt_all (dt_row 338) (dt_co 338) = true := by decide +kernel
theorem dt_m338 : dt_mck 338 = true := by decide +kernel
theorem dt_r339 : dt_all (dt_row 339) (dt_co 339) = true := by decide +kernel
theorem dt_m339 : dt_mck 339 = true := by decide +kernel
theorem dt_r340 : dt_all (dt_row 340) (dt_co 340) = true := by decide +kernel
theorem dt_m340 : dt_mck 340 = true := by decide +kernel
theorem dt_r341 : dt_all (dt_row 341) (dt_co 341) = true := by decide +kernel
theorem dt_m341 : dt_mck 341 = true := by decide +kernel
theorem dt_r342 : dt_all (dt_row 342) (dt_co 342) = true := by decide +kernel
theorem dt_m342 : dt_mck 342 = true := by decide +kernel
theorem dt_r343 : dt_all (dt_row 343) (dt_co 343) = true := by decide +kernel
theorem dt_m343 : dt_mck 343 = true := by decide +kernel
theorem dt_r344 : dt_all (dt_row 344) (dt_co 344) = true := by decide +kernel
theorem dt_m344 : dt_mck 344 = true := by decide +kernel
theorem dt_r345 : dt_all (dt_row 345) (dt_co 345) = true := by decide +kernel
theorem dt_m345 : dt_mck 345 = true := by decide +kernel
theorem dt_r346 : dt_all (dt_row 346) (dt_co 346) = true := by decide +kernel
theorem dt_m346 : dt_mck 346 = true := by decide +kernel
theorem dt_r347 : dt_all (dt_row 347) (dt_co 347) = true := by decide +kernel
theorem dt_m347 : dt_mck 347 = true := by decide +kernel
theorem dt_r348 : dt_all (dt_row 348) (dt_co 348) = true := by decide +kernel
theorem dt_m348 : dt_mck 348 = true := by decide +kernel
theorem dt_r349 : dt_all (dt_row 349) (dt_co 349) = true := by decide +kernel
theorem dt_m349 : dt_mck 349 = true := by decide +kernel
set_option maxRecDepth 10000 in
theorem dt_R9 : ∀ y, y < 350 → dt_all (dt_row y) (dt_co y) = true := (dt_one (dt_one (dt_one (dt_one (dt_one (dt_one (dt_one (dt_one (dt_one (dt_one (dt_one (dt_one (dt_one (dt_one (dt_one (dt_one (dt_one (dt_one (dt_one (dt_one (dt_one (dt_one (dt_one (dt_one (dt_one (dt_one (dt_one (dt_one (dt_one (dt_one (dt_one (dt_one (dt_one (dt_one (dt_one dt_R8 dt_r315) dt_r316) dt_r317) dt_r318) dt_r319) dt_r320) dt_r321) dt_r322) dt_r323) dt_r324) dt_r325) dt_r326) dt_r327) dt_r328) dt_r329) dt_r330) dt_r331) dt_r332) dt_r333) dt_r334) dt_r335) dt_r336) dt_r337) dt_r338) dt_r339) dt_r340) dt_r341) dt_r342) dt_r343) dt_r344) dt_r345) dt_r346) dt_r347) dt_r348) dt_r349)
set_option maxRecDepth 10000 in
theorem dt_Q9 : ∀ y, y < 350 → 0 < y → dt_mck y = true := (dt_one (dt_one (dt_one (dt_one (dt_one (dt_one (dt_one (dt_one (dt_one (dt_one (dt_one (dt_one (dt_one (dt_one (dt_one (dt_one (dt_one (dt_one (dt_one (dt_one (dt_one (dt_one (dt_one (dt_one (dt_one (dt_one (dt_one (dt_one (dt_one (dt_one (dt_one (dt_one (dt_one (dt_one (dt_one dt_Q8 (fun _ => dt_m315)) (fun _ => dt_m316)) (fun _ => dt_m317)) (fun _ => dt_m318)) (fun _ => dt_m319)) (fun _ => dt_m320)) (fun _ => dt_m321)) (fun _ => dt_m322)) (fun _ => dt_m323)) (fun _ => dt_m324)) (fun _ => dt_m325)) (fun _ => dt_m326)) (fun _ => dt_m327)) (fun _ => dt_m328)) (fun _ => dt_m329)) (fun _ => dt_m330)) (fun _ => dt_m331)) (fun _ => dt_m332)) (fun _ => dt_m333)) (fun _ => dt_m334)) (fun _ => dt_m335)) (fun _ => dt_m336)) (fun _ => dt_m337)) (fun _ => dt_m338)) (fun _ => dt_m339)) (fun _ => dt_m340)) (fun _ => dt_m341)) (fun _ => dt_m342)) (fun _ => dt_m343)) (fun _ => dt_m344)) (fun _ => dt_m345)) (fun _ => dt_m346)) (fun _ => dt_m347)) (fun _ => dt_m348)) (fun _ => dt_m349))
