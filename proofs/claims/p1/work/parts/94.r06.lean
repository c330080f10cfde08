/-! rows of code, decoded and linked -/
theorem dt_r229 : dt_all (dt_row 229) (dt_co 229) = true := by decide +kernel
theorem dt_m229 : dt_mck 229 = true := by decide +kernel
theorem dt_r230 : dt_all (dt_row 230) (dt_co 230) = true := by decide +kernel
theorem dt_m230 : dt_mck 230 = true := by decide +kernel
theorem dt_r231 : dt_all (dt_row 231) (dt_co 231) = true := by decide +kernel
theorem dt_m231 : dt_mck 231 = true := by decide +kernel
theorem dt_r232 : dt_all (dt_row 232) (dt_co 232) = true := by decide +kernel
theorem dt_m232 : dt_mck 232 = true := by decide +kernel
theorem dt_r233 : dt_all (dt_row 233) (dt_co 233) = true := by decide +kernel
theorem dt_m233 : dt_mck 233 = true := by decide +kernel
theorem dt_r234 : dt_all (dt_row 234) (dt_co 234) = true := by decide +kernel
theorem dt_m234 : dt_mck 234 = true := by decide +kernel
theorem dt_r235 : dt_all (dt_row 235) (dt_co 235) = true := by decide +kernel
theorem dt_m235 : dt_mck 235 = true := by decide +kernel
theorem dt_r236 : dt_all (dt_row 236) (dt_co 236) = true := by decide +kernel
theorem dt_m236 : dt_mck 236 = true := by decide +kernel
theorem dt_r237 : dt_all (dt_row 237) (dt_co 237) = true := by decide +kernel
theorem dt_m237 : dt_mck 237 = true := by decide +kernel
theorem dt_r238 : dt_all (dt_row 238) (dt_co 238) = true := by decide +kernel
theorem dt_m238 : dt_mck 238 = true := by decide +kernel
theorem dt_r239 : dt_all (dt_row 239) (dt_co 239) = true := by decide +kernel
theorem dt_m239 : dt_mck 239 = true := by decide +kernel
theorem dt_r240 : dt_all (dt_row 240) (dt_co 240) = true := by decide +kernel
theorem dt_m240 : dt_mck 240 = true := by decide +kernel
theorem dt_r241 : dt_all (dt_row 241) (dt_co 241) = true := by decide +kernel
theorem dt_m241 : dt_mck 241 = true := by decide +kernel
theorem dt_r242 : dt_all (dt_row 242) (dt_co 242) = true := by decide +kernel
theorem dt_m242 : dt_mck 242 = true := by decide +kernel
theorem dt_r243 : dt_all (dt_row 243) (dt_co 243) = true := by decide +kernel
theorem dt_m243 : dt_mck 243 = true := by decide +kernel
theorem dt_r244 : dt_all (dt_row 244) (dt_co 244) = true := by decide +kernel
theorem dt_m244 : dt_mck 244 = true := by decide +kernel
theorem dt_r245 : dt_all (dt_row 245) (dt_co 245) = true := by decide +kernel
theorem dt_m245 : dt_mck 245 = true := by decide +kernel
theorem dt_r246 : dt_all (dt_row 246) (dt_co 246) = true := by decide +kernel
theorem dt_m246 : dt_mck 246 = true := by decide +kernel
theorem dt_r247 : dt_all (dt_row 247) (dt_co 247) = true := by decide +kernel
theorem dt_m247 : dt_mck 247 = true := by decide +kernel
theorem dt_r248 : dt_all (dt_row 248) (dt_co 248) = true := by decide +kernel
theorem dt_m248 : dt_mck 248 = true := by decide +kernel
theorem dt_r249 : dt_all (dt_row 249) (dt_co 249) = true := by decide +kernel
theorem dt_m249 : dt_mck 249 = true := by decide +kernel
theorem dt_r250 : dt_all (dt_row 250) (dt_co 250) = true := by decide +kernel
theorem dt_m250 : dt_mck 250 = true := by decide +kernel
theorem dt_r251 : dt_all (dt_row 251) (dt_co 251) = true := by decide +kernel
theorem dt_m251 : dt_mck 251 = true := by decide +kernel
theorem dt_r252 : dt_all (dt_row 252) (dt_co 252) = true := by decide +kernel
theorem dt_m252 : dt_mck 252 = true := by decide +kernel
theorem dt_r253 : dt_all (dt_row 253) (dt_co 253) = true := by decide +kernel
theorem dt_m253 : dt_mck 253 = true := by decide +kernel
set_option maxRecDepth 10000 in
theorem dt_R6 : ∀ y, y < 254 → dt_all (dt_row y) (dt_co y) = true := (dt_one (dt_one (dt_one (dt_one (dt_one (dt_one (dt_one (dt_one (dt_one (dt_one (dt_one (dt_one (dt_one (dt_one (dt_one (dt_one (dt_one (dt_one (dt_one (dt_one (dt_one (dt_one (dt_one (dt_one (dt_one dt_R5 dt_r229) dt_r230) dt_r231) dt_r232) dt_r233) dt_r234) dt_r235) dt_r236) dt_r237) dt_r238) dt_r239) dt_r240) dt_r241) dt_r242) dt_r243) dt_r244) dt_r245) dt_r246) dt_r247) dt_r248) dt_r249) dt_r250) dt_r251) dt_r252) dt_r253)
set_option maxRecDepth 10000 in
theorem dt_Q6 : ∀ y, y < 254 → 0 < y → dt_mck y = true := (dt_one (dt_one (dt_one (dt_one (dt_one (dt_one (dt_one (dt_one (dt_one (dt_one (dt_one (dt_one (dt_one (dt_one (dt_one (dt_one (dt_one (dt_one (dt_one (dt_one (dt_one (dt_one (dt_one (dt_one (dt_one dt_Q5 (fun _ => dt_m229)) (fun _ => dt_m230)) (fun _ => dt_m231)) (fun _ => dt_m232)) (fun _ => dt_m233)) (fun _ => dt_m234)) (fun _ => dt_m235)) (fun _ => dt_m236)) (fun _ => dt_m237)) (fun _ => dt_m238)) (fun _ => dt_m239)) (fun _ => dt_m240)) (fun _ => dt_m241)) (fun _ => dt_m242)) (fun _ => dt_m243)) (fun _ => dt_m244)) (fun _ => dt_m245)) (fun _ => dt_m246)) (fun _ => dt_m247)) (fun _ => dt_m248)) (fun _ => dt_m249)) (fun _ => dt_m250)) (fun _ => dt_m251)) (fun _ => dt_m252)) (fun _ => dt_m253))
