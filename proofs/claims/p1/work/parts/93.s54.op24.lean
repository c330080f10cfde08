/-! calls on a new object -/
set_option maxRecDepth 100000 in
theorem fi_24 : fineL 8 dt_B0 (dt_C 1037) := fine_rl (l := []) (n := 186790) dt_sg8 (fun e he => by cases he) (by decide +kernel)
