/-! calls on a new object -/
set_option maxRecDepth 100000 in
theorem fi_12 : fineL 8 dt_B0 (dt_C 635) := fine_rl (l := []) (n := 258532) dt_sg8 (fun e he => by cases he) (by decide +kernel)
