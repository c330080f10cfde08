/-! calls on a new object -/
set_option maxRecDepth 100000 in
theorem fi_25 : fineL 8 dt_B0 (dt_C 1060) := fine_rl (l := []) (n := 96370) dt_sg8 (fun e he => by cases he) (by decide +kernel)
