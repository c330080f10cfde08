/-! calls on a new object -/
set_option maxRecDepth 100000 in
theorem fi_21 : fineL 8 dt_B0 (dt_C 922) := fine_rl (l := []) (n := 82038) dt_sg8 (fun e he => by cases he) (by decide +kernel)
