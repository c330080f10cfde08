/-! calls on a new object -/
set_option maxRecDepth 100000 in
theorem fi_23 : fineL 8 dt_B0 (dt_C 1014) := fine_rl (l := []) (n := 135120) dt_sg8 (fun e he => by cases he) (by decide +kernel)
