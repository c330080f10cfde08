/-! calls on a new object -/
set_option maxRecDepth 100000 in
theorem fi_27 : fineL 8 dt_B0 (dt_C 1126) := fine_rl (l := []) (n := 89798) dt_sg8 (fun e he => by cases he) (by decide +kernel)
