/-! calls on a new object -/
set_option maxRecDepth 100000 in
theorem fi_28 : fineL 8 dt_B0 (dt_C 1149) := fine_rl (l := []) (n := 90404) dt_sg8 (fun e he => by cases he) (by decide +kernel)
