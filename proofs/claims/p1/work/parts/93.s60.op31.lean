/-! calls on a new object -/
set_option maxRecDepth 100000 in
theorem fi_31 : fineL 8 dt_B0 (dt_C 1292) := fine_rl (l := []) (n := 80632) dt_sg8 (fun e he => by cases he) (by decide +kernel)
