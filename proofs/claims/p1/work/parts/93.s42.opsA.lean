/-! calls on a new object -/
set_option maxRecDepth 100000 in
theorem fi_0 : fineL 8 dt_B0 (dt_C 248) := fine_rl (l := []) (n := 1048) dt_sg8 (fun e he => by cases he) (by decide +kernel)
set_option maxRecDepth 100000 in
theorem fi_5 : fineL 8 dt_B0 (dt_C 363) := fine_rl (l := []) (n := 33150) dt_sg8 (fun e he => by cases he) (by decide +kernel)
set_option maxRecDepth 100000 in
theorem fi_6 : fineL 8 dt_B0 (dt_C 406) := fine_rl (l := []) (n := 4106) dt_sg8 (fun e he => by cases he) (by decide +kernel)
set_option maxRecDepth 100000 in
theorem fi_8 : fineL 8 dt_B0 (dt_C 482) := fine_rl (l := []) (n := 5092) dt_sg8 (fun e he => by cases he) (by decide +kernel)
set_option maxRecDepth 100000 in
theorem fi_9 : fineL 8 dt_B0 (dt_C 515) := fine_rl (l := []) (n := 72342) dt_sg8 (fun e he => by cases he) (by decide +kernel)
set_option maxRecDepth 100000 in
theorem fi_10 : fineL 8 dt_B0 (dt_C 559) := fine_rl (l := []) (n := 2704) dt_sg8 (fun e he => by cases he) (by decide +kernel)
set_option maxRecDepth 100000 in
theorem fi_14 : fineL 8 dt_B0 (dt_C 721) := fine_rl (l := []) (n := 1422) dt_sg8 (fun e he => by cases he) (by decide +kernel)
set_option maxRecDepth 100000 in
theorem fi_15 : fineL 8 dt_B0 (dt_C 744) := fine_rl (l := []) (n := 1466) dt_sg8 (fun e he => by cases he) (by decide +kernel)
set_option maxRecDepth 100000 in
theorem fi_16 : fineL 8 dt_B0 (dt_C 767) := fine_rl (l := []) (n := 1096) dt_sg8 (fun e he => by cases he) (by decide +kernel)
set_option maxRecDepth 100000 in
theorem fi_17 : fineL 8 dt_B0 (dt_C 780) := fine_rl (l := []) (n := 2180) dt_sg8 (fun e he => by cases he) (by decide +kernel)
set_option maxRecDepth 100000 in
theorem fi_18 : fineL 8 dt_B0 (dt_C 823) := fine_rl (l := []) (n := 35422) dt_sg8 (fun e he => by cases he) (by decide +kernel)
set_option maxRecDepth 100000 in
theorem fi_32 : fineL 8 dt_B0 (dt_C 1315) := fine_rl (l := []) (n := 1296) dt_sg8 (fun e he => by cases he) (by decide +kernel)
set_option maxRecDepth 100000 in
theorem fi_33 : fineL 8 dt_B0 (dt_C 1338) := fine_rl (l := []) (n := 1122) dt_sg8 (fun e he => by cases he) (by decide +kernel)
set_option maxRecDepth 100000 in
theorem fi_34 : fineL 8 dt_B0 (dt_C 1351) := fine_rl (l := []) (n := 1634) dt_sg8 (fun e he => by cases he) (by decide +kernel)
set_option maxRecDepth 100000 in
theorem fi_35 : fineL 8 dt_B0 (dt_C 1384) := fine_rl (l := []) (n := 2068) dt_sg8 (fun e he => by cases he) (by decide +kernel)
set_option maxRecDepth 100000 in
theorem fi_36 : fineL 8 dt_B0 (dt_C 1427) := fine_rl (l := []) (n := 1634) dt_sg8 (fun e he => by cases he) (by decide +kernel)
set_option maxRecDepth 100000 in
theorem fi_37 : fineL 8 dt_B0 (dt_C 1460) := fine_rl (l := []) (n := 1344) dt_sg8 (fun e he => by cases he) (by decide +kernel)
set_option maxRecDepth 100000 in
theorem fi_38 : fineL 8 dt_B0 (dt_C 1483) := fine_rl (l := []) (n := 1682) dt_sg8 (fun e he => by cases he) (by decide +kernel)
set_option maxRecDepth 100000 in
theorem fi_39 : fineL 8 dt_B0 (dt_C 1516) := fine_rl (l := []) (n := 1344) dt_sg8 (fun e he => by cases he) (by decide +kernel)
set_option maxRecDepth 100000 in
theorem fi_40 : fineL 8 dt_B0 (dt_C 1539) := fine_rl (l := []) (n := 1914) dt_sg8 (fun e he => by cases he) (by decide +kernel)
set_option maxRecDepth 100000 in
theorem fi_41 : fineL 8 dt_B0 (dt_C 1562) := fine_rl (l := []) (n := 1546) dt_sg8 (fun e he => by cases he) (by decide +kernel)
set_option maxRecDepth 100000 in
theorem fi_42 : fineL 8 dt_B0 (dt_C 1585) := fine_rl (l := []) (n := 1296) dt_sg8 (fun e he => by cases he) (by decide +kernel)
set_option maxRecDepth 100000 in
theorem fi_43 : fineL 8 dt_B0 (dt_C 1608) := fine_rl (l := []) (n := 1116) dt_sg8 (fun e he => by cases he) (by decide +kernel)
set_option maxRecDepth 100000 in
theorem fi_44 : fineL 8 dt_B0 (dt_C 1621) := fine_rl (l := []) (n := 3040) dt_sg8 (fun e he => by cases he) (by decide +kernel)
set_option maxRecDepth 100000 in
theorem fi_45 : fineL 8 dt_B0 (dt_C 1684) := fine_rl (l := []) (n := 6168) dt_sg8 (fun e he => by cases he) (by decide +kernel)
set_option maxRecDepth 100000 in
theorem fi_46 : fineL 8 dt_B0 (dt_C 1707) := fine_rl (l := []) (n := 1284) dt_sg8 (fun e he => by cases he) (by decide +kernel)
set_option maxRecDepth 100000 in
theorem fi_47 : fineL 8 dt_B0 (dt_C 1730) := fine_rl (l := []) (n := 1136) dt_sg8 (fun e he => by cases he) (by decide +kernel)
set_option maxRecDepth 100000 in
theorem fi_48 : fineL 8 dt_B0 (dt_C 1743) := fine_rl (l := []) (n := 1248) dt_sg8 (fun e he => by cases he) (by decide +kernel)
set_option maxRecDepth 100000 in
theorem fi_49 : fineL 8 dt_B0 (dt_C 1766) := fine_rl (l := []) (n := 1406) dt_sg8 (fun e he => by cases he) (by decide +kernel)
