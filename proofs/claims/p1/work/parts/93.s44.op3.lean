/-! calls on a new object -/
def cb_3_158_259 : sB := [((Int.negSucc 2147483647), (Int.ofNat 2147483647)), ((Int.ofNat 14), (Int.ofNat 14)), ((Int.negSucc 2147483647), (Int.ofNat 2147483647)), ((Int.negSucc 2147483647), (Int.ofNat 2147483647)), ((Int.negSucc 2147483647), (Int.ofNat 2147483647)), ((Int.negSucc 2147483647), (Int.ofNat 2147483647)), ((Int.negSucc 2147483647), (Int.ofNat 2147483647)), ((Int.negSucc 2147483647), (Int.ofNat 2147483647))]
def ck_3_158_259 : sSt := (39, (158, 259, [some (.inl (eR 64)), some (.inr (.inl (.inl 1)))], []), [(0, 316, [some (.inl (eR 1)), some (.inl (eR 64)), some (.inl (eR 98)), some (.inl (eI (Int.ofNat 0)))], [])], me_0)
def cb_3_158_247 : sB := [((Int.negSucc 2147483647), (Int.ofNat 2147483647)), ((Int.ofNat 13), (Int.ofNat 13)), ((Int.negSucc 2147483647), (Int.ofNat 2147483647)), ((Int.negSucc 2147483647), (Int.ofNat 2147483647)), ((Int.negSucc 2147483647), (Int.ofNat 2147483647)), ((Int.negSucc 2147483647), (Int.ofNat 2147483647)), ((Int.negSucc 2147483647), (Int.ofNat 2147483647)), ((Int.negSucc 2147483647), (Int.ofNat 2147483647))]
def ck_3_158_247 : sSt := (39, (158, 247, [some (.inl (eR 64)), some (.inr (.inl (.inl 1)))], []), [(0, 316, [some (.inl (eR 1)), some (.inl (eR 64)), some (.inl (eR 98)), some (.inl (eI (Int.ofNat 0)))], [])], me_0)
def cb_3_158_235 : sB := [((Int.negSucc 2147483647), (Int.ofNat 2147483647)), ((Int.ofNat 12), (Int.ofNat 12)), ((Int.negSucc 2147483647), (Int.ofNat 2147483647)), ((Int.negSucc 2147483647), (Int.ofNat 2147483647)), ((Int.negSucc 2147483647), (Int.ofNat 2147483647)), ((Int.negSucc 2147483647), (Int.ofNat 2147483647)), ((Int.negSucc 2147483647), (Int.ofNat 2147483647)), ((Int.negSucc 2147483647), (Int.ofNat 2147483647))]
def ck_3_158_235 : sSt := (39, (158, 235, [some (.inl (eR 64)), some (.inr (.inl (.inl 1)))], []), [(0, 316, [some (.inl (eR 1)), some (.inl (eR 64)), some (.inl (eR 98)), some (.inl (eI (Int.ofNat 0)))], [])], me_0)
def cb_3_158_213 : sB := [((Int.negSucc 2147483647), (Int.ofNat 2147483647)), ((Int.ofNat 11), (Int.ofNat 11)), ((Int.negSucc 2147483647), (Int.ofNat 2147483647)), ((Int.negSucc 2147483647), (Int.ofNat 2147483647)), ((Int.negSucc 2147483647), (Int.ofNat 2147483647)), ((Int.negSucc 2147483647), (Int.ofNat 2147483647)), ((Int.negSucc 2147483647), (Int.ofNat 2147483647)), ((Int.negSucc 2147483647), (Int.ofNat 2147483647))]
def ck_3_158_213 : sSt := (39, (158, 213, [some (.inl (eR 64)), some (.inr (.inl (.inl 1)))], []), [(0, 316, [some (.inl (eR 1)), some (.inl (eR 64)), some (.inl (eR 98)), some (.inl (eI (Int.ofNat 0)))], [])], me_0)
def cb_3_158_201 : sB := [((Int.negSucc 2147483647), (Int.ofNat 2147483647)), ((Int.ofNat 10), (Int.ofNat 10)), ((Int.negSucc 2147483647), (Int.ofNat 2147483647)), ((Int.negSucc 2147483647), (Int.ofNat 2147483647)), ((Int.negSucc 2147483647), (Int.ofNat 2147483647)), ((Int.negSucc 2147483647), (Int.ofNat 2147483647)), ((Int.negSucc 2147483647), (Int.ofNat 2147483647)), ((Int.negSucc 2147483647), (Int.ofNat 2147483647))]
def ck_3_158_201 : sSt := (39, (158, 201, [some (.inl (eR 64)), some (.inr (.inl (.inl 1)))], []), [(0, 316, [some (.inl (eR 1)), some (.inl (eR 64)), some (.inl (eR 98)), some (.inl (eI (Int.ofNat 0)))], [])], me_0)
def cb_3_158_189 : sB := [((Int.negSucc 2147483647), (Int.ofNat 2147483647)), ((Int.ofNat 9), (Int.ofNat 9)), ((Int.negSucc 2147483647), (Int.ofNat 2147483647)), ((Int.negSucc 2147483647), (Int.ofNat 2147483647)), ((Int.negSucc 2147483647), (Int.ofNat 2147483647)), ((Int.negSucc 2147483647), (Int.ofNat 2147483647)), ((Int.negSucc 2147483647), (Int.ofNat 2147483647)), ((Int.negSucc 2147483647), (Int.ofNat 2147483647))]
def ck_3_158_189 : sSt := (39, (158, 189, [some (.inl (eR 64)), some (.inr (.inl (.inl 1)))], []), [(0, 316, [some (.inl (eR 1)), some (.inl (eR 64)), some (.inl (eR 98)), some (.inl (eI (Int.ofNat 0)))], [])], me_0)
def cb_3_158_177 : sB := [((Int.negSucc 2147483647), (Int.ofNat 2147483647)), ((Int.ofNat 8), (Int.ofNat 8)), ((Int.negSucc 2147483647), (Int.ofNat 2147483647)), ((Int.negSucc 2147483647), (Int.ofNat 2147483647)), ((Int.negSucc 2147483647), (Int.ofNat 2147483647)), ((Int.negSucc 2147483647), (Int.ofNat 2147483647)), ((Int.negSucc 2147483647), (Int.ofNat 2147483647)), ((Int.negSucc 2147483647), (Int.ofNat 2147483647))]
def ck_3_158_177 : sSt := (39, (158, 177, [some (.inl (eR 64)), some (.inr (.inl (.inl 1)))], []), [(0, 316, [some (.inl (eR 1)), some (.inl (eR 64)), some (.inl (eR 98)), some (.inl (eI (Int.ofNat 0)))], [])], me_0)
def cb_3_158_165 : sB := [((Int.negSucc 2147483647), (Int.ofNat 2147483647)), ((Int.ofNat 7), (Int.ofNat 7)), ((Int.negSucc 2147483647), (Int.ofNat 2147483647)), ((Int.negSucc 2147483647), (Int.ofNat 2147483647)), ((Int.negSucc 2147483647), (Int.ofNat 2147483647)), ((Int.negSucc 2147483647), (Int.ofNat 2147483647)), ((Int.negSucc 2147483647), (Int.ofNat 2147483647)), ((Int.negSucc 2147483647), (Int.ofNat 2147483647))]
def ck_3_158_165 : sSt := (39, (158, 165, [some (.inl (eR 64)), some (.inr (.inl (.inl 1)))], []), [(0, 316, [some (.inl (eR 1)), some (.inl (eR 64)), some (.inl (eR 98)), some (.inl (eI (Int.ofNat 0)))], [])], me_0)
def cb_3_158_150 : sB := [((Int.negSucc 2147483647), (Int.ofNat 2147483647)), ((Int.ofNat 6), (Int.ofNat 6)), ((Int.negSucc 2147483647), (Int.ofNat 2147483647)), ((Int.negSucc 2147483647), (Int.ofNat 2147483647)), ((Int.negSucc 2147483647), (Int.ofNat 2147483647)), ((Int.negSucc 2147483647), (Int.ofNat 2147483647)), ((Int.negSucc 2147483647), (Int.ofNat 2147483647)), ((Int.negSucc 2147483647), (Int.ofNat 2147483647))]
def ck_3_158_150 : sSt := (39, (158, 150, [some (.inl (eR 64)), some (.inr (.inl (.inl 1)))], []), [(0, 316, [some (.inl (eR 1)), some (.inl (eR 64)), some (.inl (eR 98)), some (.inl (eI (Int.ofNat 0)))], [])], me_0)
def cb_3_158_138 : sB := [((Int.negSucc 2147483647), (Int.ofNat 2147483647)), ((Int.ofNat 5), (Int.ofNat 5)), ((Int.negSucc 2147483647), (Int.ofNat 2147483647)), ((Int.negSucc 2147483647), (Int.ofNat 2147483647)), ((Int.negSucc 2147483647), (Int.ofNat 2147483647)), ((Int.negSucc 2147483647), (Int.ofNat 2147483647)), ((Int.negSucc 2147483647), (Int.ofNat 2147483647)), ((Int.negSucc 2147483647), (Int.ofNat 2147483647))]
def ck_3_158_138 : sSt := (39, (158, 138, [some (.inl (eR 64)), some (.inr (.inl (.inl 1)))], []), [(0, 316, [some (.inl (eR 1)), some (.inl (eR 64)), some (.inl (eR 98)), some (.inl (eI (Int.ofNat 0)))], [])], me_0)
def cb_3_158_125 : sB := [((Int.negSucc 2147483647), (Int.ofNat 2147483647)), ((Int.ofNat 4), (Int.ofNat 4)), ((Int.negSucc 2147483647), (Int.ofNat 2147483647)), ((Int.negSucc 2147483647), (Int.ofNat 2147483647)), ((Int.negSucc 2147483647), (Int.ofNat 2147483647)), ((Int.negSucc 2147483647), (Int.ofNat 2147483647)), ((Int.negSucc 2147483647), (Int.ofNat 2147483647)), ((Int.negSucc 2147483647), (Int.ofNat 2147483647))]
def ck_3_158_125 : sSt := (39, (158, 125, [some (.inl (eR 64)), some (.inr (.inl (.inl 1)))], []), [(0, 316, [some (.inl (eR 1)), some (.inl (eR 64)), some (.inl (eR 98)), some (.inl (eI (Int.ofNat 0)))], [])], me_0)
def cb_3_158_112 : sB := [((Int.negSucc 2147483647), (Int.ofNat 2147483647)), ((Int.ofNat 3), (Int.ofNat 3)), ((Int.negSucc 2147483647), (Int.ofNat 2147483647)), ((Int.negSucc 2147483647), (Int.ofNat 2147483647)), ((Int.negSucc 2147483647), (Int.ofNat 2147483647)), ((Int.negSucc 2147483647), (Int.ofNat 2147483647)), ((Int.negSucc 2147483647), (Int.ofNat 2147483647)), ((Int.negSucc 2147483647), (Int.ofNat 2147483647))]
def ck_3_158_112 : sSt := (39, (158, 112, [some (.inl (eR 64)), some (.inr (.inl (.inl 1)))], []), [(0, 316, [some (.inl (eR 1)), some (.inl (eR 64)), some (.inl (eR 98)), some (.inl (eI (Int.ofNat 0)))], [])], me_0)
def cb_3_158_100 : sB := [((Int.negSucc 2147483647), (Int.ofNat 2147483647)), ((Int.ofNat 2), (Int.ofNat 2)), ((Int.negSucc 2147483647), (Int.ofNat 2147483647)), ((Int.negSucc 2147483647), (Int.ofNat 2147483647)), ((Int.negSucc 2147483647), (Int.ofNat 2147483647)), ((Int.negSucc 2147483647), (Int.ofNat 2147483647)), ((Int.negSucc 2147483647), (Int.ofNat 2147483647)), ((Int.negSucc 2147483647), (Int.ofNat 2147483647))]
def ck_3_158_100 : sSt := (39, (158, 100, [some (.inl (eR 64)), some (.inr (.inl (.inl 1)))], []), [(0, 316, [some (.inl (eR 1)), some (.inl (eR 64)), some (.inl (eR 98)), some (.inl (eI (Int.ofNat 0)))], [])], me_0)
def cb_3_158_88 : sB := [((Int.negSucc 2147483647), (Int.ofNat 2147483647)), ((Int.ofNat 1), (Int.ofNat 1)), ((Int.negSucc 2147483647), (Int.ofNat 2147483647)), ((Int.negSucc 2147483647), (Int.ofNat 2147483647)), ((Int.negSucc 2147483647), (Int.ofNat 2147483647)), ((Int.negSucc 2147483647), (Int.ofNat 2147483647)), ((Int.negSucc 2147483647), (Int.ofNat 2147483647)), ((Int.negSucc 2147483647), (Int.ofNat 2147483647))]
def ck_3_158_88 : sSt := (39, (158, 88, [some (.inl (eR 64)), some (.inr (.inl (.inl 1)))], []), [(0, 316, [some (.inl (eR 1)), some (.inl (eR 64)), some (.inl (eR 98)), some (.inl (eI (Int.ofNat 0)))], [])], me_0)
def cb_3_158_76 : sB := [((Int.negSucc 2147483647), (Int.ofNat 2147483647)), ((Int.ofNat 0), (Int.ofNat 0)), ((Int.negSucc 2147483647), (Int.ofNat 2147483647)), ((Int.negSucc 2147483647), (Int.ofNat 2147483647)), ((Int.negSucc 2147483647), (Int.ofNat 2147483647)), ((Int.negSucc 2147483647), (Int.ofNat 2147483647)), ((Int.negSucc 2147483647), (Int.ofNat 2147483647)), ((Int.negSucc 2147483647), (Int.ofNat 2147483647))]
def ck_3_158_76 : sSt := (39, (158, 76, [some (.inl (eR 64)), some (.inr (.inl (.inl 1)))], []), [(0, 316, [some (.inl (eR 1)), some (.inl (eR 64)), some (.inl (eR 98)), some (.inl (eI (Int.ofNat 0)))], [])], me_0)
set_option maxRecDepth 100000 in
theorem fi_3_158_76 : fineL 8 cb_3_158_76 ck_3_158_76 := fine_rl (l := []) (n := 1130) dt_sg8 (fun e he => by cases he) (by decide +kernel)
set_option maxRecDepth 100000 in
theorem fi_3_158_88 : fineL 8 cb_3_158_88 ck_3_158_88 := fine_rl (l := []) (n := 1130) dt_sg8 (fun e he => by cases he) (by decide +kernel)
set_option maxRecDepth 100000 in
theorem fi_3_158_100 : fineL 8 cb_3_158_100 ck_3_158_100 := fine_rl (l := []) (n := 1130) dt_sg8 (fun e he => by cases he) (by decide +kernel)
set_option maxRecDepth 100000 in
theorem fi_3_158_112 : fineL 8 cb_3_158_112 ck_3_158_112 := fine_rl (l := []) (n := 1780) dt_sg8 (fun e he => by cases he) (by decide +kernel)
set_option maxRecDepth 100000 in
theorem fi_3_158_125 : fineL 8 cb_3_158_125 ck_3_158_125 := fine_rl (l := []) (n := 1740) dt_sg8 (fun e he => by cases he) (by decide +kernel)
set_option maxRecDepth 100000 in
theorem fi_3_158_138 : fineL 8 cb_3_158_138 ck_3_158_138 := fine_rl (l := []) (n := 78788) dt_sg8 (fun e he => by cases he) (by decide +kernel)
set_option maxRecDepth 100000 in
theorem fi_3_158_150 : fineL 8 cb_3_158_150 ck_3_158_150 := fine_rl (l := []) (n := 1132) dt_sg8 (fun e he => by cases he) (by decide +kernel)
set_option maxRecDepth 100000 in
theorem fi_3_158_165 : fineL 8 cb_3_158_165 ck_3_158_165 := fine_rl (l := []) (n := 89166) dt_sg8 (fun e he => by cases he) (by decide +kernel)
set_option maxRecDepth 100000 in
theorem fi_3_158_177 : fineL 8 cb_3_158_177 ck_3_158_177 := fine_rl (l := []) (n := 79512) dt_sg8 (fun e he => by cases he) (by decide +kernel)
set_option maxRecDepth 100000 in
theorem fi_3_158_189 : fineL 8 cb_3_158_189 ck_3_158_189 := fine_rl (l := []) (n := 83682) dt_sg8 (fun e he => by cases he) (by decide +kernel)
set_option maxRecDepth 100000 in
theorem fi_3_158_201 : fineL 8 cb_3_158_201 ck_3_158_201 := fine_rl (l := []) (n := 83642) dt_sg8 (fun e he => by cases he) (by decide +kernel)
set_option maxRecDepth 100000 in
theorem fi_3_158_213 : fineL 8 cb_3_158_213 ck_3_158_213 := fine_rl (l := []) (n := 78802) dt_sg8 (fun e he => by cases he) (by decide +kernel)
set_option maxRecDepth 100000 in
theorem fi_3_158_235 : fineL 8 cb_3_158_235 ck_3_158_235 := fine_rl (l := []) (n := 89680) dt_sg8 (fun e he => by cases he) (by decide +kernel)
set_option maxRecDepth 100000 in
theorem fi_3_158_247 : fineL 8 cb_3_158_247 ck_3_158_247 := fine_rl (l := []) (n := 1130) dt_sg8 (fun e he => by cases he) (by decide +kernel)
set_option maxRecDepth 100000 in
theorem fi_3_158_259 : fineL 8 cb_3_158_259 ck_3_158_259 := fine_rl (l := []) (n := 1152) dt_sg8 (fun e he => by cases he) (by decide +kernel)
set_option maxRecDepth 100000 in
theorem fi_3 : fineL 8 dt_B0 (dt_C 307) := fine_rl (l := [(158, 76, cb_3_158_76, ck_3_158_76), (158, 88, cb_3_158_88, ck_3_158_88), (158, 100, cb_3_158_100, ck_3_158_100), (158, 112, cb_3_158_112, ck_3_158_112), (158, 125, cb_3_158_125, ck_3_158_125), (158, 138, cb_3_158_138, ck_3_158_138), (158, 150, cb_3_158_150, ck_3_158_150), (158, 165, cb_3_158_165, ck_3_158_165), (158, 177, cb_3_158_177, ck_3_158_177), (158, 189, cb_3_158_189, ck_3_158_189), (158, 201, cb_3_158_201, ck_3_158_201), (158, 213, cb_3_158_213, ck_3_158_213), (158, 235, cb_3_158_235, ck_3_158_235), (158, 247, cb_3_158_247, ck_3_158_247), (158, 259, cb_3_158_259, ck_3_158_259)]) (n := 1298) dt_sg8 (by
  intro e he
  simp only [List.mem_cons, List.not_mem_nil, or_false] at he
  rcases he with rfl | rfl | rfl | rfl | rfl | rfl | rfl | rfl | rfl | rfl | rfl | rfl | rfl | rfl | rfl
  · exact fi_3_158_76
  · exact fi_3_158_88
  · exact fi_3_158_100
  · exact fi_3_158_112
  · exact fi_3_158_125
  · exact fi_3_158_138
  · exact fi_3_158_150
  · exact fi_3_158_165
  · exact fi_3_158_177
  · exact fi_3_158_189
  · exact fi_3_158_201
  · exact fi_3_158_213
  · exact fi_3_158_235
  · exact fi_3_158_247
  · exact fi_3_158_259) (by decide +kernel)
