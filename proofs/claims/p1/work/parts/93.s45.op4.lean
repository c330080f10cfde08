/-! calls on a new object -/
def cb_4_159_168 : sB := [((Int.negSucc 2147483647), (Int.ofNat 2147483647)), ((Int.ofNat 0), (Int.ofNat 9)), ((Int.ofNat 5), (Int.ofNat 5)), ((Int.negSucc 2147483647), (Int.ofNat 2147483647)), ((Int.negSucc 2147483647), (Int.ofNat 2147483647)), ((Int.negSucc 2147483647), (Int.ofNat 2147483647)), ((Int.negSucc 2147483647), (Int.ofNat 2147483647)), ((Int.negSucc 2147483647), (Int.ofNat 2147483647))]
def ck_4_159_168 : sSt := (39, (159, 168, [some (.inl (eR 64)), some (.inr (.inl (.inl 1))), some (.inr (.inl (.inl 2)))], []), [(0, 344, [some (.inl (eR 1)), some (.inl (eR 64)), some (.inl (eR 98)), some (.inl (eI (Int.ofNat 0)))], [])], me_0)
def cb_4_159_155 : sB := [((Int.negSucc 2147483647), (Int.ofNat 2147483647)), ((Int.ofNat 0), (Int.ofNat 9)), ((Int.ofNat 4), (Int.ofNat 4)), ((Int.negSucc 2147483647), (Int.ofNat 2147483647)), ((Int.negSucc 2147483647), (Int.ofNat 2147483647)), ((Int.negSucc 2147483647), (Int.ofNat 2147483647)), ((Int.negSucc 2147483647), (Int.ofNat 2147483647)), ((Int.negSucc 2147483647), (Int.ofNat 2147483647))]
def ck_4_159_155 : sSt := (39, (159, 155, [some (.inl (eR 64)), some (.inr (.inl (.inl 1))), some (.inr (.inl (.inl 2)))], []), [(0, 344, [some (.inl (eR 1)), some (.inl (eR 64)), some (.inl (eR 98)), some (.inl (eI (Int.ofNat 0)))], [])], me_0)
def cb_4_159_126 : sB := [((Int.negSucc 2147483647), (Int.ofNat 2147483647)), ((Int.ofNat 0), (Int.ofNat 9)), ((Int.ofNat 3), (Int.ofNat 3)), ((Int.negSucc 2147483647), (Int.ofNat 2147483647)), ((Int.negSucc 2147483647), (Int.ofNat 2147483647)), ((Int.negSucc 2147483647), (Int.ofNat 2147483647)), ((Int.negSucc 2147483647), (Int.ofNat 2147483647)), ((Int.negSucc 2147483647), (Int.ofNat 2147483647))]
def ck_4_159_126 : sSt := (39, (159, 126, [some (.inl (eR 64)), some (.inr (.inl (.inl 1))), some (.inr (.inl (.inl 2)))], []), [(0, 344, [some (.inl (eR 1)), some (.inl (eR 64)), some (.inl (eR 98)), some (.inl (eI (Int.ofNat 0)))], [])], me_0)
def cb_4_159_98 : sB := [((Int.negSucc 2147483647), (Int.ofNat 2147483647)), ((Int.ofNat 0), (Int.ofNat 9)), ((Int.ofNat 2), (Int.ofNat 2)), ((Int.negSucc 2147483647), (Int.ofNat 2147483647)), ((Int.negSucc 2147483647), (Int.ofNat 2147483647)), ((Int.negSucc 2147483647), (Int.ofNat 2147483647)), ((Int.negSucc 2147483647), (Int.ofNat 2147483647)), ((Int.negSucc 2147483647), (Int.ofNat 2147483647))]
def ck_4_159_98 : sSt := (39, (159, 98, [some (.inl (eR 64)), some (.inr (.inl (.inl 1))), some (.inr (.inl (.inl 2)))], []), [(0, 344, [some (.inl (eR 1)), some (.inl (eR 64)), some (.inl (eR 98)), some (.inl (eI (Int.ofNat 0)))], [])], me_0)
def cb_4_159_85 : sB := [((Int.negSucc 2147483647), (Int.ofNat 2147483647)), ((Int.ofNat 0), (Int.ofNat 9)), ((Int.ofNat 1), (Int.ofNat 1)), ((Int.negSucc 2147483647), (Int.ofNat 2147483647)), ((Int.negSucc 2147483647), (Int.ofNat 2147483647)), ((Int.negSucc 2147483647), (Int.ofNat 2147483647)), ((Int.negSucc 2147483647), (Int.ofNat 2147483647)), ((Int.negSucc 2147483647), (Int.ofNat 2147483647))]
def ck_4_159_85 : sSt := (39, (159, 85, [some (.inl (eR 64)), some (.inr (.inl (.inl 1))), some (.inr (.inl (.inl 2)))], []), [(0, 344, [some (.inl (eR 1)), some (.inl (eR 64)), some (.inl (eR 98)), some (.inl (eI (Int.ofNat 0)))], [])], me_0)
def cb_4_159_72 : sB := [((Int.negSucc 2147483647), (Int.ofNat 2147483647)), ((Int.ofNat 0), (Int.ofNat 9)), ((Int.ofNat 0), (Int.ofNat 0)), ((Int.negSucc 2147483647), (Int.ofNat 2147483647)), ((Int.negSucc 2147483647), (Int.ofNat 2147483647)), ((Int.negSucc 2147483647), (Int.ofNat 2147483647)), ((Int.negSucc 2147483647), (Int.ofNat 2147483647)), ((Int.negSucc 2147483647), (Int.ofNat 2147483647))]
def ck_4_159_72 : sSt := (39, (159, 72, [some (.inl (eR 64)), some (.inr (.inl (.inl 1))), some (.inr (.inl (.inl 2)))], []), [(0, 344, [some (.inl (eR 1)), some (.inl (eR 64)), some (.inl (eR 98)), some (.inl (eI (Int.ofNat 0)))], [])], me_0)
set_option maxRecDepth 100000 in
theorem fi_4_159_72 : fineL 8 cb_4_159_72 ck_4_159_72 := fine_rl (l := []) (n := 1210) dt_sg8 (fun e he => by cases he) (by decide +kernel)
set_option maxRecDepth 100000 in
theorem fi_4_159_85 : fineL 8 cb_4_159_85 ck_4_159_85 := fine_rl (l := []) (n := 2850) dt_sg8 (fun e he => by cases he) (by decide +kernel)
set_option maxRecDepth 100000 in
theorem fi_4_159_98 : fineL 8 cb_4_159_98 ck_4_159_98 := fine_rl (l := []) (n := 1194) dt_sg8 (fun e he => by cases he) (by decide +kernel)
set_option maxRecDepth 100000 in
theorem fi_4_159_126 : fineL 8 cb_4_159_126 ck_4_159_126 := fine_rl (l := []) (n := 1194) dt_sg8 (fun e he => by cases he) (by decide +kernel)
set_option maxRecDepth 100000 in
theorem fi_4_159_155 : fineL 8 cb_4_159_155 ck_4_159_155 := fine_rl (l := []) (n := 80558) dt_sg8 (fun e he => by cases he) (by decide +kernel)
set_option maxRecDepth 100000 in
theorem fi_4_159_168 : fineL 8 cb_4_159_168 ck_4_159_168 := fine_rl (l := []) (n := 80392) dt_sg8 (fun e he => by cases he) (by decide +kernel)
set_option maxRecDepth 100000 in
theorem fi_4 : fineL 8 dt_B0 (dt_C 330) := fine_rl (l := [(159, 72, cb_4_159_72, ck_4_159_72), (159, 85, cb_4_159_85, ck_4_159_85), (159, 98, cb_4_159_98, ck_4_159_98), (159, 126, cb_4_159_126, ck_4_159_126), (159, 155, cb_4_159_155, ck_4_159_155), (159, 168, cb_4_159_168, ck_4_159_168)]) (n := 81042) dt_sg8 (by
  intro e he
  simp only [List.mem_cons, List.not_mem_nil, or_false] at he
  rcases he with rfl | rfl | rfl | rfl | rfl | rfl
  · exact fi_4_159_72
  · exact fi_4_159_85
  · exact fi_4_159_98
  · exact fi_4_159_126
  · exact fi_4_159_155
  · exact fi_4_159_168) (by decide +kernel)
