/-! calls on a new object -/
def cb_11_166_60 : sB := [((Int.negSucc 2147483647), (Int.ofNat 2147483647)), ((Int.ofNat 0), (Int.ofNat 9)), ((Int.ofNat 0), (Int.ofNat 9)), ((Int.ofNat 0), (Int.ofNat 9)), ((Int.ofNat 0), (Int.ofNat 9)), ((Int.negSucc 2147483647), (Int.ofNat 2147483647)), ((Int.negSucc 2147483647), (Int.ofNat 2147483647)), ((Int.negSucc 2147483647), (Int.ofNat 2147483647))]
def ck_11_166_60 : sSt := (39, (166, 60, [some (.inl (eR 64)), some (.inr (.inl (.inl 1))), some (.inr (.inl (.inl 2))), some (.inr (.inl (.inl 3))), some (.inr (.inl (.inl 4))), none, none, none, none, none, none], [(.inl (eJ (Int.ofNat 0)))]), [(0, 606, [some (.inl (eR 1)), some (.inl (eR 64)), some (.inl (eR 98)), some (.inl (eI (Int.ofNat 0)))], [])], me_0)
def cb_11_166_69 : sB := [((Int.negSucc 2147483647), (Int.ofNat 2147483647)), ((Int.ofNat 0), (Int.ofNat 9)), ((Int.ofNat 0), (Int.ofNat 9)), ((Int.ofNat 0), (Int.ofNat 9)), ((Int.ofNat 0), (Int.ofNat 9)), ((Int.negSucc 2147483647), (Int.ofNat 2147483647)), ((Int.negSucc 2147483647), (Int.ofNat 2147483647)), ((Int.negSucc 2147483647), (Int.ofNat 2147483647))]
def ck_11_166_69 : sSt := (39, (166, 69, [some (.inl (eR 64)), some (.inr (.inl (.inl 1))), some (.inr (.inl (.inl 2))), some (.inr (.inl (.inl 3))), some (.inr (.inl (.inl 4))), none, none, none, none, none, none], [(.inl (eJ (Int.ofNat 0))), (.inl (eJ (Int.ofNat 0)))]), [(0, 606, [some (.inl (eR 1)), some (.inl (eR 64)), some (.inl (eR 98)), some (.inl (eI (Int.ofNat 0)))], [])], me_0)
def cb_11_166_83 : sB := [((Int.negSucc 2147483647), (Int.ofNat 2147483647)), ((Int.ofNat 0), (Int.ofNat 9)), ((Int.ofNat 0), (Int.ofNat 9)), ((Int.ofNat 0), (Int.ofNat 9)), ((Int.ofNat 0), (Int.ofNat 9)), ((Int.negSucc 2147483647), (Int.ofNat 2147483647)), ((Int.negSucc 2147483647), (Int.ofNat 2147483647)), ((Int.negSucc 2147483647), (Int.ofNat 2147483647))]
def ck_11_166_83 : sSt := (39, (166, 83, [some (.inl (eR 64)), some (.inr (.inl (.inl 1))), some (.inr (.inl (.inl 2))), some (.inr (.inl (.inl 3))), some (.inr (.inl (.inl 4))), some (.inl (eJ (Int.ofNat 0))), none, none, none, none, none], [(.inl (eJ (Int.ofNat 0)))]), [(0, 606, [some (.inl (eR 1)), some (.inl (eR 64)), some (.inl (eR 98)), some (.inl (eI (Int.ofNat 0)))], [])], me_0)
def cb_11_166_93 : sB := [((Int.negSucc 2147483647), (Int.ofNat 2147483647)), ((Int.ofNat 0), (Int.ofNat 9)), ((Int.ofNat 0), (Int.ofNat 9)), ((Int.ofNat 0), (Int.ofNat 9)), ((Int.ofNat 0), (Int.ofNat 9)), ((Int.negSucc 2147483647), (Int.ofNat 2147483647)), ((Int.negSucc 2147483647), (Int.ofNat 2147483647)), ((Int.negSucc 2147483647), (Int.ofNat 2147483647))]
def ck_11_166_93 : sSt := (39, (166, 93, [some (.inl (eR 64)), some (.inr (.inl (.inl 1))), some (.inr (.inl (.inl 2))), some (.inr (.inl (.inl 3))), some (.inr (.inl (.inl 4))), some (.inl (eJ (Int.ofNat 0))), none, none, none, none, none], [(.inl (eJ (Int.ofNat 0))), (.inl (eJ (Int.ofNat 0)))]), [(0, 606, [some (.inl (eR 1)), some (.inl (eR 64)), some (.inl (eR 98)), some (.inl (eI (Int.ofNat 0)))], [])], me_0)
def cb_11_274_53 : sB := [((Int.negSucc 2147483647), (Int.ofNat 2147483647)), ((Int.ofNat 0), (Int.ofNat 9)), ((Int.ofNat 0), (Int.ofNat 9)), ((Int.ofNat 0), (Int.ofNat 9)), ((Int.ofNat 0), (Int.ofNat 9)), ((Int.negSucc 2147483647), (Int.ofNat 2147483647)), ((Int.negSucc 2147483647), (Int.ofNat 2147483647)), ((Int.negSucc 2147483647), (Int.ofNat 2147483647))]
def ck_11_274_53 : sSt := (39, (274, 53, [some (.inl (eR 98)), some (.inr (.inl (.inl 1))), some (.inr (.inl (.inl 2))), some (.inr (.inl (.inl 3))), some (.inr (.inl (.inl 4))), none, none, none, none], []), [(0, 630, [some (.inl (eR 1)), some (.inl (eR 64)), some (.inl (eR 98)), some (.inl (eI (Int.ofNat 0)))], [(.inl (eI (Int.ofNat 0)))])], me_0)
def cb_11_274_72 : sB := [((Int.negSucc 2147483647), (Int.ofNat 2147483647)), ((Int.ofNat 0), (Int.ofNat 9)), ((Int.ofNat 0), (Int.ofNat 9)), ((Int.ofNat 0), (Int.ofNat 9)), ((Int.ofNat 0), (Int.ofNat 9)), ((Int.negSucc 2147483647), (Int.ofNat 2147483647)), ((Int.negSucc 2147483647), (Int.ofNat 2147483647)), ((Int.negSucc 2147483647), (Int.ofNat 2147483647))]
def ck_11_274_72 : sSt := (39, (274, 72, [some (.inl (eR 98)), some (.inr (.inl (.inl 1))), some (.inr (.inl (.inl 2))), some (.inr (.inl (.inl 3))), some (.inr (.inl (.inl 4))), some (.inl (eJ (Int.ofNat 0))), none, some (.inl (eJ (Int.ofNat 0))), none], []), [(0, 630, [some (.inl (eR 1)), some (.inl (eR 64)), some (.inl (eR 98)), some (.inl (eI (Int.ofNat 0)))], [(.inl (eI (Int.ofNat 0)))])], me_0)
set_option maxRecDepth 100000 in
theorem fi_11_274_72 : fineL 8 cb_11_274_72 ck_11_274_72 := fine_rl (l := []) (n := 1096) dt_sg8 (fun e he => by cases he) (by decide +kernel)
set_option maxRecDepth 100000 in
theorem fi_11_274_53 : fineL 8 cb_11_274_53 ck_11_274_53 := fine_rl (l := [(274, 72, cb_11_274_72, ck_11_274_72)]) (n := 82326) dt_sg8 (by
  intro e he
  rw [List.mem_singleton.mp he]
  exact fi_11_274_72) (by decide +kernel)
set_option maxRecDepth 100000 in
theorem fi_11_166_93 : fineL 8 cb_11_166_93 ck_11_166_93 := fine_rl (l := [(274, 53, cb_11_274_53, ck_11_274_53)]) (n := 83342) dt_sg8 (by
  intro e he
  rw [List.mem_singleton.mp he]
  exact fi_11_274_53) (by decide +kernel)
set_option maxRecDepth 100000 in
theorem fi_11_166_83 : fineL 8 cb_11_166_83 ck_11_166_83 := fine_rl (l := [(166, 93, cb_11_166_93, ck_11_166_93)]) (n := 1454) dt_sg8 (by
  intro e he
  rw [List.mem_singleton.mp he]
  exact fi_11_166_93) (by decide +kernel)
set_option maxRecDepth 100000 in
theorem fi_11_166_69 : fineL 8 cb_11_166_69 ck_11_166_69 := fine_rl (l := [(166, 83, cb_11_166_83, ck_11_166_83)]) (n := 1490) dt_sg8 (by
  intro e he
  rw [List.mem_singleton.mp he]
  exact fi_11_166_83) (by decide +kernel)
set_option maxRecDepth 100000 in
theorem fi_11_166_60 : fineL 8 cb_11_166_60 ck_11_166_60 := fine_rl (l := [(166, 69, cb_11_166_69, ck_11_166_69)]) (n := 1454) dt_sg8 (by
  intro e he
  rw [List.mem_singleton.mp he]
  exact fi_11_166_69) (by decide +kernel)
set_option maxRecDepth 100000 in
theorem fi_11 : fineL 8 dt_B0 (dt_C 582) := fine_rl (l := [(166, 60, cb_11_166_60, ck_11_166_60)]) (n := 3394) dt_sg8 (by
  intro e he
  rw [List.mem_singleton.mp he]
  exact fi_11_166_60) (by decide +kernel)
