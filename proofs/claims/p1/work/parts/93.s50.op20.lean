/-! calls on a new object -/
def cb_20_175_38 : sB := [((Int.negSucc 2147483647), (Int.ofNat 2147483647)), ((Int.ofNat 0), (Int.ofNat 9)), ((Int.ofNat 0), (Int.ofNat 40)), ((Int.negSucc 2147483647), (Int.ofNat 2147483647)), ((Int.negSucc 2147483647), (Int.ofNat 2147483647)), ((Int.negSucc 2147483647), (Int.ofNat 2147483647)), ((Int.negSucc 2147483647), (Int.ofNat 2147483647)), ((Int.negSucc 2147483647), (Int.ofNat 2147483647))]
def ck_20_175_38 : sSt := (39, (175, 38, [some (.inl (eR 64)), some (.inr (.inl (.inl 1))), some (.inr (.inl (.inl 2)))], [(.inl (eR 136)), (.inl (eR 64))]), [(0, 903, [some (.inl (eR 1)), some (.inl (eR 64)), some (.inl (eR 98)), some (.inl (eI (Int.ofNat 0)))], [])], me_1)
set_option maxRecDepth 100000 in
theorem fi_20_175_38_s0 : fineL 8 (cb_20_175_38.set 1 ((Int.ofNat 0), (Int.ofNat 0))) ck_20_175_38 := fine_rl (l := []) (n := 247638) dt_sg8 (fun e he => by cases he) (by decide +kernel)
set_option maxRecDepth 100000 in
theorem fi_20_175_38_s1 : fineL 8 (cb_20_175_38.set 1 ((Int.ofNat 1), (Int.ofNat 1))) ck_20_175_38 := fine_rl (l := []) (n := 247638) dt_sg8 (fun e he => by cases he) (by decide +kernel)
set_option maxRecDepth 100000 in
theorem fi_20_175_38_s2 : fineL 8 (cb_20_175_38.set 1 ((Int.ofNat 2), (Int.ofNat 2))) ck_20_175_38 := fine_rl (l := []) (n := 247638) dt_sg8 (fun e he => by cases he) (by decide +kernel)
set_option maxRecDepth 100000 in
theorem fi_20_175_38_s3 : fineL 8 (cb_20_175_38.set 1 ((Int.ofNat 3), (Int.ofNat 3))) ck_20_175_38 := fine_rl (l := []) (n := 247638) dt_sg8 (fun e he => by cases he) (by decide +kernel)
set_option maxRecDepth 100000 in
theorem fi_20_175_38_s4 : fineL 8 (cb_20_175_38.set 1 ((Int.ofNat 4), (Int.ofNat 4))) ck_20_175_38 := fine_rl (l := []) (n := 247638) dt_sg8 (fun e he => by cases he) (by decide +kernel)
set_option maxRecDepth 100000 in
theorem fi_20_175_38_s5 : fineL 8 (cb_20_175_38.set 1 ((Int.ofNat 5), (Int.ofNat 5))) ck_20_175_38 := fine_rl (l := []) (n := 247638) dt_sg8 (fun e he => by cases he) (by decide +kernel)
set_option maxRecDepth 100000 in
theorem fi_20_175_38_s6 : fineL 8 (cb_20_175_38.set 1 ((Int.ofNat 6), (Int.ofNat 6))) ck_20_175_38 := fine_rl (l := []) (n := 247638) dt_sg8 (fun e he => by cases he) (by decide +kernel)
set_option maxRecDepth 100000 in
theorem fi_20_175_38_s7 : fineL 8 (cb_20_175_38.set 1 ((Int.ofNat 7), (Int.ofNat 7))) ck_20_175_38 := fine_rl (l := []) (n := 247638) dt_sg8 (fun e he => by cases he) (by decide +kernel)
set_option maxRecDepth 100000 in
theorem fi_20_175_38_s8 : fineL 8 (cb_20_175_38.set 1 ((Int.ofNat 8), (Int.ofNat 8))) ck_20_175_38 := fine_rl (l := []) (n := 247638) dt_sg8 (fun e he => by cases he) (by decide +kernel)
set_option maxRecDepth 100000 in
theorem fi_20_175_38_s9 : fineL 8 (cb_20_175_38.set 1 ((Int.ofNat 9), (Int.ofNat 9))) ck_20_175_38 := fine_rl (l := []) (n := 247638) dt_sg8 (fun e he => by cases he) (by decide +kernel)
theorem fi_20_175_38 : fineL 8 cb_20_175_38 ck_20_175_38 := by
  refine fine_split (i := 1) (lo := (Int.ofNat 0)) (hi := (Int.ofNat 9)) [((Int.ofNat 0), (Int.ofNat 0)), ((Int.ofNat 1), (Int.ofNat 1)), ((Int.ofNat 2), (Int.ofNat 2)), ((Int.ofNat 3), (Int.ofNat 3)), ((Int.ofNat 4), (Int.ofNat 4)), ((Int.ofNat 5), (Int.ofNat 5)), ((Int.ofNat 6), (Int.ofNat 6)), ((Int.ofNat 7), (Int.ofNat 7)), ((Int.ofNat 8), (Int.ofNat 8)), ((Int.ofNat 9), (Int.ofNat 9))] rfl (by decide +kernel) ?_
  intro b hb
  simp only [List.mem_cons, List.not_mem_nil, or_false] at hb
  rcases hb with rfl | rfl | rfl | rfl | rfl | rfl | rfl | rfl | rfl | rfl
  · exact fi_20_175_38_s0
  · exact fi_20_175_38_s1
  · exact fi_20_175_38_s2
  · exact fi_20_175_38_s3
  · exact fi_20_175_38_s4
  · exact fi_20_175_38_s5
  · exact fi_20_175_38_s6
  · exact fi_20_175_38_s7
  · exact fi_20_175_38_s8
  · exact fi_20_175_38_s9
set_option maxRecDepth 100000 in
theorem fi_20 : fineL 8 dt_B0 (dt_C 889) := fine_rl (l := [(175, 38, cb_20_175_38, ck_20_175_38)]) (n := 78982) dt_sg8 (by
  intro e he
  rw [List.mem_singleton.mp he]
  exact fi_20_175_38) (by decide +kernel)
