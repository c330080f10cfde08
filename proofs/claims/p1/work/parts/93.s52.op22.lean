/-! calls on a new object -/
def cb_22x0_177_21 : sB := [((Int.negSucc 2147483647), (Int.ofNat 2147483647)), ((Int.ofNat 0), (Int.ofNat 9)), ((Int.negSucc 2147483647), (Int.negSucc 0)), ((Int.negSucc 2147483647), (Int.ofNat 2147483647)), ((Int.negSucc 2147483647), (Int.ofNat 2147483647)), ((Int.negSucc 2147483647), (Int.ofNat 2147483647)), ((Int.negSucc 2147483647), (Int.ofNat 2147483647)), ((Int.negSucc 2147483647), (Int.ofNat 2147483647))]
def ck_22x0_177_21 : sSt := (39, (177, 21, [some (.inl (eR 64)), some (.inr (.inl (.inl 1))), some (.inl (eI (Int.ofNat 1)))], [(.inl (eR 136)), (.inl (eR 64))]), [(0, 987, [some (.inl (eR 1)), some (.inl (eR 64)), some (.inl (eR 98)), some (.inl (eI (Int.ofNat 0)))], [])], me_1)
set_option maxRecDepth 100000 in
theorem fi_22x0_177_21_s0 : fineL 8 (cb_22x0_177_21.set 1 ((Int.ofNat 0), (Int.ofNat 0))) ck_22x0_177_21 := fine_rl (l := []) (n := 39270) dt_sg8 (fun e he => by cases he) (by decide +kernel)
set_option maxRecDepth 100000 in
theorem fi_22x0_177_21_s1 : fineL 8 (cb_22x0_177_21.set 1 ((Int.ofNat 1), (Int.ofNat 1))) ck_22x0_177_21 := fine_rl (l := []) (n := 10846) dt_sg8 (fun e he => by cases he) (by decide +kernel)
set_option maxRecDepth 100000 in
theorem fi_22x0_177_21_s2 : fineL 8 (cb_22x0_177_21.set 1 ((Int.ofNat 2), (Int.ofNat 2))) ck_22x0_177_21 := fine_rl (l := []) (n := 48578) dt_sg8 (fun e he => by cases he) (by decide +kernel)
set_option maxRecDepth 100000 in
theorem fi_22x0_177_21_s3 : fineL 8 (cb_22x0_177_21.set 1 ((Int.ofNat 3), (Int.ofNat 3))) ck_22x0_177_21 := fine_rl (l := []) (n := 17492) dt_sg8 (fun e he => by cases he) (by decide +kernel)
set_option maxRecDepth 100000 in
theorem fi_22x0_177_21_s4 : fineL 8 (cb_22x0_177_21.set 1 ((Int.ofNat 4), (Int.ofNat 4))) ck_22x0_177_21 := fine_rl (l := []) (n := 57886) dt_sg8 (fun e he => by cases he) (by decide +kernel)
set_option maxRecDepth 100000 in
theorem fi_22x0_177_21_s5 : fineL 8 (cb_22x0_177_21.set 1 ((Int.ofNat 5), (Int.ofNat 5))) ck_22x0_177_21 := fine_rl (l := []) (n := 22264) dt_sg8 (fun e he => by cases he) (by decide +kernel)
set_option maxRecDepth 100000 in
theorem fi_22x0_177_21_s6 : fineL 8 (cb_22x0_177_21.set 1 ((Int.ofNat 6), (Int.ofNat 6))) ck_22x0_177_21 := fine_rl (l := []) (n := 67194) dt_sg8 (fun e he => by cases he) (by decide +kernel)
set_option maxRecDepth 100000 in
theorem fi_22x0_177_21_s7 : fineL 8 (cb_22x0_177_21.set 1 ((Int.ofNat 7), (Int.ofNat 7))) ck_22x0_177_21 := fine_rl (l := []) (n := 27036) dt_sg8 (fun e he => by cases he) (by decide +kernel)
set_option maxRecDepth 100000 in
theorem fi_22x0_177_21_s8 : fineL 8 (cb_22x0_177_21.set 1 ((Int.ofNat 8), (Int.ofNat 8))) ck_22x0_177_21 := fine_rl (l := []) (n := 76502) dt_sg8 (fun e he => by cases he) (by decide +kernel)
set_option maxRecDepth 100000 in
theorem fi_22x0_177_21_s9 : fineL 8 (cb_22x0_177_21.set 1 ((Int.ofNat 9), (Int.ofNat 9))) ck_22x0_177_21 := fine_rl (l := []) (n := 32060) dt_sg8 (fun e he => by cases he) (by decide +kernel)
theorem fi_22x0_177_21 : fineL 8 cb_22x0_177_21 ck_22x0_177_21 := by
  refine fine_split (i := 1) (lo := (Int.ofNat 0)) (hi := (Int.ofNat 9)) [((Int.ofNat 0), (Int.ofNat 0)), ((Int.ofNat 1), (Int.ofNat 1)), ((Int.ofNat 2), (Int.ofNat 2)), ((Int.ofNat 3), (Int.ofNat 3)), ((Int.ofNat 4), (Int.ofNat 4)), ((Int.ofNat 5), (Int.ofNat 5)), ((Int.ofNat 6), (Int.ofNat 6)), ((Int.ofNat 7), (Int.ofNat 7)), ((Int.ofNat 8), (Int.ofNat 8)), ((Int.ofNat 9), (Int.ofNat 9))] rfl (by decide +kernel) ?_
  intro b hb
  simp only [List.mem_cons, List.not_mem_nil, or_false] at hb
  rcases hb with rfl | rfl | rfl | rfl | rfl | rfl | rfl | rfl | rfl | rfl
  · exact fi_22x0_177_21_s0
  · exact fi_22x0_177_21_s1
  · exact fi_22x0_177_21_s2
  · exact fi_22x0_177_21_s3
  · exact fi_22x0_177_21_s4
  · exact fi_22x0_177_21_s5
  · exact fi_22x0_177_21_s6
  · exact fi_22x0_177_21_s7
  · exact fi_22x0_177_21_s8
  · exact fi_22x0_177_21_s9
set_option maxRecDepth 100000 in
theorem fi_22x0 : fineL 8 (dt_B0.set 2 ((Int.negSucc 2147483647), (Int.negSucc 0))) (dt_C 965) := fine_rl (l := [(177, 21, cb_22x0_177_21, ck_22x0_177_21)]) (n := 78632) dt_sg8 (by
  intro e he
  rw [List.mem_singleton.mp he]
  exact fi_22x0_177_21) (by decide +kernel)
def cb_22x1_177_21 : sB := [((Int.negSucc 2147483647), (Int.ofNat 2147483647)), ((Int.ofNat 0), (Int.ofNat 9)), ((Int.ofNat 0), (Int.ofNat 0)), ((Int.negSucc 2147483647), (Int.ofNat 2147483647)), ((Int.negSucc 2147483647), (Int.ofNat 2147483647)), ((Int.negSucc 2147483647), (Int.ofNat 2147483647)), ((Int.negSucc 2147483647), (Int.ofNat 2147483647)), ((Int.negSucc 2147483647), (Int.ofNat 2147483647))]
def ck_22x1_177_21 : sSt := (39, (177, 21, [some (.inl (eR 64)), some (.inr (.inl (.inl 1))), some (.inl (eI (Int.ofNat 0)))], [(.inl (eR 136)), (.inl (eR 64))]), [(0, 987, [some (.inl (eR 1)), some (.inl (eR 64)), some (.inl (eR 98)), some (.inl (eI (Int.ofNat 0)))], [])], me_1)
set_option maxRecDepth 100000 in
theorem fi_22x1_177_21_s0 : fineL 8 (cb_22x1_177_21.set 1 ((Int.ofNat 0), (Int.ofNat 0))) ck_22x1_177_21 := fine_rl (l := []) (n := 34904) dt_sg8 (fun e he => by cases he) (by decide +kernel)
set_option maxRecDepth 100000 in
theorem fi_22x1_177_21_s1 : fineL 8 (cb_22x1_177_21.set 1 ((Int.ofNat 1), (Int.ofNat 1))) ck_22x1_177_21 := fine_rl (l := []) (n := 10460) dt_sg8 (fun e he => by cases he) (by decide +kernel)
set_option maxRecDepth 100000 in
theorem fi_22x1_177_21_s2 : fineL 8 (cb_22x1_177_21.set 1 ((Int.ofNat 2), (Int.ofNat 2))) ck_22x1_177_21 := fine_rl (l := []) (n := 44212) dt_sg8 (fun e he => by cases he) (by decide +kernel)
set_option maxRecDepth 100000 in
theorem fi_22x1_177_21_s3 : fineL 8 (cb_22x1_177_21.set 1 ((Int.ofNat 3), (Int.ofNat 3))) ck_22x1_177_21 := fine_rl (l := []) (n := 15232) dt_sg8 (fun e he => by cases he) (by decide +kernel)
set_option maxRecDepth 100000 in
theorem fi_22x1_177_21_s4 : fineL 8 (cb_22x1_177_21.set 1 ((Int.ofNat 4), (Int.ofNat 4))) ck_22x1_177_21 := fine_rl (l := []) (n := 53520) dt_sg8 (fun e he => by cases he) (by decide +kernel)
set_option maxRecDepth 100000 in
theorem fi_22x1_177_21_s5 : fineL 8 (cb_22x1_177_21.set 1 ((Int.ofNat 5), (Int.ofNat 5))) ck_22x1_177_21 := fine_rl (l := []) (n := 20004) dt_sg8 (fun e he => by cases he) (by decide +kernel)
set_option maxRecDepth 100000 in
theorem fi_22x1_177_21_s6 : fineL 8 (cb_22x1_177_21.set 1 ((Int.ofNat 6), (Int.ofNat 6))) ck_22x1_177_21 := fine_rl (l := []) (n := 62828) dt_sg8 (fun e he => by cases he) (by decide +kernel)
set_option maxRecDepth 100000 in
theorem fi_22x1_177_21_s7 : fineL 8 (cb_22x1_177_21.set 1 ((Int.ofNat 7), (Int.ofNat 7))) ck_22x1_177_21 := fine_rl (l := []) (n := 25028) dt_sg8 (fun e he => by cases he) (by decide +kernel)
set_option maxRecDepth 100000 in
theorem fi_22x1_177_21_s8 : fineL 8 (cb_22x1_177_21.set 1 ((Int.ofNat 8), (Int.ofNat 8))) ck_22x1_177_21 := fine_rl (l := []) (n := 72136) dt_sg8 (fun e he => by cases he) (by decide +kernel)
set_option maxRecDepth 100000 in
theorem fi_22x1_177_21_s9 : fineL 8 (cb_22x1_177_21.set 1 ((Int.ofNat 9), (Int.ofNat 9))) ck_22x1_177_21 := fine_rl (l := []) (n := 27674) dt_sg8 (fun e he => by cases he) (by decide +kernel)
theorem fi_22x1_177_21 : fineL 8 cb_22x1_177_21 ck_22x1_177_21 := by
  refine fine_split (i := 1) (lo := (Int.ofNat 0)) (hi := (Int.ofNat 9)) [((Int.ofNat 0), (Int.ofNat 0)), ((Int.ofNat 1), (Int.ofNat 1)), ((Int.ofNat 2), (Int.ofNat 2)), ((Int.ofNat 3), (Int.ofNat 3)), ((Int.ofNat 4), (Int.ofNat 4)), ((Int.ofNat 5), (Int.ofNat 5)), ((Int.ofNat 6), (Int.ofNat 6)), ((Int.ofNat 7), (Int.ofNat 7)), ((Int.ofNat 8), (Int.ofNat 8)), ((Int.ofNat 9), (Int.ofNat 9))] rfl (by decide +kernel) ?_
  intro b hb
  simp only [List.mem_cons, List.not_mem_nil, or_false] at hb
  rcases hb with rfl | rfl | rfl | rfl | rfl | rfl | rfl | rfl | rfl | rfl
  · exact fi_22x1_177_21_s0
  · exact fi_22x1_177_21_s1
  · exact fi_22x1_177_21_s2
  · exact fi_22x1_177_21_s3
  · exact fi_22x1_177_21_s4
  · exact fi_22x1_177_21_s5
  · exact fi_22x1_177_21_s6
  · exact fi_22x1_177_21_s7
  · exact fi_22x1_177_21_s8
  · exact fi_22x1_177_21_s9
set_option maxRecDepth 100000 in
theorem fi_22x1 : fineL 8 (dt_B0.set 2 ((Int.ofNat 0), (Int.ofNat 0))) (dt_C 965) := fine_rl (l := [(177, 21, cb_22x1_177_21, ck_22x1_177_21)]) (n := 78626) dt_sg8 (by
  intro e he
  rw [List.mem_singleton.mp he]
  exact fi_22x1_177_21) (by decide +kernel)
def cb_22x2_177_21 : sB := [((Int.negSucc 2147483647), (Int.ofNat 2147483647)), ((Int.ofNat 0), (Int.ofNat 9)), ((Int.ofNat 1), (Int.ofNat 2147483647)), ((Int.negSucc 2147483647), (Int.ofNat 2147483647)), ((Int.negSucc 2147483647), (Int.ofNat 2147483647)), ((Int.negSucc 2147483647), (Int.ofNat 2147483647)), ((Int.negSucc 2147483647), (Int.ofNat 2147483647)), ((Int.negSucc 2147483647), (Int.ofNat 2147483647))]
def ck_22x2_177_21 : sSt := (39, (177, 21, [some (.inl (eR 64)), some (.inr (.inl (.inl 1))), some (.inl (eI (Int.ofNat 1)))], [(.inl (eR 136)), (.inl (eR 64))]), [(0, 987, [some (.inl (eR 1)), some (.inl (eR 64)), some (.inl (eR 98)), some (.inl (eI (Int.ofNat 0)))], [])], me_1)
set_option maxRecDepth 100000 in
theorem fi_22x2_177_21_s0 : fineL 8 (cb_22x2_177_21.set 1 ((Int.ofNat 0), (Int.ofNat 0))) ck_22x2_177_21 := fine_rl (l := []) (n := 39270) dt_sg8 (fun e he => by cases he) (by decide +kernel)
set_option maxRecDepth 100000 in
theorem fi_22x2_177_21_s1 : fineL 8 (cb_22x2_177_21.set 1 ((Int.ofNat 1), (Int.ofNat 1))) ck_22x2_177_21 := fine_rl (l := []) (n := 10846) dt_sg8 (fun e he => by cases he) (by decide +kernel)
set_option maxRecDepth 100000 in
theorem fi_22x2_177_21_s2 : fineL 8 (cb_22x2_177_21.set 1 ((Int.ofNat 2), (Int.ofNat 2))) ck_22x2_177_21 := fine_rl (l := []) (n := 48578) dt_sg8 (fun e he => by cases he) (by decide +kernel)
set_option maxRecDepth 100000 in
theorem fi_22x2_177_21_s3 : fineL 8 (cb_22x2_177_21.set 1 ((Int.ofNat 3), (Int.ofNat 3))) ck_22x2_177_21 := fine_rl (l := []) (n := 17492) dt_sg8 (fun e he => by cases he) (by decide +kernel)
set_option maxRecDepth 100000 in
theorem fi_22x2_177_21_s4 : fineL 8 (cb_22x2_177_21.set 1 ((Int.ofNat 4), (Int.ofNat 4))) ck_22x2_177_21 := fine_rl (l := []) (n := 57886) dt_sg8 (fun e he => by cases he) (by decide +kernel)
set_option maxRecDepth 100000 in
theorem fi_22x2_177_21_s5 : fineL 8 (cb_22x2_177_21.set 1 ((Int.ofNat 5), (Int.ofNat 5))) ck_22x2_177_21 := fine_rl (l := []) (n := 22264) dt_sg8 (fun e he => by cases he) (by decide +kernel)
set_option maxRecDepth 100000 in
theorem fi_22x2_177_21_s6 : fineL 8 (cb_22x2_177_21.set 1 ((Int.ofNat 6), (Int.ofNat 6))) ck_22x2_177_21 := fine_rl (l := []) (n := 67194) dt_sg8 (fun e he => by cases he) (by decide +kernel)
set_option maxRecDepth 100000 in
theorem fi_22x2_177_21_s7 : fineL 8 (cb_22x2_177_21.set 1 ((Int.ofNat 7), (Int.ofNat 7))) ck_22x2_177_21 := fine_rl (l := []) (n := 27036) dt_sg8 (fun e he => by cases he) (by decide +kernel)
set_option maxRecDepth 100000 in
theorem fi_22x2_177_21_s8 : fineL 8 (cb_22x2_177_21.set 1 ((Int.ofNat 8), (Int.ofNat 8))) ck_22x2_177_21 := fine_rl (l := []) (n := 76502) dt_sg8 (fun e he => by cases he) (by decide +kernel)
set_option maxRecDepth 100000 in
theorem fi_22x2_177_21_s9 : fineL 8 (cb_22x2_177_21.set 1 ((Int.ofNat 9), (Int.ofNat 9))) ck_22x2_177_21 := fine_rl (l := []) (n := 32060) dt_sg8 (fun e he => by cases he) (by decide +kernel)
theorem fi_22x2_177_21 : fineL 8 cb_22x2_177_21 ck_22x2_177_21 := by
  refine fine_split (i := 1) (lo := (Int.ofNat 0)) (hi := (Int.ofNat 9)) [((Int.ofNat 0), (Int.ofNat 0)), ((Int.ofNat 1), (Int.ofNat 1)), ((Int.ofNat 2), (Int.ofNat 2)), ((Int.ofNat 3), (Int.ofNat 3)), ((Int.ofNat 4), (Int.ofNat 4)), ((Int.ofNat 5), (Int.ofNat 5)), ((Int.ofNat 6), (Int.ofNat 6)), ((Int.ofNat 7), (Int.ofNat 7)), ((Int.ofNat 8), (Int.ofNat 8)), ((Int.ofNat 9), (Int.ofNat 9))] rfl (by decide +kernel) ?_
  intro b hb
  simp only [List.mem_cons, List.not_mem_nil, or_false] at hb
  rcases hb with rfl | rfl | rfl | rfl | rfl | rfl | rfl | rfl | rfl | rfl
  · exact fi_22x2_177_21_s0
  · exact fi_22x2_177_21_s1
  · exact fi_22x2_177_21_s2
  · exact fi_22x2_177_21_s3
  · exact fi_22x2_177_21_s4
  · exact fi_22x2_177_21_s5
  · exact fi_22x2_177_21_s6
  · exact fi_22x2_177_21_s7
  · exact fi_22x2_177_21_s8
  · exact fi_22x2_177_21_s9
set_option maxRecDepth 100000 in
theorem fi_22x2 : fineL 8 (dt_B0.set 2 ((Int.ofNat 1), (Int.ofNat 2147483647))) (dt_C 965) := fine_rl (l := [(177, 21, cb_22x2_177_21, ck_22x2_177_21)]) (n := 78632) dt_sg8 (by
  intro e he
  rw [List.mem_singleton.mp he]
  exact fi_22x2_177_21) (by decide +kernel)
theorem fi_22 : fineL 8 dt_B0 (dt_C 965) := by
  refine fine_split (i := 2) (lo := (Int.negSucc 2147483647)) (hi := (Int.ofNat 2147483647)) [((Int.negSucc 2147483647), (Int.negSucc 0)), ((Int.ofNat 0), (Int.ofNat 0)), ((Int.ofNat 1), (Int.ofNat 2147483647))] rfl (by decide +kernel) ?_
  intro b hb
  simp only [List.mem_cons, List.not_mem_nil, or_false] at hb
  rcases hb with rfl | rfl | rfl
  · exact fi_22x0
  · exact fi_22x1
  · exact fi_22x2
