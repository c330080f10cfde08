/-! calls on a new object -/
set_option maxRecDepth 100000 in
theorem fi_1_s0 : fineL 8 (dt_B0.set 1 ((Int.negSucc 2147483647), (Int.negSucc 0))) (dt_C 261) := fine_rl (l := []) (n := 1124) dt_sg8 (fun e he => by cases he) (by decide +kernel)
set_option maxRecDepth 100000 in
theorem fi_1_s1 : fineL 8 (dt_B0.set 1 ((Int.ofNat 0), (Int.ofNat 0))) (dt_C 261) := fine_rl (l := []) (n := 228328) dt_sg8 (fun e he => by cases he) (by decide +kernel)
set_option maxRecDepth 100000 in
theorem fi_1_s2 : fineL 8 (dt_B0.set 1 ((Int.ofNat 1), (Int.ofNat 1))) (dt_C 261) := fine_rl (l := []) (n := 170258) dt_sg8 (fun e he => by cases he) (by decide +kernel)
set_option maxRecDepth 100000 in
theorem fi_1_s3 : fineL 8 (dt_B0.set 1 ((Int.ofNat 2), (Int.ofNat 2))) (dt_C 261) := fine_rl (l := []) (n := 170252) dt_sg8 (fun e he => by cases he) (by decide +kernel)
set_option maxRecDepth 100000 in
theorem fi_1_s4 : fineL 8 (dt_B0.set 1 ((Int.ofNat 3), (Int.ofNat 3))) (dt_C 261) := fine_rl (l := []) (n := 174482) dt_sg8 (fun e he => by cases he) (by decide +kernel)
set_option maxRecDepth 100000 in
theorem fi_1_s5 : fineL 8 (dt_B0.set 1 ((Int.ofNat 4), (Int.ofNat 2147483647))) (dt_C 261) := fine_rl (l := []) (n := 1136) dt_sg8 (fun e he => by cases he) (by decide +kernel)
theorem fi_1 : fineL 8 dt_B0 (dt_C 261) := by
  refine fine_split (i := 1) (lo := (Int.negSucc 2147483647)) (hi := (Int.ofNat 2147483647)) [((Int.negSucc 2147483647), (Int.negSucc 0)), ((Int.ofNat 0), (Int.ofNat 0)), ((Int.ofNat 1), (Int.ofNat 1)), ((Int.ofNat 2), (Int.ofNat 2)), ((Int.ofNat 3), (Int.ofNat 3)), ((Int.ofNat 4), (Int.ofNat 2147483647))] rfl (by decide +kernel) ?_
  intro b hb
  simp only [List.mem_cons, List.not_mem_nil, or_false] at hb
  rcases hb with rfl | rfl | rfl | rfl | rfl | rfl
  · exact fi_1_s0
  · exact fi_1_s1
  · exact fi_1_s2
  · exact fi_1_s3
  · exact fi_1_s4
  · exact fi_1_s5
