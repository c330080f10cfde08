/-! the constructors, and from there to each call -/
set_option maxRecDepth 100000 in
theorem dt_ct {L : Nat} (h : fineL L dt_B0 dt_C1) : fineL L dt_B0 dt_S0 := fine_rl (l := [(0, 16, dt_B0, dt_C1)]) (n := 200000) (dt_sgC_ok L) (by
  intro e he
  rw [List.mem_singleton.mp he]
  exact h) (by decide +kernel)
theorem dt_t0 : fineL 0 dt_B0 dt_C1 := fine_rl (l := []) (n := 100) (fun ρ => dt_sg_ok (by decide) ρ) (fun e he => by cases he) (by decide +kernel)
theorem dt_t1 : fineL 1 dt_B0 dt_C1 := fine_rl (l := []) (n := 100) (fun ρ => dt_sg_ok (by decide) ρ) (fun e he => by cases he) (by decide +kernel)
theorem dt_t2 : fineL 2 dt_B0 dt_C1 := fine_rl (l := []) (n := 100) (fun ρ => dt_sg_ok (by decide) ρ) (fun e he => by cases he) (by decide +kernel)
theorem dt_t3 : fineL 3 dt_B0 dt_C1 := fine_rl (l := []) (n := 100) (fun ρ => dt_sg_ok (by decide) ρ) (fun e he => by cases he) (by decide +kernel)
theorem dt_t4 : fineL 4 dt_B0 dt_C1 := fine_rl (l := []) (n := 100) (fun ρ => dt_sg_ok (by decide) ρ) (fun e he => by cases he) (by decide +kernel)
theorem dt_t5 : fineL 5 dt_B0 dt_C1 := fine_rl (l := []) (n := 100) (fun ρ => dt_sg_ok (by decide) ρ) (fun e he => by cases he) (by decide +kernel)
theorem dt_t6 : fineL 6 dt_B0 dt_C1 := fine_rl (l := []) (n := 100) (fun ρ => dt_sg_ok (by decide) ρ) (fun e he => by cases he) (by decide +kernel)
theorem dt_t7 : fineL 7 dt_B0 dt_C1 := fine_rl (l := []) (n := 100) (fun ρ => dt_sg_ok (by decide) ρ) (fun e he => by cases he) (by decide +kernel)
def dt_sw : List Nat := [248, 261, 284, 307, 330, 363, 406, 429, 482, 515, 559, 582, 635, 678, 721, 744, 767, 780, 823, 856, 889, 922, 965, 1014, 1037, 1060, 1093, 1126, 1149, 1172, 1205, 1292, 1315, 1338, 1351, 1384, 1427, 1460, 1483, 1516, 1539, 1562, 1585, 1608, 1621, 1684, 1707, 1730, 1743, 1766]
set_option maxRecDepth 100000 in
theorem dt_t8 (h : ∀ pc ∈ dt_sw, fineL 8 dt_B0 (dt_C pc)) : fineL 8 dt_B0 dt_C1 := fine_rl (l := dt_sw.map fun pc => (0, pc, dt_B0, dt_C pc)) (n := 100) dt_sg8 (by
  intro e he
  obtain ⟨pc, h1, rfl⟩ := List.mem_map.mp he
  exact h pc h1) (by decide +kernel)
