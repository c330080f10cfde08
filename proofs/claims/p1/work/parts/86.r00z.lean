/-! rows of code, decoded and linked -/
theorem dt_one {P : Nat → Prop} {n : Nat} (h : ∀ y, y < n → P y) (hn : P n) : ∀ y, y < n + 1 → P y := by
  intro y hy
  rcases Nat.lt_succ_iff_lt_or_eq.mp hy with q | q
  · exact h y q
  · rw [q]; exact hn
theorem dt_no : ∀ y, y < 0 → dt_all (dt_row y) (dt_co y) = true := fun y h => absurd h (Nat.not_lt_zero y)
theorem dt_no2 : ∀ y, y < 0 → 0 < y → dt_mck y = true := fun y h => absurd h (Nat.not_lt_zero y)
theorem dt_r0_000 : dt_all (dt_row 0) (dt_sub [false, false, false] (dt_co 0)) = true := dt_sub_all [false, false, false] (dt_co 0) dt_r0_0000 dt_r0_0001
theorem dt_r0_001 : dt_all (dt_row 0) (dt_sub [false, false, true] (dt_co 0)) = true := dt_sub_all [false, false, true] (dt_co 0) dt_r0_0010 dt_r0_0011
theorem dt_r0_010 : dt_all (dt_row 0) (dt_sub [false, true, false] (dt_co 0)) = true := dt_sub_all [false, true, false] (dt_co 0) dt_r0_0100 dt_r0_0101
theorem dt_r0_011 : dt_all (dt_row 0) (dt_sub [false, true, true] (dt_co 0)) = true := dt_sub_all [false, true, true] (dt_co 0) dt_r0_0110 dt_r0_0111
theorem dt_r0_100 : dt_all (dt_row 0) (dt_sub [true, false, false] (dt_co 0)) = true := dt_sub_all [true, false, false] (dt_co 0) dt_r0_1000 dt_r0_1001
theorem dt_r0_101 : dt_all (dt_row 0) (dt_sub [true, false, true] (dt_co 0)) = true := dt_sub_all [true, false, true] (dt_co 0) dt_r0_1010 dt_r0_1011
theorem dt_r0_110 : dt_all (dt_row 0) (dt_sub [true, true, false] (dt_co 0)) = true := dt_sub_all [true, true, false] (dt_co 0) dt_r0_1100 dt_r0_1101
theorem dt_r0_111 : dt_all (dt_row 0) (dt_sub [true, true, true] (dt_co 0)) = true := dt_sub_all [true, true, true] (dt_co 0) dt_r0_1110 dt_r0_1111
theorem dt_r0_00 : dt_all (dt_row 0) (dt_sub [false, false] (dt_co 0)) = true := dt_sub_all [false, false] (dt_co 0) dt_r0_000 dt_r0_001
theorem dt_r0_01 : dt_all (dt_row 0) (dt_sub [false, true] (dt_co 0)) = true := dt_sub_all [false, true] (dt_co 0) dt_r0_010 dt_r0_011
theorem dt_r0_10 : dt_all (dt_row 0) (dt_sub [true, false] (dt_co 0)) = true := dt_sub_all [true, false] (dt_co 0) dt_r0_100 dt_r0_101
theorem dt_r0_11 : dt_all (dt_row 0) (dt_sub [true, true] (dt_co 0)) = true := dt_sub_all [true, true] (dt_co 0) dt_r0_110 dt_r0_111
theorem dt_r0_0 : dt_all (dt_row 0) (dt_sub [false] (dt_co 0)) = true := dt_sub_all [false] (dt_co 0) dt_r0_00 dt_r0_01
theorem dt_r0_1 : dt_all (dt_row 0) (dt_sub [true] (dt_co 0)) = true := dt_sub_all [true] (dt_co 0) dt_r0_10 dt_r0_11
theorem dt_r0 : dt_all (dt_row 0) (dt_co 0) = true := dt_sub_all [] (dt_co 0) dt_r0_0 dt_r0_1
theorem dt_r1 : dt_all (dt_row 1) (dt_co 1) = true := by decide +kernel
theorem dt_m1 : dt_mck 1 = true := by decide +kernel
theorem dt_r2 : dt_all (dt_row 2) (dt_co 2) = true := by decide +kernel
theorem dt_m2 : dt_mck 2 = true := by decide +kernel
set_option maxRecDepth 10000 in
theorem dt_R0 : ∀ y, y < 3 → dt_all (dt_row y) (dt_co y) = true := (dt_one (dt_one (dt_one dt_no dt_r0) dt_r1) dt_r2)
set_option maxRecDepth 10000 in
theorem dt_Q0 : ∀ y, y < 3 → 0 < y → dt_mck y = true := (dt_one (dt_one (dt_one dt_no2 (fun h => absurd h (Nat.lt_irrefl 0))) (fun _ => dt_m1)) (fun _ => dt_m2))
