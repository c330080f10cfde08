/-! rows of code, decoded and linked -/
theorem dt_one {P : Nat → Prop} {n : Nat} (h : ∀ y, y < n → P y) (hn : P n) : ∀ y, y < n + 1 → P y := by
  intro y hy
  rcases Nat.lt_succ_iff_lt_or_eq.mp hy with q | q
  · exact h y q
  · rw [q]; exact hn
theorem dt_no : ∀ y, y < 0 → dt_all (dt_row y) (dt_co y) = true := fun y h => absurd h (Nat.not_lt_zero y)
theorem dt_no2 : ∀ y, y < 0 → 0 < y → dt_mck y = true := fun y h => absurd h (Nat.not_lt_zero y)
theorem dt_r0 : dt_all (dt_row 0) (dt_co 0) = true := by decide +kernel
theorem dt_r1 : dt_all (dt_row 1) (dt_co 1) = true := by decide +kernel
theorem dt_m1 : dt_mck 1 = true := by decide +kernel
theorem dt_r2 : dt_all (dt_row 2) (dt_co 2) = true := by decide +kernel
theorem dt_m2 : dt_mck 2 = true := by decide +kernel
set_option maxRecDepth 10000 in
theorem dt_R0 : ∀ y, y < 3 → dt_all (dt_row y) (dt_co y) = true := (dt_one (dt_one (dt_one dt_no dt_r0) dt_r1) dt_r2)
set_option maxRecDepth 10000 in
theorem dt_Q0 : ∀ y, y < 3 → 0 < y → dt_mck y = true := (dt_one (dt_one (dt_one dt_no2 (fun h => absurd h (Nat.lt_irrefl 0))) (fun _ => dt_m1)) (fun _ => dt_m2))
