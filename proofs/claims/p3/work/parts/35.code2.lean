/-! THE CODED EVALUATOR: memory. Rows of values in pieces of 64; 128 cells by halves -/
/-- the k-th value of a piece, by a shift -/
noncomputable def n_at (L k : Nat) : Nat := Nat.mod (Nat.shiftRight L (Nat.mul 72 k)) nW
theorem nW_pow (k : Nat) : nW ^ k = 2 ^ (72 * k) := by
  rw [Nat.pow_mul]
theorem n_at_eq (L k : Nat) : n_at L k = cd L k := by
  unfold cd
  show (L >>> (72 * k)) % nW = _
  rw [Nat.shiftRight_eq_div_pow, nW_pow]
/-- what a number of memory stands for -/
def mr (ρ : Nat → Int) (c : Nat) (z : Int) : Prop := match c % 8 with
  | 0 => c / 8 < 4294967296 ∧ z = sg32 (c / 8)
  | 1 => c / 8 < 18446744073709551616 ∧ z = sg64 (c / 8)
  | 2 => z = ((c / 8 : Nat) : Int)
  | 3 => z = ρ (c / 8)
  | 5 => True
  | 6 => True
  | 7 => ((c / 8 % 4294967296 : Nat) : Int) - 2147483648 ≤ z ∧ z ≤ ((c / 8 / 4294967296 : Nat) : Int) - 2147483648
  | _ => False
abbrev nC0 : Type := Nat × Nat × Lean.RArray Nat
abbrev nC1 : Type := nC0 × nC0
abbrev nC2 : Type := nC1 × nC1
abbrev nC3 : Type := nC2 × nC2
abbrev nC4 : Type := nC3 × nC3
abbrev nC5 : Type := nC4 × nC4
abbrev nC6 : Type := nC5 × nC5
abbrev nC7 : Type := nC6 × nC6
noncomputable def n_bit (j i : Nat) : Bool := Nat.beq (Nat.mod (Nat.shiftRight j i) 2) 1
noncomputable def n_s0 (t : nC1) (b : Bool) : nC0 := @Bool.rec (fun _ => nC0) t.1 t.2 b
noncomputable def n_s1 (t : nC2) (b : Bool) : nC1 := @Bool.rec (fun _ => nC1) t.1 t.2 b
noncomputable def n_s2 (t : nC3) (b : Bool) : nC2 := @Bool.rec (fun _ => nC2) t.1 t.2 b
noncomputable def n_s3 (t : nC4) (b : Bool) : nC3 := @Bool.rec (fun _ => nC3) t.1 t.2 b
noncomputable def n_s4 (t : nC5) (b : Bool) : nC4 := @Bool.rec (fun _ => nC4) t.1 t.2 b
noncomputable def n_s5 (t : nC6) (b : Bool) : nC5 := @Bool.rec (fun _ => nC5) t.1 t.2 b
noncomputable def n_s6 (t : nC7) (b : Bool) : nC6 := @Bool.rec (fun _ => nC6) t.1 t.2 b
noncomputable def n_get (T : nC7) (j : Nat) : nC0 := n_s0 (n_s1 (n_s2 (n_s3 (n_s4 (n_s5 (n_s6 T (n_bit j 6)) (n_bit j 5)) (n_bit j 4)) (n_bit j 3)) (n_bit j 2)) (n_bit j 1)) (n_bit j 0)
noncomputable def n_p0 (_ : Nat) (c : nC0) (_ : nC0) (K : nC0 → Bool) : Bool := K c
noncomputable def n_p1 (j : Nat) (c : nC0) (t : nC1) (K : nC1 → Bool) : Bool := @Prod.rec nC0 nC0 (fun _ => Bool) (fun l r => @Bool.rec (fun _ => Bool) (n_p0 j c l fun l' => K (l', r)) (n_p0 j c r fun r' => K (l, r')) (n_bit j 0)) t
noncomputable def n_p2 (j : Nat) (c : nC0) (t : nC2) (K : nC2 → Bool) : Bool := @Prod.rec nC1 nC1 (fun _ => Bool) (fun l r => @Bool.rec (fun _ => Bool) (n_p1 j c l fun l' => K (l', r)) (n_p1 j c r fun r' => K (l, r')) (n_bit j 1)) t
noncomputable def n_p3 (j : Nat) (c : nC0) (t : nC3) (K : nC3 → Bool) : Bool := @Prod.rec nC2 nC2 (fun _ => Bool) (fun l r => @Bool.rec (fun _ => Bool) (n_p2 j c l fun l' => K (l', r)) (n_p2 j c r fun r' => K (l, r')) (n_bit j 2)) t
noncomputable def n_p4 (j : Nat) (c : nC0) (t : nC4) (K : nC4 → Bool) : Bool := @Prod.rec nC3 nC3 (fun _ => Bool) (fun l r => @Bool.rec (fun _ => Bool) (n_p3 j c l fun l' => K (l', r)) (n_p3 j c r fun r' => K (l, r')) (n_bit j 3)) t
noncomputable def n_p5 (j : Nat) (c : nC0) (t : nC5) (K : nC5 → Bool) : Bool := @Prod.rec nC4 nC4 (fun _ => Bool) (fun l r => @Bool.rec (fun _ => Bool) (n_p4 j c l fun l' => K (l', r)) (n_p4 j c r fun r' => K (l, r')) (n_bit j 4)) t
noncomputable def n_p6 (j : Nat) (c : nC0) (t : nC6) (K : nC6 → Bool) : Bool := @Prod.rec nC5 nC5 (fun _ => Bool) (fun l r => @Bool.rec (fun _ => Bool) (n_p5 j c l fun l' => K (l', r)) (n_p5 j c r fun r' => K (l, r')) (n_bit j 5)) t
noncomputable def n_p7 (j : Nat) (c : nC0) (t : nC7) (K : nC7 → Bool) : Bool := @Prod.rec nC6 nC6 (fun _ => Bool) (fun l r => @Bool.rec (fun _ => Bool) (n_p6 j c l fun l' => K (l', r)) (n_p6 j c r fun r' => K (l, r')) (n_bit j 6)) t
noncomputable def n_q0 (_ : Nat) (c : nC0) (_ : nC0) : nC0 := c
noncomputable def n_q1 (j : Nat) (c : nC0) (t : nC1) : nC1 := @Bool.rec (fun _ => nC1) (n_q0 j c t.1, t.2) (t.1, n_q0 j c t.2) (n_bit j 0)
noncomputable def n_q2 (j : Nat) (c : nC0) (t : nC2) : nC2 := @Bool.rec (fun _ => nC2) (n_q1 j c t.1, t.2) (t.1, n_q1 j c t.2) (n_bit j 1)
noncomputable def n_q3 (j : Nat) (c : nC0) (t : nC3) : nC3 := @Bool.rec (fun _ => nC3) (n_q2 j c t.1, t.2) (t.1, n_q2 j c t.2) (n_bit j 2)
noncomputable def n_q4 (j : Nat) (c : nC0) (t : nC4) : nC4 := @Bool.rec (fun _ => nC4) (n_q3 j c t.1, t.2) (t.1, n_q3 j c t.2) (n_bit j 3)
noncomputable def n_q5 (j : Nat) (c : nC0) (t : nC5) : nC5 := @Bool.rec (fun _ => nC5) (n_q4 j c t.1, t.2) (t.1, n_q4 j c t.2) (n_bit j 4)
noncomputable def n_q6 (j : Nat) (c : nC0) (t : nC6) : nC6 := @Bool.rec (fun _ => nC6) (n_q5 j c t.1, t.2) (t.1, n_q5 j c t.2) (n_bit j 5)
noncomputable def n_q7 (j : Nat) (c : nC0) (t : nC7) : nC7 := @Bool.rec (fun _ => nC7) (n_q6 j c t.1, t.2) (t.1, n_q6 j c t.2) (n_bit j 6)
theorem n_p0_eq (j : Nat) (c t : nC0) (K : nC0 → Bool) : n_p0 j c t K = K (n_q0 j c t) := rfl
theorem n_p1_eq (j : Nat) (c : nC0) (t : nC1) (K : nC1 → Bool) : n_p1 j c t K = K (n_q1 j c t) := by
  obtain ⟨l, r⟩ := t
  unfold n_p1 n_q1
  cases n_bit j 0 with
  | false => exact n_p0_eq j c l _
  | true => exact n_p0_eq j c r _
theorem n_p2_eq (j : Nat) (c : nC0) (t : nC2) (K : nC2 → Bool) : n_p2 j c t K = K (n_q2 j c t) := by
  obtain ⟨l, r⟩ := t
  unfold n_p2 n_q2
  cases n_bit j 1 with
  | false => exact n_p1_eq j c l _
  | true => exact n_p1_eq j c r _
theorem n_p3_eq (j : Nat) (c : nC0) (t : nC3) (K : nC3 → Bool) : n_p3 j c t K = K (n_q3 j c t) := by
  obtain ⟨l, r⟩ := t
  unfold n_p3 n_q3
  cases n_bit j 2 with
  | false => exact n_p2_eq j c l _
  | true => exact n_p2_eq j c r _
theorem n_p4_eq (j : Nat) (c : nC0) (t : nC4) (K : nC4 → Bool) : n_p4 j c t K = K (n_q4 j c t) := by
  obtain ⟨l, r⟩ := t
  unfold n_p4 n_q4
  cases n_bit j 3 with
  | false => exact n_p3_eq j c l _
  | true => exact n_p3_eq j c r _
theorem n_p5_eq (j : Nat) (c : nC0) (t : nC5) (K : nC5 → Bool) : n_p5 j c t K = K (n_q5 j c t) := by
  obtain ⟨l, r⟩ := t
  unfold n_p5 n_q5
  cases n_bit j 4 with
  | false => exact n_p4_eq j c l _
  | true => exact n_p4_eq j c r _
theorem n_p6_eq (j : Nat) (c : nC0) (t : nC6) (K : nC6 → Bool) : n_p6 j c t K = K (n_q6 j c t) := by
  obtain ⟨l, r⟩ := t
  unfold n_p6 n_q6
  cases n_bit j 5 with
  | false => exact n_p5_eq j c l _
  | true => exact n_p5_eq j c r _
theorem n_p7_eq (j : Nat) (c : nC0) (t : nC7) (K : nC7 → Bool) : n_p7 j c t K = K (n_q7 j c t) := by
  obtain ⟨l, r⟩ := t
  unfold n_p7 n_q7
  cases n_bit j 6 with
  | false => exact n_p6_eq j c l _
  | true => exact n_p6_eq j c r _
noncomputable def n_g0 (t : nC0) (j : Nat) : nC0 := t
noncomputable def n_g1 (t : nC1) (j : Nat) : nC0 := n_s0 t (n_bit j 0)
noncomputable def n_g2 (t : nC2) (j : Nat) : nC0 := n_s0 (n_s1 t (n_bit j 1)) (n_bit j 0)
noncomputable def n_g3 (t : nC3) (j : Nat) : nC0 := n_s0 (n_s1 (n_s2 t (n_bit j 2)) (n_bit j 1)) (n_bit j 0)
noncomputable def n_g4 (t : nC4) (j : Nat) : nC0 := n_s0 (n_s1 (n_s2 (n_s3 t (n_bit j 3)) (n_bit j 2)) (n_bit j 1)) (n_bit j 0)
noncomputable def n_g5 (t : nC5) (j : Nat) : nC0 := n_s0 (n_s1 (n_s2 (n_s3 (n_s4 t (n_bit j 4)) (n_bit j 3)) (n_bit j 2)) (n_bit j 1)) (n_bit j 0)
noncomputable def n_g6 (t : nC6) (j : Nat) : nC0 := n_s0 (n_s1 (n_s2 (n_s3 (n_s4 (n_s5 t (n_bit j 5)) (n_bit j 4)) (n_bit j 3)) (n_bit j 2)) (n_bit j 1)) (n_bit j 0)
noncomputable def n_g7 (t : nC7) (j : Nat) : nC0 := n_s0 (n_s1 (n_s2 (n_s3 (n_s4 (n_s5 (n_s6 t (n_bit j 6)) (n_bit j 5)) (n_bit j 4)) (n_bit j 3)) (n_bit j 2)) (n_bit j 1)) (n_bit j 0)
/-- the lowest places of two numbers are the same -/
noncomputable def n_same : Nat → Nat → Nat → Bool
  | 0, _, _ => true
  | i + 1, j, k => n_same i j k && (n_bit j i == n_bit k i)
theorem n_same_s (i j k : Nat) : n_same (i + 1) j k = (n_same i j k && (n_bit j i == n_bit k i)) := rfl
theorem n_bit_eq (j i : Nat) : n_bit j i = decide (j / 2 ^ i % 2 = 1) := by
  show Nat.beq ((j >>> i) % 2) 1 = _
  rw [Nat.shiftRight_eq_div_pow]
  cases h : decide (j / 2 ^ i % 2 = 1) with
  | true => rw [of_decide_eq_true h]; rfl
  | false =>
    have h := of_decide_eq_false h
    have : j / 2 ^ i % 2 = 0 := by omega
    rw [this]
    rfl
theorem n_same_mod : ∀ (i j k : Nat), n_same i j k = true ↔ j % 2 ^ i = k % 2 ^ i := by
  intro i
  induction i with
  | zero =>
    intro j k
    have h1 : (2 : Nat) ^ 0 = 1 := rfl
    rw [h1, Nat.mod_one, Nat.mod_one]
    exact ⟨fun _ => rfl, fun _ => rfl⟩
  | succ i ih =>
    intro j k
    rw [n_same_s, Bool.and_eq_true, ih, n_bit_eq, n_bit_eq]
    have hj : j % 2 ^ (i + 1) = j % 2 ^ i + 2 ^ i * (j / 2 ^ i % 2) := by rw [Nat.pow_succ, Nat.mod_mul]
    have hk : k % 2 ^ (i + 1) = k % 2 ^ i + 2 ^ i * (k / 2 ^ i % 2) := by rw [Nat.pow_succ, Nat.mod_mul]
    have hp : 0 < 2 ^ i := Nat.pow_pos (by decide)
    have hjl : j % 2 ^ i < 2 ^ i := Nat.mod_lt _ hp
    have hkl : k % 2 ^ i < 2 ^ i := Nat.mod_lt _ hp
    rw [hj, hk]
    have b1 : j / 2 ^ i % 2 = 0 ∨ j / 2 ^ i % 2 = 1 := by omega
    have b2 : k / 2 ^ i % 2 = 0 ∨ k / 2 ^ i % 2 = 1 := by omega
    rcases b1 with b1 | b1 <;> rcases b2 with b2 | b2 <;> rw [b1, b2] <;> simp <;> omega
theorem n_g0_q (j k : Nat) (c t : nC0) : n_g0 (n_q0 k c t) j = c := rfl
theorem n_g1_t (t : nC1) (j : Nat) : n_g1 t j = n_g0 (n_s0 t (n_bit j 0)) j := rfl
theorem n_g1_q (j k : Nat) (c : nC0) (t : nC1) : n_g1 (n_q1 k c t) j = if n_same 1 j k then c else n_g1 t j := by
  rw [n_g1_t, n_g1_t, n_same_s]
  unfold n_q1
  cases hk : n_bit k 0 <;> cases hj : n_bit j 0
  · show n_g0 (n_q0 k c t.1) j = if (n_same 0 j k && (false == false)) = true then c else n_g0 t.1 j
    rw [n_g0_q]
    rfl
  · show n_g0 t.2 j = if (n_same 0 j k && (true == false)) = true then c else n_g0 t.2 j
    simp
  · show n_g0 t.1 j = if (n_same 0 j k && (false == true)) = true then c else n_g0 t.1 j
    simp
  · show n_g0 (n_q0 k c t.2) j = if (n_same 0 j k && (true == true)) = true then c else n_g0 t.2 j
    rw [n_g0_q]
    rfl
theorem n_g2_t (t : nC2) (j : Nat) : n_g2 t j = n_g1 (n_s1 t (n_bit j 1)) j := rfl
theorem n_g2_q (j k : Nat) (c : nC0) (t : nC2) : n_g2 (n_q2 k c t) j = if n_same 2 j k then c else n_g2 t j := by
  rw [n_g2_t, n_g2_t, n_same_s]
  unfold n_q2
  cases hk : n_bit k 1 <;> cases hj : n_bit j 1
  · show n_g1 (n_q1 k c t.1) j = if (n_same 1 j k && (false == false)) = true then c else n_g1 t.1 j
    rw [n_g1_q]
    simp
  · show n_g1 t.2 j = if (n_same 1 j k && (true == false)) = true then c else n_g1 t.2 j
    simp
  · show n_g1 t.1 j = if (n_same 1 j k && (false == true)) = true then c else n_g1 t.1 j
    simp
  · show n_g1 (n_q1 k c t.2) j = if (n_same 1 j k && (true == true)) = true then c else n_g1 t.2 j
    rw [n_g1_q]
    simp
theorem n_g3_t (t : nC3) (j : Nat) : n_g3 t j = n_g2 (n_s2 t (n_bit j 2)) j := rfl
theorem n_g3_q (j k : Nat) (c : nC0) (t : nC3) : n_g3 (n_q3 k c t) j = if n_same 3 j k then c else n_g3 t j := by
  rw [n_g3_t, n_g3_t, n_same_s]
  unfold n_q3
  cases hk : n_bit k 2 <;> cases hj : n_bit j 2
  · show n_g2 (n_q2 k c t.1) j = if (n_same 2 j k && (false == false)) = true then c else n_g2 t.1 j
    rw [n_g2_q]
    simp
  · show n_g2 t.2 j = if (n_same 2 j k && (true == false)) = true then c else n_g2 t.2 j
    simp
  · show n_g2 t.1 j = if (n_same 2 j k && (false == true)) = true then c else n_g2 t.1 j
    simp
  · show n_g2 (n_q2 k c t.2) j = if (n_same 2 j k && (true == true)) = true then c else n_g2 t.2 j
    rw [n_g2_q]
    simp
theorem n_g4_t (t : nC4) (j : Nat) : n_g4 t j = n_g3 (n_s3 t (n_bit j 3)) j := rfl
theorem n_g4_q (j k : Nat) (c : nC0) (t : nC4) : n_g4 (n_q4 k c t) j = if n_same 4 j k then c else n_g4 t j := by
  rw [n_g4_t, n_g4_t, n_same_s]
  unfold n_q4
  cases hk : n_bit k 3 <;> cases hj : n_bit j 3
  · show n_g3 (n_q3 k c t.1) j = if (n_same 3 j k && (false == false)) = true then c else n_g3 t.1 j
    rw [n_g3_q]
    simp
  · show n_g3 t.2 j = if (n_same 3 j k && (true == false)) = true then c else n_g3 t.2 j
    simp
  · show n_g3 t.1 j = if (n_same 3 j k && (false == true)) = true then c else n_g3 t.1 j
    simp
  · show n_g3 (n_q3 k c t.2) j = if (n_same 3 j k && (true == true)) = true then c else n_g3 t.2 j
    rw [n_g3_q]
    simp
theorem n_g5_t (t : nC5) (j : Nat) : n_g5 t j = n_g4 (n_s4 t (n_bit j 4)) j := rfl
theorem n_g5_q (j k : Nat) (c : nC0) (t : nC5) : n_g5 (n_q5 k c t) j = if n_same 5 j k then c else n_g5 t j := by
  rw [n_g5_t, n_g5_t, n_same_s]
  unfold n_q5
  cases hk : n_bit k 4 <;> cases hj : n_bit j 4
  · show n_g4 (n_q4 k c t.1) j = if (n_same 4 j k && (false == false)) = true then c else n_g4 t.1 j
    rw [n_g4_q]
    simp
  · show n_g4 t.2 j = if (n_same 4 j k && (true == false)) = true then c else n_g4 t.2 j
    simp
  · show n_g4 t.1 j = if (n_same 4 j k && (false == true)) = true then c else n_g4 t.1 j
    simp
  · show n_g4 (n_q4 k c t.2) j = if (n_same 4 j k && (true == true)) = true then c else n_g4 t.2 j
    rw [n_g4_q]
    simp
theorem n_g6_t (t : nC6) (j : Nat) : n_g6 t j = n_g5 (n_s5 t (n_bit j 5)) j := rfl
theorem n_g6_q (j k : Nat) (c : nC0) (t : nC6) : n_g6 (n_q6 k c t) j = if n_same 6 j k then c else n_g6 t j := by
  rw [n_g6_t, n_g6_t, n_same_s]
  unfold n_q6
  cases hk : n_bit k 5 <;> cases hj : n_bit j 5
  · show n_g5 (n_q5 k c t.1) j = if (n_same 5 j k && (false == false)) = true then c else n_g5 t.1 j
    rw [n_g5_q]
    simp
  · show n_g5 t.2 j = if (n_same 5 j k && (true == false)) = true then c else n_g5 t.2 j
    simp
  · show n_g5 t.1 j = if (n_same 5 j k && (false == true)) = true then c else n_g5 t.1 j
    simp
  · show n_g5 (n_q5 k c t.2) j = if (n_same 5 j k && (true == true)) = true then c else n_g5 t.2 j
    rw [n_g5_q]
    simp
theorem n_g7_t (t : nC7) (j : Nat) : n_g7 t j = n_g6 (n_s6 t (n_bit j 6)) j := rfl
theorem n_g7_q (j k : Nat) (c : nC0) (t : nC7) : n_g7 (n_q7 k c t) j = if n_same 7 j k then c else n_g7 t j := by
  rw [n_g7_t, n_g7_t, n_same_s]
  unfold n_q7
  cases hk : n_bit k 6 <;> cases hj : n_bit j 6
  · show n_g6 (n_q6 k c t.1) j = if (n_same 6 j k && (false == false)) = true then c else n_g6 t.1 j
    rw [n_g6_q]
    simp
  · show n_g6 t.2 j = if (n_same 6 j k && (true == false)) = true then c else n_g6 t.2 j
    simp
  · show n_g6 t.1 j = if (n_same 6 j k && (false == true)) = true then c else n_g6 t.1 j
    simp
  · show n_g6 (n_q6 k c t.2) j = if (n_same 6 j k && (true == true)) = true then c else n_g6 t.2 j
    rw [n_g6_q]
    simp
theorem n_get_eq (T : nC7) (j : Nat) : n_get T j = n_g7 T j := rfl
theorem n_get_q {j k : Nat} (hj : j < 128) (hk : k < 128) (c : nC0) (T : nC7) : n_get (n_q7 k c T) j = if j = k then c else n_get T j := by
  rw [n_get_eq, n_get_eq, n_g7_q]
  have h := n_same_mod 7 j k
  have h2 : (2 : Nat) ^ 7 = 128 := rfl
  rw [h2, Nat.mod_eq_of_lt hj, Nat.mod_eq_of_lt hk] at h
  by_cases hjk : j = k
  · rw [if_pos (h.mpr hjk), if_pos hjk]
  · rw [if_neg (fun q => hjk (h.mp q)), if_neg hjk]
abbrev nM : Type := nC7 × Nat × Nat
/-- how deep a row's tree of pieces is -/
def ndp (n : Nat) : Nat := match Nat.ble n 64, Nat.ble n 512 with
  | true, _ => 0
  | false, true => 3
  | false, false => 8
theorem ndp_ok {n i : Nat} (h : n ≤ 16384) (hi : i < n) : i / 64 < 2 ^ ndp n := by
  unfold ndp
  cases h1 : Nat.ble n 64 with
  | true =>
    have := Nat.ble_eq.mp h1
    show i / 64 < 1
    omega
  | false =>
    cases h2 : Nat.ble n 512 with
    | true =>
      have := Nat.ble_eq.mp h2
      show i / 64 < 8
      omega
    | false =>
      show i / 64 < 256
      omega
/-- the i-th number of a row -/
noncomputable def n_rg (t : Lean.RArray Nat) (i : Nat) : Nat := n_at (t.get (Nat.div i 64)) (Nat.mod i 64)
/-- a row with one number changed -/
noncomputable def n_rs (d : Nat) (t : Lean.RArray Nat) (i c : Nat) : Lean.RArray Nat := tr_set d 0 t (i / 64) (n_set (t.get (i / 64)) (nW ^ (i % 64)) c)
theorem n_rg_rs {d : Nat} {t : Lean.RArray Nat} (ht : tr_ok d 0 t) {i j c : Nat} (hc : c < nW) (hi : i / 64 < 2 ^ d) (hj : j / 64 < 2 ^ d) : n_rg (n_rs d t i c) j = if j = i then c else n_rg t j := by
  unfold n_rg n_rs
  rw [n_at_eq, n_at_eq]
  show cd ((tr_set d 0 t (i / 64) (n_set (t.get (i / 64)) (nW ^ (i % 64)) c)).get (j / 64)) (j % 64) = if j = i then c else cd (t.get (j / 64)) (j % 64)
  rw [tr_get_set d 0 t (i / 64) _ ht (Nat.zero_le _) (by omega) (j / 64) (Nat.zero_le _) (by omega)]
  by_cases h1 : j / 64 = i / 64
  · rw [if_pos h1, cd_n_set hc]
    by_cases h2 : j % 64 = i % 64
    · rw [if_pos h2, if_pos (by omega)]
    · rw [if_neg h2, if_neg (fun q => h2 (by rw [q])), h1]
  · rw [if_neg h1, if_neg (fun q => h1 (by rw [q]))]
def nmem (ρ : Nat → Int) (M : nM) (μ : eM) : Prop := μ.2.1.length = M.2.1 ∧ μ.2.2 = M.2.2 ∧ M.2.1 ≤ 128 ∧ ∀ j, j < M.2.1 → μ.2.1[j]? = some ((n_get M.1 j).1, (n_get M.1 j).2.1) ∧ (n_get M.1 j).2.1 ≤ 16384 ∧ tr_ok (ndp (n_get M.1 j).2.1) 0 (n_get M.1 j).2.2 ∧ ∀ i, i < (n_get M.1 j).2.1 → mr ρ (n_rg (n_get M.1 j).2.2 i) (μ.1 (j + 64) i)
/-- memory with one number changed -/
noncomputable def n_wr (M : nM) (j b c : Nat) : nM := (n_q7 j ((n_get M.1 j).1, (n_get M.1 j).2.1, n_rs (ndp (n_get M.1 j).2.1) (n_get M.1 j).2.2 b c) M.1, M.2)
theorem nmem.wr {ρ : Nat → Int} {M : nM} {μ : eM} (hm : nmem ρ M μ) {j b c : Nat} {x : Int} (hj : j < M.2.1) (hb : b < (n_get M.1 j).2.1) (hc : c < nW) (hx : mr ρ c x) : nmem ρ (n_wr M j b c) (ev_up μ.1 (j + 64) b x, μ.2) := by
  obtain ⟨m1, m2, m3, m5⟩ := hm
  refine ⟨m1, m2, m3, fun q hq => ?_⟩
  have hq : q < M.2.1 := hq
  have hget : n_get (n_wr M j b c).1 q = if q = j then ((n_get M.1 j).1, (n_get M.1 j).2.1, n_rs (ndp (n_get M.1 j).2.1) (n_get M.1 j).2.2 b c) else n_get M.1 q := n_get_q (by omega) (by omega) _ _
  rw [hget]
  obtain ⟨c1, c2, c3, c4⟩ := m5 q hq
  by_cases hqj : q = j
  · subst hqj
    rw [if_pos rfl]
    refine ⟨c1, c2, tr_set_ok _ _ _ _ _ c3, fun i hi => ?_⟩
    have hi : i < (n_get M.1 q).2.1 := hi
    show mr ρ (n_rg (n_rs (ndp (n_get M.1 q).2.1) (n_get M.1 q).2.2 b c) i) (ev_up μ.1 (q + 64) b x (q + 64) i)
    rw [n_rg_rs c3 hc (ndp_ok c2 hb) (ndp_ok c2 hi)]
    unfold ev_up ev_ur ev_u1
    rw [if_pos rfl]
    by_cases hib : i = b
    · rw [if_pos hib, if_pos hib]
      exact hx
    · rw [if_neg hib, if_neg hib]
      exact c4 i hi
  · rw [if_neg hqj]
    refine ⟨c1, c2, c3, fun i hi => ?_⟩
    show mr ρ (n_rg (n_get M.1 q).2.2 i) (ev_up μ.1 (j + 64) b x (q + 64) i)
    unfold ev_up ev_ur
    rw [if_neg (by omega)]
    exact c4 i hi
theorem n_rg_leaf (c i : Nat) : n_rg (.leaf 0) i = 0 := by
  unfold n_rg
  rw [n_at_eq]
  show cd 0 (i % 64) = 0
  unfold cd
  rw [Nat.zero_div, Nat.zero_mod]
/-- memory with a new cell -/
noncomputable def n_nw (M : nM) (kd n : Nat) : nM := (n_q7 M.2.1 (kd, n, .leaf 0) M.1, M.2.1 + 1, M.2.2 + n)
theorem nmem.nw {ρ : Nat → Int} {M : nM} {μ : eM} (hm : nmem ρ M μ) {kd n : Nat} (h1 : M.2.1 < 128) (h2 : n ≤ 16384) : nmem ρ (n_nw M kd n) (ev_nw μ kd n) := by
  obtain ⟨m1, m2, m3, m5⟩ := hm
  refine ⟨?_, ?_, h1, fun q hq => ?_⟩
  · show (μ.2.1 ++ [(kd, n)]).length = M.2.1 + 1
    rw [List.length_append, m1]
    rfl
  · show μ.2.2 + n = M.2.2 + n
    rw [m2]
  · have hq : q < M.2.1 + 1 := hq
    have hget : n_get (n_nw M kd n).1 q = if q = M.2.1 then (kd, n, .leaf 0) else n_get M.1 q := n_get_q (by omega) (by omega) _ _
    rw [hget]
    by_cases hqm : q = M.2.1
    · rw [if_pos hqm]
      refine ⟨?_, h2, tr_ok_leaf _ _ _, fun i hi => ?_⟩
      · show (μ.2.1 ++ [(kd, n)])[q]? = some (kd, n)
        rw [List.getElem?_append_right (by omega), m1, hqm, Nat.sub_self]
        rfl
      · show mr ρ (n_rg (.leaf 0) i) (ev_ur μ.1 (μ.2.1.length + 64) (fun _ => 0) (q + 64) i)
        rw [n_rg_leaf 0 i]
        unfold ev_ur
        rw [if_pos (by omega)]
        exact ⟨by decide, rfl⟩
    · rw [if_neg hqm]
      obtain ⟨c1, c2, c3, c4⟩ := m5 q (by omega)
      refine ⟨?_, c2, c3, fun i hi => ?_⟩
      · show (μ.2.1 ++ [(kd, n)])[q]? = _
        rw [List.getElem?_append_left (by omega)]
        exact c1
      · show mr ρ (n_rg (n_get M.1 q).2.2 i) (ev_ur μ.1 (μ.2.1.length + 64) (fun _ => 0) (q + 64) i)
        unfold ev_ur
        rw [if_neg (by omega)]
        exact c4 i hi
