/-! FROM THE ABSTRACT EVALUATOR'S MEMORY to a memory by pieces -/
noncomputable def y_c4 (kd n : Nat) (t : Lean.RArray sN) (w k : Nat) : Bool := match w with
  | 0 => true
  | c + 1 => decide (k < n) && (match t.get k with
    | .inl v => decide (v = y_dec (y_ty kd k) c)
    | .inr _ => false)
theorem y_c4_ok {kd n : Nat} {t : Lean.RArray sN} {k c : Nat} (h : y_c4 kd n t (c + 1) k = true) : k < n ∧ t.get k = .inl (y_dec (y_ty kd k) c) := by
  unfold y_c4 at h
  dsimp only at h
  rw [Bool.and_eq_true] at h
  refine ⟨of_decide_eq_true h.1, ?_⟩
  have h2 := h.2
  generalize t.get k = w at h2 ⊢
  cases w with
  | inr a => exact absurd h2 Bool.false_ne_true
  | inl v => rw [of_decide_eq_true h2]
noncomputable def y_c6 (kd n : Nat) (t : Lean.RArray sN) (x b : Nat) : Nat → Bool
  | 0 => true
  | e + 1 => y_c4 kd n t (n_at x e) (b + e) && y_c6 kd n t x b e
theorem y_c6_ok {kd n : Nat} {t : Lean.RArray sN} {x b : Nat} : ∀ m, y_c6 kd n t x b m = true → ∀ e, e < m → y_c4 kd n t (n_at x e) (b + e) = true := by
  intro m
  induction m with
  | zero =>
    intro _ k hk
    omega
  | succ m ih =>
    intro h k hk
    unfold y_c6 at h
    rw [Bool.and_eq_true] at h
    by_cases e : k = m
    · rw [e]
      exact h.1
    · exact ih h.2 k (by omega)
noncomputable def y_c5 (kd n : Nat) (t : Lean.RArray sN) : Nat → Lean.RArray Nat → Nat → Nat → Bool
  | 0, .leaf x, b, _ => Nat.beq x 0 || y_c6 kd n t x (256 * b) 256
  | d + 1, .branch _ l r, b, s => y_c5 kd n t d l b (2 * s) && y_c5 kd n t d r (b + s) (2 * s)
  | _, _, _, _ => false
theorem y_ix0 {b s i j : Nat} (h : i = 2 * j) : b + 2 * s * j = b + s * i := by
  subst h
  rw [← Nat.mul_assoc, Nat.mul_comm s 2]
theorem y_ix1 {b s i j : Nat} (h : i = 2 * j + 1) : b + s + 2 * s * j = b + s * i := by
  subst h
  rw [Nat.mul_add, Nat.mul_one, ← Nat.mul_assoc, Nat.mul_comm s 2]
  omega
theorem y_c5_ok {kd n : Nat} {t : Lean.RArray sN} : ∀ (d : Nat) (t2 : Lean.RArray Nat) (b s : Nat), y_c5 kd n t d t2 b s = true → y_pf d t2 ∧ ∀ i e c, i < 2 ^ d → e < 256 → n_at (y_get t2 i) e = c + 1 → y_c4 kd n t (c + 1) (256 * (b + s * i) + e) = true := by
  intro d
  induction d with
  | zero =>
    intro t2 b s h
    cases t2 with
    | branch p l r => exact absurd h Bool.false_ne_true
    | leaf x =>
      have h : (Nat.beq x 0 || y_c6 kd n t x (256 * b) 256) = true := h
      refine ⟨True.intro, fun i e c hi he hc => ?_⟩
      have hi : i = 0 := by
        rw [Nat.pow_zero] at hi
        omega
      have hc : n_at x e = c + 1 := hc
      rw [hi, Nat.mul_zero, Nat.add_zero]
      rw [Bool.or_eq_true] at h
      rcases h with h | h
      · rw [Nat.eq_of_beq_eq_true h, q_lane0] at hc
        omega
      · have h2 := y_c6_ok 256 h e he
        rw [hc] at h2
        exact h2
  | succ d ih =>
    intro t2 b s h
    cases t2 with
    | leaf x => exact absurd h Bool.false_ne_true
    | branch p l r =>
      have h : (y_c5 kd n t d l b (2 * s) && y_c5 kd n t d r (b + s) (2 * s)) = true := h
      rw [Bool.and_eq_true] at h
      obtain ⟨a1, a2⟩ := ih l _ _ h.1
      obtain ⟨b1, b2⟩ := ih r _ _ h.2
      refine ⟨⟨a1, b1⟩, fun i e c hi he hc => ?_⟩
      have hc : n_at (@Bool.rec (fun _ => Nat) (y_get l (Nat.div i 2)) (y_get r (Nat.div i 2)) (Nat.beq (Nat.mod i 2) 1)) e = c + 1 := hc
      have hp : i < 2 ^ d * 2 := by
        rw [← Nat.pow_succ]
        exact hi
      rcases Bool.eq_false_or_eq_true (Nat.beq (Nat.mod i 2) 1) with q | q
      · rw [q] at hc
        have q : i % 2 = 1 := Nat.eq_of_beq_eq_true q
        have h3 := b2 (i / 2) e c (by omega) he hc
        rw [y_ix1 (show i = 2 * (i / 2) + 1 by omega)] at h3
        exact h3
      · rw [q] at hc
        have q : i % 2 ≠ 1 := z_bne q
        have h3 := a2 (i / 2) e c (by omega) he hc
        rw [y_ix0 (show i = 2 * (i / 2) by omega)] at h3
        exact h3
noncomputable def y_cc (s : sC) (c : yC) : Bool := decide (c.1 = s.1) && decide (c.2.1 = s.2.1) && ((decide (s.2.1 ≤ 256) && y_c5 s.1 s.2.1 s.2.2 0 c.2.2 0 1) || (decide (s.2.1 ≤ 1024) && y_c5 s.1 s.2.1 s.2.2 2 c.2.2 0 1) || (decide (s.2.1 ≤ 4096) && y_c5 s.1 s.2.1 s.2.2 4 c.2.2 0 1) || (decide (s.2.1 ≤ 16384) && y_c5 s.1 s.2.1 s.2.2 6 c.2.2 0 1))
theorem y_zr {ρ : Nat → Int} {d kd n : Nat} {t : Lean.RArray sN} {t2 : Lean.RArray Nat} {f : Nat → Int} (h : y_c5 kd n t d t2 0 1 = true) (hn : n ≤ 256 * 2 ^ d) (h2 : n < 2147483648) (hf : ∀ i : Nat, i < n → sn_r ρ (t.get i) (f i)) : y_row kd n t2 f := by
  obtain ⟨h3, h4⟩ := y_c5_ok d t2 0 1 h
  refine ⟨d, h3, hn, h2, fun k c hk hc => ?_⟩
  have hc : n_at (y_get t2 (k / 256)) (k % 256) = c + 1 := hc
  have h5 := h4 (k / 256) (k % 256) c (by omega) (Nat.mod_lt _ (by decide)) hc
  rw [Nat.one_mul, Nat.zero_add, Nat.div_add_mod] at h5
  obtain ⟨h6, h7⟩ := y_c4_ok h5
  have h8 := hf k h6
  rw [h7] at h8
  have h8 : y_dec (y_ty kd k) c = f k := h8
  exact h8.symm
theorem y_cc_ok {ρ : Nat → Int} {s : sC} {c : yC} {f : Nat → Int} (h : y_cc s c = true) (hf : ∀ i : Nat, i < s.2.1 → sn_r ρ (s.2.2.get i) (f i)) : c.1 = s.1 ∧ c.2.1 = s.2.1 ∧ y_row c.1 c.2.1 c.2.2 f := by
  obtain ⟨kd, n, t⟩ := s
  obtain ⟨kd2, n2, t2⟩ := c
  unfold y_cc at h
  dsimp only at h hf ⊢
  rw [Bool.and_eq_true, Bool.and_eq_true] at h
  obtain ⟨⟨h1, h2⟩, h3⟩ := h
  have h1 := of_decide_eq_true h1
  have h2 := of_decide_eq_true h2
  rw [h1, h2]
  refine ⟨rfl, rfl, ?_⟩
  rw [Bool.or_eq_true, Bool.or_eq_true, Bool.or_eq_true] at h3
  rcases h3 with ((h3 | h3) | h3) | h3 <;> rw [Bool.and_eq_true] at h3 <;> have h9 := of_decide_eq_true h3.1
  · exact y_zr (d := 0) h3.2 (by omega) (by omega) hf
  · exact y_zr (d := 2) h3.2 (by omega) (by omega) hf
  · exact y_zr (d := 4) h3.2 (by omega) (by omega) hf
  · exact y_zr (d := 6) h3.2 (by omega) (by omega) hf
noncomputable def y_cs1 (S : sM) (M : yM) : Nat → Bool
  | 0 => true
  | j + 1 => y_cc (S.1.get j) (n_get M.1 j) && y_cs1 S M j
theorem y_cs1_ok {S : sM} {M : yM} : ∀ m, y_cs1 S M m = true → ∀ j, j < m → y_cc (S.1.get j) (n_get M.1 j) = true := by
  intro m
  induction m with
  | zero =>
    intro _ k hk
    omega
  | succ m ih =>
    intro h k hk
    unfold y_cs1 at h
    rw [Bool.and_eq_true] at h
    by_cases e : k = m
    · rw [e]
      exact h.1
    · exact ih h.2 k (by omega)
noncomputable def y_cv (S : sM) (M : yM) : Bool := Nat.beq M.2.1 S.2.1 && Nat.ble M.2.1 128 && Nat.beq M.2.2 S.2.2 && y_cs1 S M M.2.1
theorem y_cv_ok {ρ : Nat → Int} {S : sM} {M : yM} {μ : eM} (h : y_cv S M = true) (hs : sm_r ρ S μ) : yR M μ := by
  unfold y_cv at h
  rw [Bool.and_eq_true, Bool.and_eq_true, Bool.and_eq_true] at h
  obtain ⟨⟨⟨h1, h2⟩, h3⟩, h4⟩ := h
  have h1 := Nat.eq_of_beq_eq_true h1
  have h2 := Nat.ble_eq.mp h2
  have h3 := Nat.eq_of_beq_eq_true h3
  obtain ⟨r1, r2, r3, r4, r5⟩ := hs
  refine ⟨by omega, h2, by omega, fun j hj => ?_⟩
  obtain ⟨q1, q2, q3, q4⟩ := r5 j (by omega)
  obtain ⟨c1, c2, c3⟩ := y_cc_ok (y_cs1_ok _ h4 j hj) q4
  rw [c1, c2] at c3 ⊢
  exact ⟨q1, c3⟩
