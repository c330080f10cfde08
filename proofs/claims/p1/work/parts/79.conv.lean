/-! FROM THE ABSTRACT EVALUATOR'S MEMORY to a memory by pieces -/
def y_c1 (kd n : Nat) (t : Lean.RArray sN) (x k : Nat) : Bool := match n_at x k with
  | 0 => true
  | c + 1 => decide (k < n) && (match t.get k with
    | .inl v => decide (v = y_dec (y_ty kd k) c)
    | .inr _ => false)
def y_c2 (kd n : Nat) (t : Lean.RArray sN) (x : Nat) : Nat → Bool
  | 0 => true
  | k + 1 => y_c1 kd n t x k && y_c2 kd n t x k
theorem y_c2_ok {kd n : Nat} {t : Lean.RArray sN} {x : Nat} : ∀ m, y_c2 kd n t x m = true → ∀ k, k < m → y_c1 kd n t x k = true := by
  intro m
  induction m with
  | zero =>
    intro _ k hk
    omega
  | succ m ih =>
    intro h k hk
    unfold y_c2 at h
    rw [Bool.and_eq_true] at h
    by_cases e : k = m
    · rw [e]
      exact h.1
    · exact ih h.2 k (by omega)
/-- nothing is known of a row, its tree being this deep -/
def y_zt : Nat → Lean.RArray Nat → Bool
  | 0, .leaf x => Nat.beq x 0
  | d + 1, .branch _ l r => y_zt d l && y_zt d r
  | _, _ => false
theorem y_zt_ok : ∀ (d : Nat) (t : Lean.RArray Nat), y_zt d t = true → y_pf d t ∧ ∀ i, y_get t i = 0 := by
  intro d
  induction d with
  | zero =>
    intro t h
    cases t with
    | branch p l r => exact absurd h Bool.false_ne_true
    | leaf x => exact ⟨True.intro, fun i => Nat.eq_of_beq_eq_true h⟩
  | succ d ih =>
    intro t h
    cases t with
    | leaf x => exact absurd h Bool.false_ne_true
    | branch p l r =>
      have h : (y_zt d l && y_zt d r) = true := h
      rw [Bool.and_eq_true] at h
      obtain ⟨a1, a2⟩ := ih l h.1
      obtain ⟨b1, b2⟩ := ih r h.2
      refine ⟨⟨a1, b1⟩, fun i => ?_⟩
      show @Bool.rec (fun _ => Nat) (y_get l (Nat.div i 2)) (y_get r (Nat.div i 2)) (Nat.beq (Nat.mod i 2) 1) = 0
      cases Nat.beq (Nat.mod i 2) 1 with
      | false => exact a2 _
      | true => exact b2 _
def y_cc (s : sC) (c : yC) : Bool := decide (c.1 = s.1) && decide (c.2.1 = s.2.1) && ((match c.2.2 with
  | .leaf x => decide (s.2.1 ≤ 256) && y_c2 s.1 s.2.1 s.2.2 x 256
  | .branch _ _ _ => false) || (decide (s.2.1 ≤ 1024) && y_zt 2 c.2.2) || (decide (s.2.1 ≤ 4096) && y_zt 4 c.2.2) || (decide (s.2.1 ≤ 16384) && y_zt 6 c.2.2))
theorem y_zr {d kd n : Nat} {t : Lean.RArray Nat} {f : Nat → Int} (h : y_zt d t = true) (hn : n ≤ 256 * 2 ^ d) (h2 : n < 2147483648) : y_row kd n t f := by
  obtain ⟨h3, h4⟩ := y_zt_ok d t h
  refine ⟨d, h3, hn, h2, fun k c _ hk => ?_⟩
  have hk : n_at (y_get t (k / 256)) (k % 256) = c + 1 := hk
  rw [h4, q_lane0] at hk
  omega
theorem y_cc_ok {ρ : Nat → Int} {s : sC} {c : yC} {f : Nat → Int} (h : y_cc s c = true) (hf : ∀ i : Nat, i < s.2.1 → sn_r ρ (s.2.2.get i) (f i)) : c.1 = s.1 ∧ c.2.1 = s.2.1 ∧ y_row c.1 c.2.1 c.2.2 f := by
  obtain ⟨kd, n, t⟩ := s
  obtain ⟨kd2, n2, t2⟩ := c
  unfold y_cc at h
  dsimp only at h hf ⊢
  rw [Bool.and_eq_true, Bool.and_eq_true] at h
  obtain ⟨⟨h1, h2⟩, h3⟩ := h
  have h1 := of_decide_eq_true h1
  have h2 := of_decide_eq_true h2
  rw [h1, h2]
  refine ⟨rfl, rfl, ?_⟩
  rw [Bool.or_eq_true, Bool.or_eq_true, Bool.or_eq_true] at h3
  rcases h3 with ((h3 | h3) | h3) | h3
  · cases t2 with
    | branch p l r => exact absurd h3 Bool.false_ne_true
    | leaf x =>
      dsimp only at h3
      rw [Bool.and_eq_true] at h3
      have hn := of_decide_eq_true h3.1
      refine ⟨0, True.intro, by omega, by omega, fun k c hk hc => ?_⟩
      have hk : k < 256 := by omega
      have hc : n_at x (k % 256) = c + 1 := hc
      rw [Nat.mod_eq_of_lt hk] at hc
      have h4 := y_c2_ok 256 h3.2 k hk
      unfold y_c1 at h4
      rw [hc] at h4
      dsimp only at h4
      rw [Bool.and_eq_true] at h4
      have hkn := of_decide_eq_true h4.1
      have h5 := h4.2
      have hv := hf k hkn
      generalize t.get k = w at h5 hv
      cases w with
      | inr a => exact absurd h5 Bool.false_ne_true
      | inl v =>
        have h6 := of_decide_eq_true h5
        have hv : v = f k := hv
        rw [← hv]
        exact h6
  · rw [Bool.and_eq_true] at h3
    have := of_decide_eq_true h3.1
    exact y_zr h3.2 (by omega) (by omega)
  · rw [Bool.and_eq_true] at h3
    have := of_decide_eq_true h3.1
    exact y_zr h3.2 (by omega) (by omega)
  · rw [Bool.and_eq_true] at h3
    have := of_decide_eq_true h3.1
    exact y_zr h3.2 (by omega) (by omega)
def y_cs1 (S : sM) (M : yM) : Nat → Bool
  | 0 => true
  | j + 1 => y_cc (S.1.get j) (n_get M.1 j) && y_cs1 S M j
theorem y_cs1_ok {S : sM} {M : yM} : ∀ m, y_cs1 S M m = true → ∀ j, j < m → y_cc (S.1.get j) (n_get M.1 j) = true := by
  intro m
  induction m with
  | zero =>
    intro _ k hk
    omega
  | succ m ih =>
    intro h k hk
    unfold y_cs1 at h
    rw [Bool.and_eq_true] at h
    by_cases e : k = m
    · rw [e]
      exact h.1
    · exact ih h.2 k (by omega)
noncomputable def y_cv (S : sM) (M : yM) : Bool := Nat.beq M.2.1 S.2.1 && Nat.ble M.2.1 128 && Nat.beq M.2.2 S.2.2 && y_cs1 S M M.2.1
theorem y_cv_ok {ρ : Nat → Int} {S : sM} {M : yM} {μ : eM} (h : y_cv S M = true) (hs : sm_r ρ S μ) : yR M μ := by
  unfold y_cv at h
  rw [Bool.and_eq_true, Bool.and_eq_true, Bool.and_eq_true] at h
  obtain ⟨⟨⟨h1, h2⟩, h3⟩, h4⟩ := h
  have h1 := Nat.eq_of_beq_eq_true h1
  have h2 := Nat.ble_eq.mp h2
  have h3 := Nat.eq_of_beq_eq_true h3
  obtain ⟨r1, r2, r3, r4, r5⟩ := hs
  refine ⟨by omega, h2, by omega, fun j hj => ?_⟩
  obtain ⟨q1, q2, q3, q4⟩ := r5 j (by omega)
  obtain ⟨c1, c2, c3⟩ := y_cc_ok (y_cs1_ok _ h4 j hj) q4
  rw [c1, c2] at c3 ⊢
  exact ⟨q1, c3⟩
