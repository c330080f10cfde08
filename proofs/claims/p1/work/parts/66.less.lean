/-! LESS KNOWN: a memory that says less than another one -/
noncomputable def y_ts (t1 : Lean.RArray Nat) : Lean.RArray Nat → Bool := @Lean.RArray.rec Nat (fun _ => Lean.RArray Nat → Bool) (fun x t' => @Lean.RArray.rec Nat (fun _ => Bool) (fun x' => @Bool.rec (fun _ => Bool) (Nat.beq x x') true (Nat.beq x 0)) (fun _ _ _ _ _ => false) t') (fun _ _ _ gl gr t' => @Lean.RArray.rec Nat (fun _ => Bool) (fun _ => false) (fun _ l' r' _ _ => @Bool.rec (fun _ => Bool) false (gr r') (gl l')) t') t1
theorem y_ts_ok : ∀ (d : Nat) (t1 t' : Lean.RArray Nat), y_ts t1 t' = true → y_pf d t' → y_pf d t1 ∧ ∀ i, y_get t1 i = 0 ∨ y_get t1 i = y_get t' i := by
  intro d
  induction d with
  | zero =>
    intro t1 t' h hp
    cases t' with
    | branch p l r => exact absurd hp id
    | leaf x' =>
      cases t1 with
      | branch p l r => exact absurd h Bool.false_ne_true
      | leaf x =>
        refine ⟨True.intro, fun i => ?_⟩
        have h : @Bool.rec (fun _ => Bool) (Nat.beq x x') true (Nat.beq x 0) = true := h
        show x = 0 ∨ x = x'
        cases hq : Nat.beq x 0 with
        | true => exact Or.inl (Nat.eq_of_beq_eq_true hq)
        | false =>
          rw [hq] at h
          exact Or.inr (Nat.eq_of_beq_eq_true h)
  | succ d ih =>
    intro t1 t' h hp
    cases t' with
    | leaf x' => exact absurd hp id
    | branch p' l' r' =>
      cases t1 with
      | leaf x => exact absurd h Bool.false_ne_true
      | branch p l r =>
        have h : @Bool.rec (fun _ => Bool) false (y_ts r r') (y_ts l l') = true := h
        have h1 : y_ts l l' = true ∧ y_ts r r' = true := by
          cases hq : y_ts l l' with
          | false =>
            rw [hq] at h
            exact absurd h Bool.false_ne_true
          | true =>
            rw [hq] at h
            exact ⟨rfl, h⟩
        obtain ⟨a1, a2⟩ := ih l l' h1.1 hp.1
        obtain ⟨b1, b2⟩ := ih r r' h1.2 hp.2
        refine ⟨⟨a1, b1⟩, fun i => ?_⟩
        show @Bool.rec (fun _ => Nat) (y_get l (Nat.div i 2)) (y_get r (Nat.div i 2)) (Nat.beq (Nat.mod i 2) 1) = 0 ∨ @Bool.rec (fun _ => Nat) (y_get l (Nat.div i 2)) (y_get r (Nat.div i 2)) (Nat.beq (Nat.mod i 2) 1) = @Bool.rec (fun _ => Nat) (y_get l' (Nat.div i 2)) (y_get r' (Nat.div i 2)) (Nat.beq (Nat.mod i 2) 1)
        cases Nat.beq (Nat.mod i 2) 1 with
        | false => exact a2 _
        | true => exact b2 _
noncomputable def y_cs (c1 c' : yC) : Bool := @Prod.rec Nat (Nat × Lean.RArray Nat) (fun _ => Bool) (fun k1 q1 => @Prod.rec Nat (Lean.RArray Nat) (fun _ => Bool) (fun n1 t1 => @Prod.rec Nat (Nat × Lean.RArray Nat) (fun _ => Bool) (fun k' q' => @Prod.rec Nat (Lean.RArray Nat) (fun _ => Bool) (fun n' t' => f_if false (Nat.beq k1 k') (f_if false (Nat.beq n1 n') (y_ts t1 t'))) q') c') q1) c1
theorem y_cs_ok {c1 c' : yC} {f : Nat → Int} (h : y_cs c1 c' = true) (hr : y_row c'.1 c'.2.1 c'.2.2 f) : c1.1 = c'.1 ∧ c1.2.1 = c'.2.1 ∧ y_row c1.1 c1.2.1 c1.2.2 f := by
  obtain ⟨k1, n1, t1⟩ := c1
  obtain ⟨k', n', t'⟩ := c'
  have h : f_if false (Nat.beq k1 k') (f_if false (Nat.beq n1 n') (y_ts t1 t')) = true := h
  obtain ⟨g1, h1⟩ := f_if_ok h
  obtain ⟨g2, h2⟩ := f_if_ok h1
  have g1 := Nat.eq_of_beq_eq_true g1
  have g2 := Nat.eq_of_beq_eq_true g2
  subst g1
  subst g2
  obtain ⟨d, p1, p2, p3, p4⟩ := hr
  obtain ⟨a1, a2⟩ := y_ts_ok d t1 t' h2 p1
  refine ⟨rfl, rfl, d, a1, p2, p3, fun k c hk hc => ?_⟩
  have hc : n_at (y_get t1 (k / 256)) (k % 256) = c + 1 := hc
  rcases a2 (k / 256) with q | q
  · rw [q, q_lane0] at hc
    omega
  · rw [q] at hc
    exact p4 k c hk hc
noncomputable def y_sl1 (T1 T' : nC7) (n : Nat) : Bool := @Nat.rec (fun _ => Bool) true (fun j ih => @Bool.rec (fun _ => Bool) false ih (y_cs (n_get T1 j) (n_get T' j))) n
theorem y_sl1_ok {T1 T' : nC7} : ∀ n, y_sl1 T1 T' n = true → ∀ j, j < n → y_cs (n_get T1 j) (n_get T' j) = true := by
  intro n
  induction n with
  | zero =>
    intro _ j hj
    omega
  | succ n ih =>
    intro h j hj
    have h : @Bool.rec (fun _ => Bool) false (y_sl1 T1 T' n) (y_cs (n_get T1 n) (n_get T' n)) = true := h
    cases hq : y_cs (n_get T1 n) (n_get T' n) with
    | false =>
      rw [hq] at h
      exact absurd h Bool.false_ne_true
    | true =>
      rw [hq] at h
      by_cases hjn : j = n
      · rw [hjn]
        exact hq
      · exact ih h j (by omega)
/-- what M' knows is all that M1 knows, and more -/
noncomputable def y_sub (M' M1 : yM) : Bool := f_if false (Nat.beq M1.2.1 M'.2.1) (f_if false (Nat.beq M1.2.2 M'.2.2) (y_sl1 M1.1 M'.1 M1.2.1))
theorem y_sub_ok {M' M1 : yM} {μ : eM} (h : y_sub M' M1 = true) (hR : yR M' μ) : yR M1 μ := by
  obtain ⟨g1, h1⟩ := f_if_ok h
  obtain ⟨g2, h2⟩ := f_if_ok h1
  have g1 := Nat.eq_of_beq_eq_true g1
  have g2 := Nat.eq_of_beq_eq_true g2
  obtain ⟨r1, r2, r3, r4⟩ := hR
  refine ⟨by omega, by omega, by omega, fun j hj => ?_⟩
  have hc := y_sl1_ok _ h2 j hj
  obtain ⟨a1, a2⟩ := r4 j (by omega)
  obtain ⟨b1, b2, b3⟩ := y_cs_ok hc a2
  rw [b1, b2] at b3 ⊢
  exact ⟨a1, b3⟩
/-- a value is one of some -/
noncomputable def z_in (v : Nat) (l : List Nat) : Bool := @List.rec Nat (fun _ => Bool) false (fun x _ ih => @Bool.rec (fun _ => Bool) ih true (Nat.beq x v)) l
theorem z_in_ok {v : Nat} : ∀ l, z_in v l = true → v ∈ l := by
  intro l
  induction l with
  | nil => exact fun h => absurd h Bool.false_ne_true
  | cons x l ih =>
    intro h
    have h : @Bool.rec (fun _ => Bool) (z_in v l) true (Nat.beq x v) = true := h
    cases hq : Nat.beq x v with
    | true => rw [Nat.eq_of_beq_eq_true hq]; exact List.mem_cons_self
    | false =>
      rw [hq] at h
      exact List.mem_cons_of_mem _ (ih h)
/-- tests against a number that isn't known: it is none of some; it is one of them -/
noncomputable def z_no (l : List Nat) (v : Nat) (_ B : Bool) : Bool := f_if false (z_in v l) B
noncomputable def z_is (p v : Nat) (A B : Bool) : Bool := z_if (z_eq v p) A B
def zT (φ : Nat) (T : Nat → Bool → Bool → Bool) : Prop := ∀ (v : Nat) (A B : Bool), T v A B = true → (z_eq v φ = true ∧ A = true) ∨ (z_eq v φ = false ∧ B = true)
theorem z_no_ok {φ : Nat} {l : List Nat} (hl : ∀ v ∈ l, z_eq v φ = false) : zT φ (z_no l) := by
  intro v A B h
  obtain ⟨h1, h2⟩ := f_if_ok h
  exact Or.inr ⟨hl v (z_in_ok l h1), h2⟩
theorem z_is_ok (φ : Nat) : zT φ (z_is φ) := fun v A B h => z_if_t h
