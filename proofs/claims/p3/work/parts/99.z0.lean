/-! an object is done while another one is being made -/
theorem UC.pb2 {g : Nat → Nat} {μ : eM} {r c n ρ : Nat} {L : List Int} (h : UC g μ r c n L) (hI : SI g μ) (h0 : ρ ≠ 0) (h52 : ρ < 52) (hk : RK ρ = (c, n)) (hs : ∀ k, k < n → hOk g (SD ρ k) (L.getD k 0)) : ∃ g2 : Nat → Nat, SI g2 μ ∧ GE g g2 ∧ g2 r = ρ ∧ ∀ x, x ≠ r → g2 x = g x := by
  have e : ∀ x, x ≠ r → gs g r ρ x = g x := fun x hx => if_neg hx
  have ea : gs g r ρ r = ρ := if_pos rfl
  have hE : GE g (gs g r ρ) := ⟨(e 0 (fun q => by have := h.2.1; omega)).trans hI.1, fun x hx => e x (fun q => hx (by rw [q]; exact h.1))⟩
  refine ⟨gs g r ρ, ⟨hE.1, fun x hx => ?_, fun x k hx hk2 => ?_, fun x y hx hxy => ?_⟩, hE, ea, e⟩
  · by_cases q : x = r
    · subst q
      rw [ea, hk]
      exact h.2.2.1
    · rw [e x q] at hx ⊢
      exact hI.2.1 x hx
  · by_cases q : x = r
    · subst q
      rw [ea] at hk2 ⊢
      rw [hk] at hk2
      rw [h.2.2.2 k hk2]
      exact (hs k hk2).ge hE
    · rw [e x q] at hx hk2 ⊢
      exact (hI.2.2.1 x k hx hk2).ge hE
  · by_cases q : x = r
    · subst q
      rw [ea] at hx
      omega
    · rw [e x q] at hx hxy
      by_cases q2 : y = r
      · subst q2
        rw [ea] at hxy
        omega
      · rw [e y q2] at hxy
        exact hI.2.2.2 x y hx hxy
