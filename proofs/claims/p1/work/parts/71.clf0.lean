/-! START 0, depth 5: what its calls do, one by one -/
noncomputable def mo1 (r : Nat) (A B : yM) : Nat → yM → (yM → Bool) → Bool := fun a M K => f_if false (Nat.beq a r) (f_if false (y_sub M A) (K B))
noncomputable def mo2 (r b : Nat) (A B : yM) : Nat → Nat → yM → (yM → Bool) → Bool := fun a c M K => f_if false (Nat.beq a r) (f_if false (Nat.beq c b) (f_if false (y_sub M A) (K B)))
theorem mo1_ok {r : Nat} {A B : yM} {a : Nat} {M : yM} {K : yM → Bool} {μ : eM} (h : mo1 r A B a M K = true) (hR : yR M μ) : a = r ∧ yR A μ ∧ K B = true := by
  obtain ⟨g1, h⟩ := f_if_ok h
  obtain ⟨g2, h⟩ := f_if_ok h
  exact ⟨Nat.eq_of_beq_eq_true g1, y_sub_ok g2 hR, h⟩
theorem mo2_ok {r b : Nat} {A B : yM} {a c : Nat} {M : yM} {K : yM → Bool} {μ : eM} (h : mo2 r b A B a c M K = true) (hR : yR M μ) : a = r ∧ c = b ∧ yR A μ ∧ K B = true := by
  obtain ⟨g1, h⟩ := f_if_ok h
  obtain ⟨g3, h⟩ := f_if_ok h
  obtain ⟨g2, h⟩ := f_if_ok h
  exact ⟨Nat.eq_of_beq_eq_true g1, Nat.eq_of_beq_eq_true g3, y_sub_ok g2 hR, h⟩
theorem tH_ok {k a : Nat} {H M : yM} {μ : eM} (h : tH k H a M = true) (hR : yR M μ) : a = k ∧ yR H μ := by
  obtain ⟨g1, h⟩ := f_if_ok h
  exact ⟨Nat.eq_of_beq_eq_true g1, y_sub_ok h hR⟩
theorem z_no1 {p : Prop} : false = true → p := fun h => absurd h Bool.false_ne_true
noncomputable def mg_107_10r (a0 : Nat) (K : yM → Bool) (base : Nat → yM → Bool) (n : Nat) : Nat → yM → Bool := @Nat.rec (fun _ => Nat → yM → Bool) base (fun _ ih => mg_107_10b a0 K ih) n
theorem mg_107_10r_ok {fg : eG} {rc rs d : Nat} {f : eFr} {F : List eFr} {μ0 : eM} {a0 : Nat} {K : yM → Bool} {base : Nat → yM → Bool} (hG : yG fg y_T) (hk : ev_kd μ0 a0 = some 8) (p0 : 0 < a0) (hK : ∀ (M : yM) (μ : eM), K M = true → yR M μ → y_le μ0 μ → ex_fine fg rc rs (d + 5, (f.1, f.2.1, f.2.2.1, f.2.2.2), F, μ)) (h10 : ∀ (a1 : Nat) (M : yM) (μ : eM), base a1 M = true → yR M μ → y_le μ0 μ → ex_fine fg rc rs (d + 4, (107, 10, [some (eR a0), some (eI (zI a1))], []), f :: F, μ)) : ∀ n : Nat, ∀ (a1 : Nat) (M : yM) (μ : eM), mg_107_10r a0 K base n a1 M = true → yR M μ → y_le μ0 μ → ex_fine fg rc rs (d + 4, (107, 10, [some (eR a0), some (eI (zI a1))], []), f :: F, μ) := by
  intro n
  induction n with
  | zero =>
    intro a1 M μ h hR hl
    exact h10 a1 M μ h hR hl
  | succ n ih =>
    intro a1 M μ h hR hl
    exact mg_107_10b_ok hG hk p0 hK ih a1 M μ h hR hl
set_option maxRecDepth 100000 in
theorem gf_30 : m_30 140 5 gm0_h5 (fun M => y_sub M gm0_e107) = true := by decide +kernel
set_option maxRecDepth 100000 in
theorem gf_e : mg_107 (tH 0 gn0_l0) 149 gm0_e107 (fun _ => false) = true := by decide +kernel
set_option maxRecDepth 100000 in
theorem gf_5 : mh_14_55b (mo2 140 5 gm0_h5 gm0_e107) (mo1 149 gm0_e107 gn0_e2) (mo1 148 gn0_e2 gn0_e88) 136 0 (fun _ => false) (tH 6 gm0_h6) 5 gm0_h5 = true := by decide +kernel
