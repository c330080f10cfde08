/-! LEGS are steps: what is said of the halves that lie -/
def LG (g : Nat → Nat) (μ : eM) : Prop := ∀ a po ap : Nat, g a = 52 → g po = 64 → g ap = 65 → ∀ h : Nat, (h : Int) < μ.1 a 8 → (∃ D, DM (μ.1 ap) (4 * μ.1 po (3 * h)) (4 * μ.1 po (3 * h + 1)) D) ∧ ∃ D, DM (μ.1 ap) (4 * μ.1 po (3 * h)) (4 * μ.1 po (3 * h + 2)) D
theorem LG.fr {l : List Nat} {c s : Nat} {g : Nat → Nat} {μ m : eM} (h : LG g μ) (hF : Fr l c s g μ m) (hd : md [16384, 16640, 13321] l = true) : LG g m := by
  intro a po ap ha hpo hap
  have e1 := hF.row hd hpo (by decide) rfl (by decide)
  have e2 := hF.row hd hap (by decide) rfl (by decide)
  have e3 : m.1 a 8 = μ.1 a 8 := hF.fld hd ha (by decide) (by decide)
  rw [e1, e2, e3]
  exact h a po ap ha hpo hap
theorem LG.d {g : Nat → Nat} {μ : eM} {a po : Nat} {n i c v0 v1 p q : Int} (hI : SI g μ) (h : LG g μ) (ha : g a = 52) (hpo : g po = 64) (hn : μ.1 a 8 = n) (hi : 0 ≤ i ∧ i < n) (h0 : v0 = 3 * i) (e0 : μ.1 po v0.toNat = p) (h1 : v1 = 3 * i + c) (hc : c = 1 ∨ c = 2) (e1 : μ.1 po v1.toNat = q) : ∃ D, ∀ ap : Nat, g ap = 65 → DM (μ.1 ap) (4 * p) (4 * q) D := by
  by_cases hex : ∃ ap : Nat, g ap = 65
  · obtain ⟨ap, hap⟩ := hex
    have h2 := h a po ap ha hpo hap i.toNat (by omega)
    rw [show 3 * i.toNat = v0.toNat by omega, e0] at h2
    rcases hc with rfl | rfl
    · obtain ⟨D, hD⟩ := h2.1
      rw [show v0.toNat + 1 = v1.toNat by omega, e1] at hD
      exact ⟨D, fun ap2 h3 => (by rw [hI.2.2.2 ap2 ap (by omega) (by omega)]; exact hD)⟩
    · obtain ⟨D, hD⟩ := h2.2
      rw [show v0.toNat + 2 = v1.toNat by omega, e1] at hD
      exact ⟨D, fun ap2 h3 => (by rw [hI.2.2.2 ap2 ap (by omega) (by omega)]; exact hD)⟩
  · exact ⟨0, fun ap h3 => absurd ⟨ap, h3⟩ hex⟩
