/-! MATES have the same B and C -/
def MT (g : Nat → Nat) (μ : eM) : Prop := ∀ a po mt : Nat, g a = 52 → g po = 64 → g mt = 67 → ∀ i : Nat, (i : Int) < μ.1 a 8 → 0 ≤ μ.1 mt i → μ.1 mt i < μ.1 a 8 ∧ μ.1 po (3 * (μ.1 mt i).toNat + 1) = μ.1 po (3 * i + 1) ∧ μ.1 po (3 * (μ.1 mt i).toNat + 2) = μ.1 po (3 * i + 2)
theorem MT.fr {l : List Nat} {c s : Nat} {g : Nat → Nat} {μ m : eM} (h : MT g μ) (hF : Fr l c s g μ m) (hd : md [16384, 17152, 13321] l = true) : MT g m := by
  intro a po mt ha hpo hmt
  have e1 := hF.row hd hpo (by decide) rfl (by decide)
  have e2 := hF.row hd hmt (by decide) rfl (by decide)
  have e3 : m.1 a 8 = μ.1 a 8 := hF.fld hd ha (by decide) (by decide)
  rw [e1, e2, e3]
  exact h a po mt ha hpo hmt
theorem LG.c {g : Nat → Nat} {μ : eM} {p p2 q D : Int} (h : ∀ ap : Nat, g ap = 65 → DM (μ.1 ap) (4 * p) (4 * q) D) (e : p = p2) : ∃ D, ∀ ap : Nat, g ap = 65 → DM (μ.1 ap) (4 * p2) (4 * q) D := by
  subst e
  exact ⟨D, h⟩
/-- back along a leg -/
theorem LG.b {g : Nat → Nat} {μ : eM} {p q q2 D : Int} (h : ∀ ap : Nat, g ap = 65 → DM (μ.1 ap) (4 * p) (4 * q) D) (e : q = q2) : ∃ D, ∀ ap : Nat, g ap = 65 → DM (μ.1 ap) (4 * q2) (4 * p) D := by
  subst e
  exact ⟨_, fun ap hap => (h ap hap).rev⟩
/-- back along the mate's leg -/
theorem LG.m {g : Nat → Nat} {μ : eM} {a po mt : Nat} {n i m c v0 v1 p q p2 : Int} (hI : SI g μ) (h : LG g μ) (hm : MT g μ) (ha : g a = 52) (hpo : g po = 64) (hmt : g mt = 67) (hn : μ.1 a 8 = n) (hi : 0 ≤ i ∧ i < n) (em : μ.1 mt i.toNat = m) (h0 : 0 ≤ m) (hv0 : v0 = 3 * m) (e0 : μ.1 po v0.toNat = q) (hv1 : v1 = 3 * i + c) (hc : c = 1 ∨ c = 2) (e1 : μ.1 po v1.toNat = p) (e : p = p2) : ∃ D, ∀ ap : Nat, g ap = 65 → DM (μ.1 ap) (4 * p2) (4 * q) D := by
  have h1 := hm a po mt ha hpo hmt i.toNat (by omega)
  rw [em, hn] at h1
  obtain ⟨h2, h3, h4⟩ := h1 h0
  have h5 : μ.1 po (3 * m + c).toNat = p := by
    rcases hc with rfl | rfl
    · rw [show (3 * m + 1).toNat = 3 * m.toNat + 1 by omega, h3, show 3 * i.toNat + 1 = v1.toNat by omega]
      exact e1
    · rw [show (3 * m + 2).toNat = 3 * m.toNat + 2 by omega, h4, show 3 * i.toNat + 2 = v1.toNat by omega]
      exact e1
  obtain ⟨D, hD⟩ := LG.d (i := m) (c := c) hI h ha hpo hn ⟨h0, h2⟩ hv0 e0 rfl hc h5
  exact LG.b hD e
