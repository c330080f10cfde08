/-! LAYS, FIGURES: contracts as the walker wants them -/
def PB (g : Nat → Nat) (_ : eM) : Prop := PA g
theorem PB.fr {l : List Nat} {c s : Nat} {g : Nat → Nat} {μ m : eM} (h : PB g μ) (_ : Fr l c s g μ m) (_ : md [] l = true) : PB g m := h
def l_239w : List Nat := l_239b
def l_253w : List Nat := [17920, 18176]
theorem s_239w {L : Nat} {ρ : Nat → Int} {rc : eQ} {d : Nat} {f : eFr} {F : List eFr} {μ : eM} {g : Nat → Nat} {a0 : Nat} {a1 : Int} {a2 : Int} (hI : SI g μ) (gA0 : g a0 = 52) (bA1 : 0 ≤ a1 ∧ a1 ≤ 3) (bA2 : 0 ≤ a2 ∧ a2 ≤ 5) (h_PB : PB g μ) (K : ∀ (μ2 : eM), SI g μ2 → Fr l_239w 0 0 g μ μ2 → PB g μ2 → PK g μ2 → LG g μ2 → MT g μ2 → LB g μ2 → FS g μ2 → PO g μ2 → SP g μ2 → ex_q (dt_fg L ρ) rc (d + 6, (f.1, f.2.1, f.2.2.1, f.2.2.2), F, μ2)) : ex_q (dt_fg L ρ) rc (d + 5, (239, 0, [some (eR a0), some (eI (a1)), some (eI (a2)), none, none], []), f :: F, μ) :=
  s_239 hI gA0 h_PB bA1 bA2 (fun m q1 q2 q3 q4 _ => K m q1 q2 h_PB q4 q3.1 q3.2.1 q3.2.2.1 q3.2.2.2.1 q3.2.2.2.2.1 q3.2.2.2.2.2)
theorem s_253w {L : Nat} {ρ : Nat → Int} {rc : eQ} {d : Nat} {f : eFr} {F : List eFr} {μ : eM} {g : Nat → Nat} {a0 : Nat} {a1 : Int} {po : Int} (hI : SI g μ) (gA0 : g a0 = 52) (bA1 : 0 ≤ a1 ∧ a1 ≤ 2669) (h_po : μ.1 a0 28 = po) (h_PK : PK g μ) (hp0 : a1 < po) (K : ∀ (μ2 : eM) (v : Int) (po2 : Int), SI g μ2 → Fr l_253w 0 0 g μ μ2 → (-2147483648 ≤ v ∧ v ≤ 2147483647) → μ2.1 a0 28 = po2 → (po2 = po) → ex_q (dt_fg L ρ) rc (d + 5, (f.1, f.2.1, f.2.2.1, eI v :: f.2.2.2), F, μ2)) : ex_q (dt_fg L ρ) rc (d + 4, (253, 0, [some (eR a0), some (eI (a1)), none, none, none], []), f :: F, μ) :=
  s_253 hI gA0 h_PK ⟨bA1.1, by omega⟩ (by omega) (fun r m q0 q1 q2 => K m r po q1 q2 q0 (by rw [← h_po]; exact q2.fld (D := [13341]) rfl gA0 (by decide) (by decide)) rfl)
theorem PO.b {g : Nat → Nat} {μ : eM} {a po : Nat} {n i v q : Int} (h : PO g μ) (ha : g a = 52) (hpo : g po = 64) (hn : μ.1 a 8 = n) (hq : μ.1 a 28 = q) (hi : 0 ≤ i ∧ i < 3 * n) (e : μ.1 po i.toNat = v) : 0 ≤ v ∧ v < q := by
  have h1 := h a po ha hpo i.toNat (by omega)
  rw [e, hq] at h1
  exact h1
theorem SP.b {g : Nat → Nat} {μ : eM} {a sl : Nat} {i v q : Int} (h : SP g μ) (ha : g a = 52) (hs : g sl = 63) (hq : μ.1 a 28 = q) (hi : 0 ≤ i ∧ i < 8192) (e : μ.1 sl i.toNat = v) : v < q := by
  have h1 := h a sl ha hs i.toNat (by omega)
  rw [e, hq] at h1
  exact h1
