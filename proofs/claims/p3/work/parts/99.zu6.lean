/-! LAYS of LEVEL 0: how many halves -/
theorem PK_h {g : Nat → Nat} {m1 m : eM} {pk : yM} (H : Nat) (hI : SI g m) (hP : PA g) (hR : xR pk m1) (hW : Wr m1 m 98 35 0) (hC : x_C pk = true) (hlo : ∀ j, j < 34 → n_get pk.1 j = xD) (hN : Nat.beq (y_rg (n_get pk.1 34).2.2 8) (H + 1) = true) (hN2 : H < 2147483648) : m.1 98 8 = (H : Int) := by
  have hM : pk.2.1 = 72 := by
    unfold x_C at hC
    exact Nat.eq_of_beq_eq_true (f_if_ok hC).1
  have hS := x_S_of hR hI (by rw [show m = _ from hW]) hP hC hlo
  have hF : Fr [13348] 0 0 g m1 m := Fr.f hW (hP 34 (by omega) (by omega))
  have hV := x_V_fr (x_V_of hR) hC hlo hP hF rfl
  have hR2 := x_R_of hS hV hI hP hM
  have hc := hI.cell (hP 34 (by omega) (by omega)) (by decide) rfl
  exact (x_vr hR2 hc (by omega) (by omega) (Nat.eq_of_beq_eq_true hN)).trans (zI_lit (by omega))
theorem pk0_0_H : Nat.beq (y_rg (n_get pk0_0.1 34).2.2 8) (10 + 1) = true := by decide +kernel
theorem pk1_0_H : Nat.beq (y_rg (n_get pk1_0.1 34).2.2 8) (1 + 1) = true := by decide +kernel
theorem pk2_0_H : Nat.beq (y_rg (n_get pk2_0.1 34).2.2 8) (1 + 1) = true := by decide +kernel
theorem pk3_0_H : Nat.beq (y_rg (n_get pk3_0.1 34).2.2 8) (2 + 1) = true := by decide +kernel
def l_239n : List Nat := l_239b
theorem s_239n {L : Nat} {ρ : Nat → Int} {rc : eQ} {d : Nat} {f : eFr} {F : List eFr} {μ : eM} {g : Nat → Nat} {a0 : Nat} {a1 : Int} {ha : Int} (hI : SI g μ) (gA0 : g a0 = 52) (bA1 : 0 ≤ a1 ∧ a1 ≤ 3) (_ : μ.1 a0 8 = ha) (h_PB : PB g μ) (K : ∀ (μ2 : eM) (ha2 : Int), SI g μ2 → Fr l_239n 0 0 g μ μ2 → μ2.1 a0 8 = ha2 → (a1 = 0 ∧ ha2 = 10 ∨ a1 = 1 ∧ ha2 = 1 ∨ a1 = 2 ∧ ha2 = 1 ∨ a1 = 3 ∧ ha2 = 2) → PB g μ2 → PK g μ2 → LG g μ2 → MT g μ2 → LB g μ2 → FS g μ2 → PO g μ2 → SP g μ2 → ex_q (dt_fg L ρ) rc (d + 6, (f.1, f.2.1, f.2.2.1, f.2.2.2), F, μ2)) : ex_q (dt_fg L ρ) rc (d + 5, (239, 0, [some (eR a0), some (eI (a1)), some (eI (0)), none, none], []), f :: F, μ) := by
  have hP : PA g := h_PB
  have e0 : a0 = 98 := hP.at hI (by decide) (by decide) gA0
  subst e0
  have h1 : a1 = 0 ∨ a1 = 1 ∨ a1 = 2 ∨ a1 = 3 := by omega
  rcases h1 with rfl | rfl | rfl | rfl
  · rw [show (0 : Int) = zI 0 by decide]
    exact r_239 hI hP hy0_0 (fun m1 m q1 q2 q3 q4 q5 q6 => K m 10 q1 q2 (PK_h 10 q1 hP q4 q5 pk0_0_C pk0_0_lo pk0_0_H (by decide)) (by decide) h_PB (PK_of 11 q1 hP q4 q5 pk0_0_C pk0_0_lo pk0_0_f pk0_0_N (by decide)) q3.1 q3.2.1 q3.2.2.1 q3.2.2.2.1 q3.2.2.2.2.1 q3.2.2.2.2.2)
  · rw [show (1 : Int) = zI 1 by decide, show (0 : Int) = zI 0 by decide]
    exact r_239 hI hP hy1_0 (fun m1 m q1 q2 q3 q4 q5 q6 => K m 1 q1 q2 (PK_h 1 q1 hP q4 q5 pk1_0_C pk1_0_lo pk1_0_H (by decide)) (by decide) h_PB (PK_of 3 q1 hP q4 q5 pk1_0_C pk1_0_lo pk1_0_f pk1_0_N (by decide)) q3.1 q3.2.1 q3.2.2.1 q3.2.2.2.1 q3.2.2.2.2.1 q3.2.2.2.2.2)
  · rw [show (2 : Int) = zI 2 by decide, show (0 : Int) = zI 0 by decide]
    exact r_239 hI hP hy2_0 (fun m1 m q1 q2 q3 q4 q5 q6 => K m 1 q1 q2 (PK_h 1 q1 hP q4 q5 pk2_0_C pk2_0_lo pk2_0_H (by decide)) (by decide) h_PB (PK_of 3 q1 hP q4 q5 pk2_0_C pk2_0_lo pk2_0_f pk2_0_N (by decide)) q3.1 q3.2.1 q3.2.2.1 q3.2.2.2.1 q3.2.2.2.2.1 q3.2.2.2.2.2)
  · rw [show (3 : Int) = zI 3 by decide, show (0 : Int) = zI 0 by decide]
    exact r_239 hI hP hy3_0 (fun m1 m q1 q2 q3 q4 q5 q6 => K m 2 q1 q2 (PK_h 2 q1 hP q4 q5 pk3_0_C pk3_0_lo pk3_0_H (by decide)) (by decide) h_PB (PK_of 4 q1 hP q4 q5 pk3_0_C pk3_0_lo pk3_0_f pk3_0_N (by decide)) q3.1 q3.2.1 q3.2.2.1 q3.2.2.2.1 q3.2.2.2.2.1 q3.2.2.2.2.2)
