/-! LAYS: its contract -/
theorem PK_of {g : Nat → Nat} {m1 m : eM} {pk : yM} (N : Nat) (hI : SI g m) (hP : PA g) (hR : xR pk m1) (hW : Wr m1 m 98 35 0) (hC : x_C pk = true) (hlo : ∀ j, j < 34 → n_get pk.1 j = xD) (hf : ∀ p, p < N → m_253 98 p pk (x_kf pk) = true) (hN : Nat.beq (y_rg (n_get pk.1 34).2.2 28) (N + 1) = true) (hN2 : N < 2147483648) : PK g m := by
  have hM : pk.2.1 = 72 := by
    unfold x_C at hC
    exact Nat.eq_of_beq_eq_true (f_if_ok hC).1
  have hS := x_S_of hR hI (by rw [show m = _ from hW]) hP hC hlo
  have hF : Fr [13348] 0 0 g m1 m := Fr.f hW (hP 34 (by omega) (by omega))
  have hV := x_V_fr (x_V_of hR) hC hlo hP hF rfl
  refine ⟨hP, pk, N, ⟨hS, hV, hC, hlo, hM⟩, hf, ?_⟩
  have hR2 := x_R_of hS hV hI hP hM
  have hc := hI.cell (hP 34 (by omega) (by omega)) (by decide) rfl
  exact (x_vr hR2 hc (by omega) (by omega) (Nat.eq_of_beq_eq_true hN)).trans (zI_lit (by omega))
theorem pk1_0_lo (j : Nat) (h : j < 34) : n_get pk1_0.1 j = xD := by
  have h : j = 0 ∨ j = 1 ∨ j = 2 ∨ j = 3 ∨ j = 4 ∨ j = 5 ∨ j = 6 ∨ j = 7 ∨ j = 8 ∨ j = 9 ∨ j = 10 ∨ j = 11 ∨ j = 12 ∨ j = 13 ∨ j = 14 ∨ j = 15 ∨ j = 16 ∨ j = 17 ∨ j = 18 ∨ j = 19 ∨ j = 20 ∨ j = 21 ∨ j = 22 ∨ j = 23 ∨ j = 24 ∨ j = 25 ∨ j = 26 ∨ j = 27 ∨ j = 28 ∨ j = 29 ∨ j = 30 ∨ j = 31 ∨ j = 32 ∨ j = 33 := by omega
  rcases h with rfl | rfl | rfl | rfl | rfl | rfl | rfl | rfl | rfl | rfl | rfl | rfl | rfl | rfl | rfl | rfl | rfl | rfl | rfl | rfl | rfl | rfl | rfl | rfl | rfl | rfl | rfl | rfl | rfl | rfl | rfl | rfl | rfl | rfl <;> rfl
theorem pk1_0_C : x_C pk1_0 = true := by decide +kernel
theorem pk1_0_N : Nat.beq (y_rg (n_get pk1_0.1 34).2.2 28) (3 + 1) = true := by decide +kernel
theorem pk1_0_f : ∀ p, p < 3 → m_253 98 p pk1_0 (x_kf pk1_0) = true := by
  intro p hp
  exact x_fs_ok 3 hg1_0_0 p (by omega) (by omega)
theorem pk1_1_lo (j : Nat) (h : j < 34) : n_get pk1_1.1 j = xD := by
  have h : j = 0 ∨ j = 1 ∨ j = 2 ∨ j = 3 ∨ j = 4 ∨ j = 5 ∨ j = 6 ∨ j = 7 ∨ j = 8 ∨ j = 9 ∨ j = 10 ∨ j = 11 ∨ j = 12 ∨ j = 13 ∨ j = 14 ∨ j = 15 ∨ j = 16 ∨ j = 17 ∨ j = 18 ∨ j = 19 ∨ j = 20 ∨ j = 21 ∨ j = 22 ∨ j = 23 ∨ j = 24 ∨ j = 25 ∨ j = 26 ∨ j = 27 ∨ j = 28 ∨ j = 29 ∨ j = 30 ∨ j = 31 ∨ j = 32 ∨ j = 33 := by omega
  rcases h with rfl | rfl | rfl | rfl | rfl | rfl | rfl | rfl | rfl | rfl | rfl | rfl | rfl | rfl | rfl | rfl | rfl | rfl | rfl | rfl | rfl | rfl | rfl | rfl | rfl | rfl | rfl | rfl | rfl | rfl | rfl | rfl | rfl | rfl <;> rfl
theorem pk1_1_C : x_C pk1_1 = true := by decide +kernel
theorem pk1_1_N : Nat.beq (y_rg (n_get pk1_1.1 34).2.2 28) (4 + 1) = true := by decide +kernel
theorem pk1_1_f : ∀ p, p < 4 → m_253 98 p pk1_1 (x_kf pk1_1) = true := by
  intro p hp
  exact x_fs_ok 4 hg1_1_0 p (by omega) (by omega)
theorem pk1_2_lo (j : Nat) (h : j < 34) : n_get pk1_2.1 j = xD := by
  have h : j = 0 ∨ j = 1 ∨ j = 2 ∨ j = 3 ∨ j = 4 ∨ j = 5 ∨ j = 6 ∨ j = 7 ∨ j = 8 ∨ j = 9 ∨ j = 10 ∨ j = 11 ∨ j = 12 ∨ j = 13 ∨ j = 14 ∨ j = 15 ∨ j = 16 ∨ j = 17 ∨ j = 18 ∨ j = 19 ∨ j = 20 ∨ j = 21 ∨ j = 22 ∨ j = 23 ∨ j = 24 ∨ j = 25 ∨ j = 26 ∨ j = 27 ∨ j = 28 ∨ j = 29 ∨ j = 30 ∨ j = 31 ∨ j = 32 ∨ j = 33 := by omega
  rcases h with rfl | rfl | rfl | rfl | rfl | rfl | rfl | rfl | rfl | rfl | rfl | rfl | rfl | rfl | rfl | rfl | rfl | rfl | rfl | rfl | rfl | rfl | rfl | rfl | rfl | rfl | rfl | rfl | rfl | rfl | rfl | rfl | rfl | rfl <;> rfl
theorem pk1_2_C : x_C pk1_2 = true := by decide +kernel
theorem pk1_2_N : Nat.beq (y_rg (n_get pk1_2.1 34).2.2 28) (6 + 1) = true := by decide +kernel
theorem pk1_2_f : ∀ p, p < 6 → m_253 98 p pk1_2 (x_kf pk1_2) = true := by
  intro p hp
  exact x_fs_ok 6 hg1_2_0 p (by omega) (by omega)
theorem pk1_3_lo (j : Nat) (h : j < 34) : n_get pk1_3.1 j = xD := by
  have h : j = 0 ∨ j = 1 ∨ j = 2 ∨ j = 3 ∨ j = 4 ∨ j = 5 ∨ j = 6 ∨ j = 7 ∨ j = 8 ∨ j = 9 ∨ j = 10 ∨ j = 11 ∨ j = 12 ∨ j = 13 ∨ j = 14 ∨ j = 15 ∨ j = 16 ∨ j = 17 ∨ j = 18 ∨ j = 19 ∨ j = 20 ∨ j = 21 ∨ j = 22 ∨ j = 23 ∨ j = 24 ∨ j = 25 ∨ j = 26 ∨ j = 27 ∨ j = 28 ∨ j = 29 ∨ j = 30 ∨ j = 31 ∨ j = 32 ∨ j = 33 := by omega
  rcases h with rfl | rfl | rfl | rfl | rfl | rfl | rfl | rfl | rfl | rfl | rfl | rfl | rfl | rfl | rfl | rfl | rfl | rfl | rfl | rfl | rfl | rfl | rfl | rfl | rfl | rfl | rfl | rfl | rfl | rfl | rfl | rfl | rfl | rfl <;> rfl
theorem pk1_3_C : x_C pk1_3 = true := by decide +kernel
theorem pk1_3_N : Nat.beq (y_rg (n_get pk1_3.1 34).2.2 28) (12 + 1) = true := by decide +kernel
theorem pk1_3_f : ∀ p, p < 12 → m_253 98 p pk1_3 (x_kf pk1_3) = true := by
  intro p hp
  exact x_fs_ok 12 hg1_3_0 p (by omega) (by omega)
theorem pk1_4_lo (j : Nat) (h : j < 34) : n_get pk1_4.1 j = xD := by
  have h : j = 0 ∨ j = 1 ∨ j = 2 ∨ j = 3 ∨ j = 4 ∨ j = 5 ∨ j = 6 ∨ j = 7 ∨ j = 8 ∨ j = 9 ∨ j = 10 ∨ j = 11 ∨ j = 12 ∨ j = 13 ∨ j = 14 ∨ j = 15 ∨ j = 16 ∨ j = 17 ∨ j = 18 ∨ j = 19 ∨ j = 20 ∨ j = 21 ∨ j = 22 ∨ j = 23 ∨ j = 24 ∨ j = 25 ∨ j = 26 ∨ j = 27 ∨ j = 28 ∨ j = 29 ∨ j = 30 ∨ j = 31 ∨ j = 32 ∨ j = 33 := by omega
  rcases h with rfl | rfl | rfl | rfl | rfl | rfl | rfl | rfl | rfl | rfl | rfl | rfl | rfl | rfl | rfl | rfl | rfl | rfl | rfl | rfl | rfl | rfl | rfl | rfl | rfl | rfl | rfl | rfl | rfl | rfl | rfl | rfl | rfl | rfl <;> rfl
theorem pk1_4_C : x_C pk1_4 = true := by decide +kernel
theorem pk1_4_N : Nat.beq (y_rg (n_get pk1_4.1 34).2.2 28) (26 + 1) = true := by decide +kernel
theorem pk1_4_f : ∀ p, p < 26 → m_253 98 p pk1_4 (x_kf pk1_4) = true := by
  intro p hp
  exact x_fs_ok 26 hg1_4_0 p (by omega) (by omega)
theorem pk1_5_lo (j : Nat) (h : j < 34) : n_get pk1_5.1 j = xD := by
  have h : j = 0 ∨ j = 1 ∨ j = 2 ∨ j = 3 ∨ j = 4 ∨ j = 5 ∨ j = 6 ∨ j = 7 ∨ j = 8 ∨ j = 9 ∨ j = 10 ∨ j = 11 ∨ j = 12 ∨ j = 13 ∨ j = 14 ∨ j = 15 ∨ j = 16 ∨ j = 17 ∨ j = 18 ∨ j = 19 ∨ j = 20 ∨ j = 21 ∨ j = 22 ∨ j = 23 ∨ j = 24 ∨ j = 25 ∨ j = 26 ∨ j = 27 ∨ j = 28 ∨ j = 29 ∨ j = 30 ∨ j = 31 ∨ j = 32 ∨ j = 33 := by omega
  rcases h with rfl | rfl | rfl | rfl | rfl | rfl | rfl | rfl | rfl | rfl | rfl | rfl | rfl | rfl | rfl | rfl | rfl | rfl | rfl | rfl | rfl | rfl | rfl | rfl | rfl | rfl | rfl | rfl | rfl | rfl | rfl | rfl | rfl | rfl <;> rfl
theorem pk1_5_C : x_C pk1_5 = true := by decide +kernel
theorem pk1_5_N : Nat.beq (y_rg (n_get pk1_5.1 34).2.2 28) (58 + 1) = true := by decide +kernel
theorem pk1_5_f : ∀ p, p < 58 → m_253 98 p pk1_5 (x_kf pk1_5) = true := by
  intro p hp
  exact x_fs_ok 58 hg1_5_0 p (by omega) (by omega)
theorem pk2_0_lo (j : Nat) (h : j < 34) : n_get pk2_0.1 j = xD := by
  have h : j = 0 ∨ j = 1 ∨ j = 2 ∨ j = 3 ∨ j = 4 ∨ j = 5 ∨ j = 6 ∨ j = 7 ∨ j = 8 ∨ j = 9 ∨ j = 10 ∨ j = 11 ∨ j = 12 ∨ j = 13 ∨ j = 14 ∨ j = 15 ∨ j = 16 ∨ j = 17 ∨ j = 18 ∨ j = 19 ∨ j = 20 ∨ j = 21 ∨ j = 22 ∨ j = 23 ∨ j = 24 ∨ j = 25 ∨ j = 26 ∨ j = 27 ∨ j = 28 ∨ j = 29 ∨ j = 30 ∨ j = 31 ∨ j = 32 ∨ j = 33 := by omega
  rcases h with rfl | rfl | rfl | rfl | rfl | rfl | rfl | rfl | rfl | rfl | rfl | rfl | rfl | rfl | rfl | rfl | rfl | rfl | rfl | rfl | rfl | rfl | rfl | rfl | rfl | rfl | rfl | rfl | rfl | rfl | rfl | rfl | rfl | rfl <;> rfl
theorem pk2_0_C : x_C pk2_0 = true := by decide +kernel
theorem pk2_0_N : Nat.beq (y_rg (n_get pk2_0.1 34).2.2 28) (3 + 1) = true := by decide +kernel
theorem pk2_0_f : ∀ p, p < 3 → m_253 98 p pk2_0 (x_kf pk2_0) = true := by
  intro p hp
  exact x_fs_ok 3 hg2_0_0 p (by omega) (by omega)
theorem pk2_1_lo (j : Nat) (h : j < 34) : n_get pk2_1.1 j = xD := by
  have h : j = 0 ∨ j = 1 ∨ j = 2 ∨ j = 3 ∨ j = 4 ∨ j = 5 ∨ j = 6 ∨ j = 7 ∨ j = 8 ∨ j = 9 ∨ j = 10 ∨ j = 11 ∨ j = 12 ∨ j = 13 ∨ j = 14 ∨ j = 15 ∨ j = 16 ∨ j = 17 ∨ j = 18 ∨ j = 19 ∨ j = 20 ∨ j = 21 ∨ j = 22 ∨ j = 23 ∨ j = 24 ∨ j = 25 ∨ j = 26 ∨ j = 27 ∨ j = 28 ∨ j = 29 ∨ j = 30 ∨ j = 31 ∨ j = 32 ∨ j = 33 := by omega
  rcases h with rfl | rfl | rfl | rfl | rfl | rfl | rfl | rfl | rfl | rfl | rfl | rfl | rfl | rfl | rfl | rfl | rfl | rfl | rfl | rfl | rfl | rfl | rfl | rfl | rfl | rfl | rfl | rfl | rfl | rfl | rfl | rfl | rfl | rfl <;> rfl
theorem pk2_1_C : x_C pk2_1 = true := by decide +kernel
theorem pk2_1_N : Nat.beq (y_rg (n_get pk2_1.1 34).2.2 28) (5 + 1) = true := by decide +kernel
theorem pk2_1_f : ∀ p, p < 5 → m_253 98 p pk2_1 (x_kf pk2_1) = true := by
  intro p hp
  exact x_fs_ok 5 hg2_1_0 p (by omega) (by omega)
theorem pk2_2_lo (j : Nat) (h : j < 34) : n_get pk2_2.1 j = xD := by
  have h : j = 0 ∨ j = 1 ∨ j = 2 ∨ j = 3 ∨ j = 4 ∨ j = 5 ∨ j = 6 ∨ j = 7 ∨ j = 8 ∨ j = 9 ∨ j = 10 ∨ j = 11 ∨ j = 12 ∨ j = 13 ∨ j = 14 ∨ j = 15 ∨ j = 16 ∨ j = 17 ∨ j = 18 ∨ j = 19 ∨ j = 20 ∨ j = 21 ∨ j = 22 ∨ j = 23 ∨ j = 24 ∨ j = 25 ∨ j = 26 ∨ j = 27 ∨ j = 28 ∨ j = 29 ∨ j = 30 ∨ j = 31 ∨ j = 32 ∨ j = 33 := by omega
  rcases h with rfl | rfl | rfl | rfl | rfl | rfl | rfl | rfl | rfl | rfl | rfl | rfl | rfl | rfl | rfl | rfl | rfl | rfl | rfl | rfl | rfl | rfl | rfl | rfl | rfl | rfl | rfl | rfl | rfl | rfl | rfl | rfl | rfl | rfl <;> rfl
theorem pk2_2_C : x_C pk2_2 = true := by decide +kernel
theorem pk2_2_N : Nat.beq (y_rg (n_get pk2_2.1 34).2.2 28) (9 + 1) = true := by decide +kernel
theorem pk2_2_f : ∀ p, p < 9 → m_253 98 p pk2_2 (x_kf pk2_2) = true := by
  intro p hp
  exact x_fs_ok 9 hg2_2_0 p (by omega) (by omega)
theorem pk2_3_lo (j : Nat) (h : j < 34) : n_get pk2_3.1 j = xD := by
  have h : j = 0 ∨ j = 1 ∨ j = 2 ∨ j = 3 ∨ j = 4 ∨ j = 5 ∨ j = 6 ∨ j = 7 ∨ j = 8 ∨ j = 9 ∨ j = 10 ∨ j = 11 ∨ j = 12 ∨ j = 13 ∨ j = 14 ∨ j = 15 ∨ j = 16 ∨ j = 17 ∨ j = 18 ∨ j = 19 ∨ j = 20 ∨ j = 21 ∨ j = 22 ∨ j = 23 ∨ j = 24 ∨ j = 25 ∨ j = 26 ∨ j = 27 ∨ j = 28 ∨ j = 29 ∨ j = 30 ∨ j = 31 ∨ j = 32 ∨ j = 33 := by omega
  rcases h with rfl | rfl | rfl | rfl | rfl | rfl | rfl | rfl | rfl | rfl | rfl | rfl | rfl | rfl | rfl | rfl | rfl | rfl | rfl | rfl | rfl | rfl | rfl | rfl | rfl | rfl | rfl | rfl | rfl | rfl | rfl | rfl | rfl | rfl <;> rfl
theorem pk2_3_C : x_C pk2_3 = true := by decide +kernel
theorem pk2_3_N : Nat.beq (y_rg (n_get pk2_3.1 34).2.2 28) (18 + 1) = true := by decide +kernel
theorem pk2_3_f : ∀ p, p < 18 → m_253 98 p pk2_3 (x_kf pk2_3) = true := by
  intro p hp
  exact x_fs_ok 18 hg2_3_0 p (by omega) (by omega)
theorem pk2_4_lo (j : Nat) (h : j < 34) : n_get pk2_4.1 j = xD := by
  have h : j = 0 ∨ j = 1 ∨ j = 2 ∨ j = 3 ∨ j = 4 ∨ j = 5 ∨ j = 6 ∨ j = 7 ∨ j = 8 ∨ j = 9 ∨ j = 10 ∨ j = 11 ∨ j = 12 ∨ j = 13 ∨ j = 14 ∨ j = 15 ∨ j = 16 ∨ j = 17 ∨ j = 18 ∨ j = 19 ∨ j = 20 ∨ j = 21 ∨ j = 22 ∨ j = 23 ∨ j = 24 ∨ j = 25 ∨ j = 26 ∨ j = 27 ∨ j = 28 ∨ j = 29 ∨ j = 30 ∨ j = 31 ∨ j = 32 ∨ j = 33 := by omega
  rcases h with rfl | rfl | rfl | rfl | rfl | rfl | rfl | rfl | rfl | rfl | rfl | rfl | rfl | rfl | rfl | rfl | rfl | rfl | rfl | rfl | rfl | rfl | rfl | rfl | rfl | rfl | rfl | rfl | rfl | rfl | rfl | rfl | rfl | rfl <;> rfl
theorem pk2_4_C : x_C pk2_4 = true := by decide +kernel
theorem pk2_4_N : Nat.beq (y_rg (n_get pk2_4.1 34).2.2 28) (39 + 1) = true := by decide +kernel
theorem pk2_4_f : ∀ p, p < 39 → m_253 98 p pk2_4 (x_kf pk2_4) = true := by
  intro p hp
  exact x_fs_ok 39 hg2_4_0 p (by omega) (by omega)
theorem pk2_5_lo (j : Nat) (h : j < 34) : n_get pk2_5.1 j = xD := by
  have h : j = 0 ∨ j = 1 ∨ j = 2 ∨ j = 3 ∨ j = 4 ∨ j = 5 ∨ j = 6 ∨ j = 7 ∨ j = 8 ∨ j = 9 ∨ j = 10 ∨ j = 11 ∨ j = 12 ∨ j = 13 ∨ j = 14 ∨ j = 15 ∨ j = 16 ∨ j = 17 ∨ j = 18 ∨ j = 19 ∨ j = 20 ∨ j = 21 ∨ j = 22 ∨ j = 23 ∨ j = 24 ∨ j = 25 ∨ j = 26 ∨ j = 27 ∨ j = 28 ∨ j = 29 ∨ j = 30 ∨ j = 31 ∨ j = 32 ∨ j = 33 := by omega
  rcases h with rfl | rfl | rfl | rfl | rfl | rfl | rfl | rfl | rfl | rfl | rfl | rfl | rfl | rfl | rfl | rfl | rfl | rfl | rfl | rfl | rfl | rfl | rfl | rfl | rfl | rfl | rfl | rfl | rfl | rfl | rfl | rfl | rfl | rfl <;> rfl
theorem pk2_5_C : x_C pk2_5 = true := by decide +kernel
theorem pk2_5_N : Nat.beq (y_rg (n_get pk2_5.1 34).2.2 28) (90 + 1) = true := by decide +kernel
theorem pk2_5_f : ∀ p, p < 90 → m_253 98 p pk2_5 (x_kf pk2_5) = true := by
  intro p hp
  exact x_fs_ok 90 hg2_5_0 p (by omega) (by omega)
theorem pk3_0_lo (j : Nat) (h : j < 34) : n_get pk3_0.1 j = xD := by
  have h : j = 0 ∨ j = 1 ∨ j = 2 ∨ j = 3 ∨ j = 4 ∨ j = 5 ∨ j = 6 ∨ j = 7 ∨ j = 8 ∨ j = 9 ∨ j = 10 ∨ j = 11 ∨ j = 12 ∨ j = 13 ∨ j = 14 ∨ j = 15 ∨ j = 16 ∨ j = 17 ∨ j = 18 ∨ j = 19 ∨ j = 20 ∨ j = 21 ∨ j = 22 ∨ j = 23 ∨ j = 24 ∨ j = 25 ∨ j = 26 ∨ j = 27 ∨ j = 28 ∨ j = 29 ∨ j = 30 ∨ j = 31 ∨ j = 32 ∨ j = 33 := by omega
  rcases h with rfl | rfl | rfl | rfl | rfl | rfl | rfl | rfl | rfl | rfl | rfl | rfl | rfl | rfl | rfl | rfl | rfl | rfl | rfl | rfl | rfl | rfl | rfl | rfl | rfl | rfl | rfl | rfl | rfl | rfl | rfl | rfl | rfl | rfl <;> rfl
theorem pk3_0_C : x_C pk3_0 = true := by decide +kernel
theorem pk3_0_N : Nat.beq (y_rg (n_get pk3_0.1 34).2.2 28) (4 + 1) = true := by decide +kernel
theorem pk3_0_f : ∀ p, p < 4 → m_253 98 p pk3_0 (x_kf pk3_0) = true := by
  intro p hp
  exact x_fs_ok 4 hg3_0_0 p (by omega) (by omega)
theorem pk3_1_lo (j : Nat) (h : j < 34) : n_get pk3_1.1 j = xD := by
  have h : j = 0 ∨ j = 1 ∨ j = 2 ∨ j = 3 ∨ j = 4 ∨ j = 5 ∨ j = 6 ∨ j = 7 ∨ j = 8 ∨ j = 9 ∨ j = 10 ∨ j = 11 ∨ j = 12 ∨ j = 13 ∨ j = 14 ∨ j = 15 ∨ j = 16 ∨ j = 17 ∨ j = 18 ∨ j = 19 ∨ j = 20 ∨ j = 21 ∨ j = 22 ∨ j = 23 ∨ j = 24 ∨ j = 25 ∨ j = 26 ∨ j = 27 ∨ j = 28 ∨ j = 29 ∨ j = 30 ∨ j = 31 ∨ j = 32 ∨ j = 33 := by omega
  rcases h with rfl | rfl | rfl | rfl | rfl | rfl | rfl | rfl | rfl | rfl | rfl | rfl | rfl | rfl | rfl | rfl | rfl | rfl | rfl | rfl | rfl | rfl | rfl | rfl | rfl | rfl | rfl | rfl | rfl | rfl | rfl | rfl | rfl | rfl <;> rfl
theorem pk3_1_C : x_C pk3_1 = true := by decide +kernel
theorem pk3_1_N : Nat.beq (y_rg (n_get pk3_1.1 34).2.2 28) (7 + 1) = true := by decide +kernel
theorem pk3_1_f : ∀ p, p < 7 → m_253 98 p pk3_1 (x_kf pk3_1) = true := by
  intro p hp
  exact x_fs_ok 7 hg3_1_0 p (by omega) (by omega)
theorem pk3_2_lo (j : Nat) (h : j < 34) : n_get pk3_2.1 j = xD := by
  have h : j = 0 ∨ j = 1 ∨ j = 2 ∨ j = 3 ∨ j = 4 ∨ j = 5 ∨ j = 6 ∨ j = 7 ∨ j = 8 ∨ j = 9 ∨ j = 10 ∨ j = 11 ∨ j = 12 ∨ j = 13 ∨ j = 14 ∨ j = 15 ∨ j = 16 ∨ j = 17 ∨ j = 18 ∨ j = 19 ∨ j = 20 ∨ j = 21 ∨ j = 22 ∨ j = 23 ∨ j = 24 ∨ j = 25 ∨ j = 26 ∨ j = 27 ∨ j = 28 ∨ j = 29 ∨ j = 30 ∨ j = 31 ∨ j = 32 ∨ j = 33 := by omega
  rcases h with rfl | rfl | rfl | rfl | rfl | rfl | rfl | rfl | rfl | rfl | rfl | rfl | rfl | rfl | rfl | rfl | rfl | rfl | rfl | rfl | rfl | rfl | rfl | rfl | rfl | rfl | rfl | rfl | rfl | rfl | rfl | rfl | rfl | rfl <;> rfl
theorem pk3_2_C : x_C pk3_2 = true := by decide +kernel
theorem pk3_2_N : Nat.beq (y_rg (n_get pk3_2.1 34).2.2 28) (13 + 1) = true := by decide +kernel
theorem pk3_2_f : ∀ p, p < 13 → m_253 98 p pk3_2 (x_kf pk3_2) = true := by
  intro p hp
  exact x_fs_ok 13 hg3_2_0 p (by omega) (by omega)
theorem pk3_3_lo (j : Nat) (h : j < 34) : n_get pk3_3.1 j = xD := by
  have h : j = 0 ∨ j = 1 ∨ j = 2 ∨ j = 3 ∨ j = 4 ∨ j = 5 ∨ j = 6 ∨ j = 7 ∨ j = 8 ∨ j = 9 ∨ j = 10 ∨ j = 11 ∨ j = 12 ∨ j = 13 ∨ j = 14 ∨ j = 15 ∨ j = 16 ∨ j = 17 ∨ j = 18 ∨ j = 19 ∨ j = 20 ∨ j = 21 ∨ j = 22 ∨ j = 23 ∨ j = 24 ∨ j = 25 ∨ j = 26 ∨ j = 27 ∨ j = 28 ∨ j = 29 ∨ j = 30 ∨ j = 31 ∨ j = 32 ∨ j = 33 := by omega
  rcases h with rfl | rfl | rfl | rfl | rfl | rfl | rfl | rfl | rfl | rfl | rfl | rfl | rfl | rfl | rfl | rfl | rfl | rfl | rfl | rfl | rfl | rfl | rfl | rfl | rfl | rfl | rfl | rfl | rfl | rfl | rfl | rfl | rfl | rfl <;> rfl
theorem pk3_3_C : x_C pk3_3 = true := by decide +kernel
theorem pk3_3_N : Nat.beq (y_rg (n_get pk3_3.1 34).2.2 28) (29 + 1) = true := by decide +kernel
theorem pk3_3_f : ∀ p, p < 29 → m_253 98 p pk3_3 (x_kf pk3_3) = true := by
  intro p hp
  exact x_fs_ok 29 hg3_3_0 p (by omega) (by omega)
theorem pk3_4_lo (j : Nat) (h : j < 34) : n_get pk3_4.1 j = xD := by
  have h : j = 0 ∨ j = 1 ∨ j = 2 ∨ j = 3 ∨ j = 4 ∨ j = 5 ∨ j = 6 ∨ j = 7 ∨ j = 8 ∨ j = 9 ∨ j = 10 ∨ j = 11 ∨ j = 12 ∨ j = 13 ∨ j = 14 ∨ j = 15 ∨ j = 16 ∨ j = 17 ∨ j = 18 ∨ j = 19 ∨ j = 20 ∨ j = 21 ∨ j = 22 ∨ j = 23 ∨ j = 24 ∨ j = 25 ∨ j = 26 ∨ j = 27 ∨ j = 28 ∨ j = 29 ∨ j = 30 ∨ j = 31 ∨ j = 32 ∨ j = 33 := by omega
  rcases h with rfl | rfl | rfl | rfl | rfl | rfl | rfl | rfl | rfl | rfl | rfl | rfl | rfl | rfl | rfl | rfl | rfl | rfl | rfl | rfl | rfl | rfl | rfl | rfl | rfl | rfl | rfl | rfl | rfl | rfl | rfl | rfl | rfl | rfl <;> rfl
theorem pk3_4_C : x_C pk3_4 = true := by decide +kernel
theorem pk3_4_N : Nat.beq (y_rg (n_get pk3_4.1 34).2.2 28) (68 + 1) = true := by decide +kernel
theorem pk3_4_f : ∀ p, p < 68 → m_253 98 p pk3_4 (x_kf pk3_4) = true := by
  intro p hp
  exact x_fs_ok 68 hg3_4_0 p (by omega) (by omega)
theorem pk3_5_lo (j : Nat) (h : j < 34) : n_get pk3_5.1 j = xD := by
  have h : j = 0 ∨ j = 1 ∨ j = 2 ∨ j = 3 ∨ j = 4 ∨ j = 5 ∨ j = 6 ∨ j = 7 ∨ j = 8 ∨ j = 9 ∨ j = 10 ∨ j = 11 ∨ j = 12 ∨ j = 13 ∨ j = 14 ∨ j = 15 ∨ j = 16 ∨ j = 17 ∨ j = 18 ∨ j = 19 ∨ j = 20 ∨ j = 21 ∨ j = 22 ∨ j = 23 ∨ j = 24 ∨ j = 25 ∨ j = 26 ∨ j = 27 ∨ j = 28 ∨ j = 29 ∨ j = 30 ∨ j = 31 ∨ j = 32 ∨ j = 33 := by omega
  rcases h with rfl | rfl | rfl | rfl | rfl | rfl | rfl | rfl | rfl | rfl | rfl | rfl | rfl | rfl | rfl | rfl | rfl | rfl | rfl | rfl | rfl | rfl | rfl | rfl | rfl | rfl | rfl | rfl | rfl | rfl | rfl | rfl | rfl | rfl <;> rfl
theorem pk3_5_C : x_C pk3_5 = true := by decide +kernel
theorem pk3_5_N : Nat.beq (y_rg (n_get pk3_5.1 34).2.2 28) (164 + 1) = true := by decide +kernel
theorem pk3_5_f : ∀ p, p < 164 → m_253 98 p pk3_5 (x_kf pk3_5) = true := by
  intro p hp
  by_cases h0 : p < 139
  · exact x_fs_ok 139 hg3_5_0 p (by omega) (by omega)
  exact x_fs_ok 25 hg3_5_139 p (by omega) (by omega)
theorem pk0_0_lo (j : Nat) (h : j < 34) : n_get pk0_0.1 j = xD := by
  have h : j = 0 ∨ j = 1 ∨ j = 2 ∨ j = 3 ∨ j = 4 ∨ j = 5 ∨ j = 6 ∨ j = 7 ∨ j = 8 ∨ j = 9 ∨ j = 10 ∨ j = 11 ∨ j = 12 ∨ j = 13 ∨ j = 14 ∨ j = 15 ∨ j = 16 ∨ j = 17 ∨ j = 18 ∨ j = 19 ∨ j = 20 ∨ j = 21 ∨ j = 22 ∨ j = 23 ∨ j = 24 ∨ j = 25 ∨ j = 26 ∨ j = 27 ∨ j = 28 ∨ j = 29 ∨ j = 30 ∨ j = 31 ∨ j = 32 ∨ j = 33 := by omega
  rcases h with rfl | rfl | rfl | rfl | rfl | rfl | rfl | rfl | rfl | rfl | rfl | rfl | rfl | rfl | rfl | rfl | rfl | rfl | rfl | rfl | rfl | rfl | rfl | rfl | rfl | rfl | rfl | rfl | rfl | rfl | rfl | rfl | rfl | rfl <;> rfl
theorem pk0_0_C : x_C pk0_0 = true := by decide +kernel
theorem pk0_0_N : Nat.beq (y_rg (n_get pk0_0.1 34).2.2 28) (11 + 1) = true := by decide +kernel
theorem pk0_0_f : ∀ p, p < 11 → m_253 98 p pk0_0 (x_kf pk0_0) = true := by
  intro p hp
  exact x_fs_ok 11 hg0_0_0 p (by omega) (by omega)
theorem pk0_1_lo (j : Nat) (h : j < 34) : n_get pk0_1.1 j = xD := by
  have h : j = 0 ∨ j = 1 ∨ j = 2 ∨ j = 3 ∨ j = 4 ∨ j = 5 ∨ j = 6 ∨ j = 7 ∨ j = 8 ∨ j = 9 ∨ j = 10 ∨ j = 11 ∨ j = 12 ∨ j = 13 ∨ j = 14 ∨ j = 15 ∨ j = 16 ∨ j = 17 ∨ j = 18 ∨ j = 19 ∨ j = 20 ∨ j = 21 ∨ j = 22 ∨ j = 23 ∨ j = 24 ∨ j = 25 ∨ j = 26 ∨ j = 27 ∨ j = 28 ∨ j = 29 ∨ j = 30 ∨ j = 31 ∨ j = 32 ∨ j = 33 := by omega
  rcases h with rfl | rfl | rfl | rfl | rfl | rfl | rfl | rfl | rfl | rfl | rfl | rfl | rfl | rfl | rfl | rfl | rfl | rfl | rfl | rfl | rfl | rfl | rfl | rfl | rfl | rfl | rfl | rfl | rfl | rfl | rfl | rfl | rfl | rfl <;> rfl
theorem pk0_1_C : x_C pk0_1 = true := by decide +kernel
theorem pk0_1_N : Nat.beq (y_rg (n_get pk0_1.1 34).2.2 28) (16 + 1) = true := by decide +kernel
theorem pk0_1_f : ∀ p, p < 16 → m_253 98 p pk0_1 (x_kf pk0_1) = true := by
  intro p hp
  exact x_fs_ok 16 hg0_1_0 p (by omega) (by omega)
theorem pk0_2_lo (j : Nat) (h : j < 34) : n_get pk0_2.1 j = xD := by
  have h : j = 0 ∨ j = 1 ∨ j = 2 ∨ j = 3 ∨ j = 4 ∨ j = 5 ∨ j = 6 ∨ j = 7 ∨ j = 8 ∨ j = 9 ∨ j = 10 ∨ j = 11 ∨ j = 12 ∨ j = 13 ∨ j = 14 ∨ j = 15 ∨ j = 16 ∨ j = 17 ∨ j = 18 ∨ j = 19 ∨ j = 20 ∨ j = 21 ∨ j = 22 ∨ j = 23 ∨ j = 24 ∨ j = 25 ∨ j = 26 ∨ j = 27 ∨ j = 28 ∨ j = 29 ∨ j = 30 ∨ j = 31 ∨ j = 32 ∨ j = 33 := by omega
  rcases h with rfl | rfl | rfl | rfl | rfl | rfl | rfl | rfl | rfl | rfl | rfl | rfl | rfl | rfl | rfl | rfl | rfl | rfl | rfl | rfl | rfl | rfl | rfl | rfl | rfl | rfl | rfl | rfl | rfl | rfl | rfl | rfl | rfl | rfl <;> rfl
theorem pk0_2_C : x_C pk0_2 = true := by decide +kernel
theorem pk0_2_N : Nat.beq (y_rg (n_get pk0_2.1 34).2.2 28) (31 + 1) = true := by decide +kernel
theorem pk0_2_f : ∀ p, p < 31 → m_253 98 p pk0_2 (x_kf pk0_2) = true := by
  intro p hp
  exact x_fs_ok 31 hg0_2_0 p (by omega) (by omega)
theorem pk0_3_lo (j : Nat) (h : j < 34) : n_get pk0_3.1 j = xD := by
  have h : j = 0 ∨ j = 1 ∨ j = 2 ∨ j = 3 ∨ j = 4 ∨ j = 5 ∨ j = 6 ∨ j = 7 ∨ j = 8 ∨ j = 9 ∨ j = 10 ∨ j = 11 ∨ j = 12 ∨ j = 13 ∨ j = 14 ∨ j = 15 ∨ j = 16 ∨ j = 17 ∨ j = 18 ∨ j = 19 ∨ j = 20 ∨ j = 21 ∨ j = 22 ∨ j = 23 ∨ j = 24 ∨ j = 25 ∨ j = 26 ∨ j = 27 ∨ j = 28 ∨ j = 29 ∨ j = 30 ∨ j = 31 ∨ j = 32 ∨ j = 33 := by omega
  rcases h with rfl | rfl | rfl | rfl | rfl | rfl | rfl | rfl | rfl | rfl | rfl | rfl | rfl | rfl | rfl | rfl | rfl | rfl | rfl | rfl | rfl | rfl | rfl | rfl | rfl | rfl | rfl | rfl | rfl | rfl | rfl | rfl | rfl | rfl <;> rfl
theorem pk0_3_C : x_C pk0_3 = true := by decide +kernel
theorem pk0_3_N : Nat.beq (y_rg (n_get pk0_3.1 34).2.2 28) (76 + 1) = true := by decide +kernel
theorem pk0_3_f : ∀ p, p < 76 → m_253 98 p pk0_3 (x_kf pk0_3) = true := by
  intro p hp
  exact x_fs_ok 76 hg0_3_0 p (by omega) (by omega)
theorem pk0_4_lo (j : Nat) (h : j < 34) : n_get pk0_4.1 j = xD := by
  have h : j = 0 ∨ j = 1 ∨ j = 2 ∨ j = 3 ∨ j = 4 ∨ j = 5 ∨ j = 6 ∨ j = 7 ∨ j = 8 ∨ j = 9 ∨ j = 10 ∨ j = 11 ∨ j = 12 ∨ j = 13 ∨ j = 14 ∨ j = 15 ∨ j = 16 ∨ j = 17 ∨ j = 18 ∨ j = 19 ∨ j = 20 ∨ j = 21 ∨ j = 22 ∨ j = 23 ∨ j = 24 ∨ j = 25 ∨ j = 26 ∨ j = 27 ∨ j = 28 ∨ j = 29 ∨ j = 30 ∨ j = 31 ∨ j = 32 ∨ j = 33 := by omega
  rcases h with rfl | rfl | rfl | rfl | rfl | rfl | rfl | rfl | rfl | rfl | rfl | rfl | rfl | rfl | rfl | rfl | rfl | rfl | rfl | rfl | rfl | rfl | rfl | rfl | rfl | rfl | rfl | rfl | rfl | rfl | rfl | rfl | rfl | rfl <;> rfl
theorem pk0_4_C : x_C pk0_4 = true := by decide +kernel
theorem pk0_4_N : Nat.beq (y_rg (n_get pk0_4.1 34).2.2 28) (191 + 1) = true := by decide +kernel
theorem pk0_4_f : ∀ p, p < 191 → m_253 98 p pk0_4 (x_kf pk0_4) = true := by
  intro p hp
  by_cases h0 : p < 125
  · exact x_fs_ok 125 hg0_4_0 p (by omega) (by omega)
  exact x_fs_ok 66 hg0_4_125 p (by omega) (by omega)
theorem pk0_5_lo (j : Nat) (h : j < 34) : n_get pk0_5.1 j = xD := by
  have h : j = 0 ∨ j = 1 ∨ j = 2 ∨ j = 3 ∨ j = 4 ∨ j = 5 ∨ j = 6 ∨ j = 7 ∨ j = 8 ∨ j = 9 ∨ j = 10 ∨ j = 11 ∨ j = 12 ∨ j = 13 ∨ j = 14 ∨ j = 15 ∨ j = 16 ∨ j = 17 ∨ j = 18 ∨ j = 19 ∨ j = 20 ∨ j = 21 ∨ j = 22 ∨ j = 23 ∨ j = 24 ∨ j = 25 ∨ j = 26 ∨ j = 27 ∨ j = 28 ∨ j = 29 ∨ j = 30 ∨ j = 31 ∨ j = 32 ∨ j = 33 := by omega
  rcases h with rfl | rfl | rfl | rfl | rfl | rfl | rfl | rfl | rfl | rfl | rfl | rfl | rfl | rfl | rfl | rfl | rfl | rfl | rfl | rfl | rfl | rfl | rfl | rfl | rfl | rfl | rfl | rfl | rfl | rfl | rfl | rfl | rfl | rfl <;> rfl
theorem pk0_5_C : x_C pk0_5 = true := by decide +kernel
theorem pk0_5_N : Nat.beq (y_rg (n_get pk0_5.1 34).2.2 28) (476 + 1) = true := by decide +kernel
theorem pk0_5_f : ∀ p, p < 476 → m_253 98 p pk0_5 (x_kf pk0_5) = true := by
  intro p hp
  by_cases h0 : p < 108
  · exact x_fs_ok 108 hg0_5_0 p (by omega) (by omega)
  by_cases h108 : p < 226
  · exact x_fs_ok 118 hg0_5_108 p (by omega) (by omega)
  by_cases h226 : p < 336
  · exact x_fs_ok 110 hg0_5_226 p (by omega) (by omega)
  by_cases h336 : p < 448
  · exact x_fs_ok 112 hg0_5_336 p (by omega) (by omega)
  exact x_fs_ok 28 hg0_5_448 p (by omega) (by omega)
theorem s_239 {L : Nat} {ρ : Nat → Int} {rc : eQ} {d : Nat} {f : eFr} {F : List eFr} {μ : eM} {g : Nat → Nat} {a0 : Nat} {a1 : Int} {a2 : Int} (hI : SI g μ) (gA0 : g a0 = 52) (hP : PA g) (b1 : 0 ≤ a1 ∧ a1 ≤ 3) (b2 : 0 ≤ a2 ∧ a2 ≤ 5) (K : ∀ m, SI g m → Fr l_239b 0 0 g μ m → LY g m → PK g m → m.1 a0 35 = 0 → ex_q (dt_fg L ρ) rc (d + 6, (f.1, f.2.1, f.2.2.1, f.2.2.2), F, m)) : ex_q (dt_fg L ρ) rc (d + 5, (239, 0, [some (eR a0), some (eI a1), some (eI a2), none, none], []), f :: F, μ) := by
  have e0 : a0 = 98 := hP.at hI (by decide) (by decide) gA0
  subst e0
  have h1 : a1 = 0 ∨ a1 = 1 ∨ a1 = 2 ∨ a1 = 3 := by omega
  have h2 : a2 = 0 ∨ a2 = 1 ∨ a2 = 2 ∨ a2 = 3 ∨ a2 = 4 ∨ a2 = 5 := by omega
  rcases h1 with rfl | rfl | rfl | rfl <;> rcases h2 with rfl | rfl | rfl | rfl | rfl | rfl
  · rw [show (0 : Int) = zI 0 by decide]
    exact r_239 hI hP hy0_0 (fun m1 m q1 q2 q3 q4 q5 q6 => K m q1 q2 q3 (PK_of 11 q1 hP q4 q5 pk0_0_C pk0_0_lo pk0_0_f pk0_0_N (by decide)) q6)
  · rw [show (0 : Int) = zI 0 by decide, show (1 : Int) = zI 1 by decide]
    exact r_239 hI hP hy0_1 (fun m1 m q1 q2 q3 q4 q5 q6 => K m q1 q2 q3 (PK_of 16 q1 hP q4 q5 pk0_1_C pk0_1_lo pk0_1_f pk0_1_N (by decide)) q6)
  · rw [show (0 : Int) = zI 0 by decide, show (2 : Int) = zI 2 by decide]
    exact r_239 hI hP hy0_2 (fun m1 m q1 q2 q3 q4 q5 q6 => K m q1 q2 q3 (PK_of 31 q1 hP q4 q5 pk0_2_C pk0_2_lo pk0_2_f pk0_2_N (by decide)) q6)
  · rw [show (0 : Int) = zI 0 by decide, show (3 : Int) = zI 3 by decide]
    exact r_239 hI hP hy0_3 (fun m1 m q1 q2 q3 q4 q5 q6 => K m q1 q2 q3 (PK_of 76 q1 hP q4 q5 pk0_3_C pk0_3_lo pk0_3_f pk0_3_N (by decide)) q6)
  · rw [show (0 : Int) = zI 0 by decide, show (4 : Int) = zI 4 by decide]
    exact r_cut hI hP hye_04 hy77_04 hyK_04 (fun m1 m q1 q2 q3 q4 q5 q6 => K m q1 q2 q3 (PK_of 191 q1 hP q4 q5 pk0_4_C pk0_4_lo pk0_4_f pk0_4_N (by decide)) q6)
  · rw [show (0 : Int) = zI 0 by decide, show (5 : Int) = zI 5 by decide]
    exact r_05 hI hP hye_05 hype_05 hy17_05 hy190_05 hy4_05 hy77_05 hyK_05 (fun m1 m q1 q2 q3 q4 q5 q6 => K m q1 q2 q3 (PK_of 476 q1 hP q4 q5 pk0_5_C pk0_5_lo pk0_5_f pk0_5_N (by decide)) q6)
  · rw [show (1 : Int) = zI 1 by decide, show (0 : Int) = zI 0 by decide]
    exact r_239 hI hP hy1_0 (fun m1 m q1 q2 q3 q4 q5 q6 => K m q1 q2 q3 (PK_of 3 q1 hP q4 q5 pk1_0_C pk1_0_lo pk1_0_f pk1_0_N (by decide)) q6)
  · rw [show (1 : Int) = zI 1 by decide]
    exact r_239 hI hP hy1_1 (fun m1 m q1 q2 q3 q4 q5 q6 => K m q1 q2 q3 (PK_of 4 q1 hP q4 q5 pk1_1_C pk1_1_lo pk1_1_f pk1_1_N (by decide)) q6)
  · rw [show (1 : Int) = zI 1 by decide, show (2 : Int) = zI 2 by decide]
    exact r_239 hI hP hy1_2 (fun m1 m q1 q2 q3 q4 q5 q6 => K m q1 q2 q3 (PK_of 6 q1 hP q4 q5 pk1_2_C pk1_2_lo pk1_2_f pk1_2_N (by decide)) q6)
  · rw [show (1 : Int) = zI 1 by decide, show (3 : Int) = zI 3 by decide]
    exact r_239 hI hP hy1_3 (fun m1 m q1 q2 q3 q4 q5 q6 => K m q1 q2 q3 (PK_of 12 q1 hP q4 q5 pk1_3_C pk1_3_lo pk1_3_f pk1_3_N (by decide)) q6)
  · rw [show (1 : Int) = zI 1 by decide, show (4 : Int) = zI 4 by decide]
    exact r_239 hI hP hy1_4 (fun m1 m q1 q2 q3 q4 q5 q6 => K m q1 q2 q3 (PK_of 26 q1 hP q4 q5 pk1_4_C pk1_4_lo pk1_4_f pk1_4_N (by decide)) q6)
  · rw [show (1 : Int) = zI 1 by decide, show (5 : Int) = zI 5 by decide]
    exact r_239 hI hP hy1_5 (fun m1 m q1 q2 q3 q4 q5 q6 => K m q1 q2 q3 (PK_of 58 q1 hP q4 q5 pk1_5_C pk1_5_lo pk1_5_f pk1_5_N (by decide)) q6)
  · rw [show (2 : Int) = zI 2 by decide, show (0 : Int) = zI 0 by decide]
    exact r_239 hI hP hy2_0 (fun m1 m q1 q2 q3 q4 q5 q6 => K m q1 q2 q3 (PK_of 3 q1 hP q4 q5 pk2_0_C pk2_0_lo pk2_0_f pk2_0_N (by decide)) q6)
  · rw [show (2 : Int) = zI 2 by decide, show (1 : Int) = zI 1 by decide]
    exact r_239 hI hP hy2_1 (fun m1 m q1 q2 q3 q4 q5 q6 => K m q1 q2 q3 (PK_of 5 q1 hP q4 q5 pk2_1_C pk2_1_lo pk2_1_f pk2_1_N (by decide)) q6)
  · rw [show (2 : Int) = zI 2 by decide]
    exact r_239 hI hP hy2_2 (fun m1 m q1 q2 q3 q4 q5 q6 => K m q1 q2 q3 (PK_of 9 q1 hP q4 q5 pk2_2_C pk2_2_lo pk2_2_f pk2_2_N (by decide)) q6)
  · rw [show (2 : Int) = zI 2 by decide, show (3 : Int) = zI 3 by decide]
    exact r_239 hI hP hy2_3 (fun m1 m q1 q2 q3 q4 q5 q6 => K m q1 q2 q3 (PK_of 18 q1 hP q4 q5 pk2_3_C pk2_3_lo pk2_3_f pk2_3_N (by decide)) q6)
  · rw [show (2 : Int) = zI 2 by decide, show (4 : Int) = zI 4 by decide]
    exact r_239 hI hP hy2_4 (fun m1 m q1 q2 q3 q4 q5 q6 => K m q1 q2 q3 (PK_of 39 q1 hP q4 q5 pk2_4_C pk2_4_lo pk2_4_f pk2_4_N (by decide)) q6)
  · rw [show (2 : Int) = zI 2 by decide, show (5 : Int) = zI 5 by decide]
    exact r_239 hI hP hy2_5 (fun m1 m q1 q2 q3 q4 q5 q6 => K m q1 q2 q3 (PK_of 90 q1 hP q4 q5 pk2_5_C pk2_5_lo pk2_5_f pk2_5_N (by decide)) q6)
  · rw [show (3 : Int) = zI 3 by decide, show (0 : Int) = zI 0 by decide]
    exact r_239 hI hP hy3_0 (fun m1 m q1 q2 q3 q4 q5 q6 => K m q1 q2 q3 (PK_of 4 q1 hP q4 q5 pk3_0_C pk3_0_lo pk3_0_f pk3_0_N (by decide)) q6)
  · rw [show (3 : Int) = zI 3 by decide, show (1 : Int) = zI 1 by decide]
    exact r_239 hI hP hy3_1 (fun m1 m q1 q2 q3 q4 q5 q6 => K m q1 q2 q3 (PK_of 7 q1 hP q4 q5 pk3_1_C pk3_1_lo pk3_1_f pk3_1_N (by decide)) q6)
  · rw [show (3 : Int) = zI 3 by decide, show (2 : Int) = zI 2 by decide]
    exact r_239 hI hP hy3_2 (fun m1 m q1 q2 q3 q4 q5 q6 => K m q1 q2 q3 (PK_of 13 q1 hP q4 q5 pk3_2_C pk3_2_lo pk3_2_f pk3_2_N (by decide)) q6)
  · rw [show (3 : Int) = zI 3 by decide]
    exact r_239 hI hP hy3_3 (fun m1 m q1 q2 q3 q4 q5 q6 => K m q1 q2 q3 (PK_of 29 q1 hP q4 q5 pk3_3_C pk3_3_lo pk3_3_f pk3_3_N (by decide)) q6)
  · rw [show (3 : Int) = zI 3 by decide, show (4 : Int) = zI 4 by decide]
    exact r_239 hI hP hy3_4 (fun m1 m q1 q2 q3 q4 q5 q6 => K m q1 q2 q3 (PK_of 68 q1 hP q4 q5 pk3_4_C pk3_4_lo pk3_4_f pk3_4_N (by decide)) q6)
  · rw [show (3 : Int) = zI 3 by decide, show (5 : Int) = zI 5 by decide]
    exact r_cut hI hP hye_35 hy77_35 hyK_35 (fun m1 m q1 q2 q3 q4 q5 q6 => K m q1 q2 q3 (PK_of 164 q1 hP q4 q5 pk3_5_C pk3_5_lo pk3_5_f pk3_5_N (by decide)) q6)
