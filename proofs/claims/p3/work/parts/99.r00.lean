/-! methods, walked -/
def l_213 : List Nat := [13314]
theorem s_213 {L : Nat} {ρ : Nat → Int} {rc : eQ} {d : Nat} {f : eFr} {F : List eFr} {μ : eM} {g : Nat → Nat} {a0 : Nat} (hI : SI g μ) (gA0 : g a0 = 52) (K : ∀ (μ2 : eM) (v : Int), SI g μ2 → Fr l_213 0 0 g μ μ2 → (-2147483648 ≤ v ∧ v ≤ 2147483647) → ex_q (dt_fg L ρ) rc (d + 1, (f.1, f.2.1, f.2.2.1, eI v :: f.2.2.2), F, μ2)) : ex_q (dt_fg L ρ) rc (d, (213, 0, [some (eR a0)], []), f :: F, μ) := by
  have F0 : Fr l_213 0 0 g μ μ := Fr.r
  refine w_t (np := 1) (l2 := [some (eR a0)]) (s2 := [eR a0]) rfl (s_an rfl (pos_g hI gA0 (by decide))) rfl ?_
  refine w_t (np := 2) (l2 := [some (eR a0)]) (s2 := [eI (0), eR a0]) rfl rfl rfl ?_
  refine j_pf (np := 5) (w := 0) rfl rfl hI gA0 (by decide) (n := 69) rfl rfl (hO_i (lo := -2147483648) (hi := 2147483647) rfl (by decide)) ?_
  intro m1 I2 W3
  have F4 : Fr l_213 0 0 g μ m1 := F0.w W3 gA0 rfl
  refine w_t (np := 6) (l2 := [some (eR a0)]) (s2 := [eR a0]) rfl (s_an rfl (pos_g I2 gA0 (by decide))) rfl ?_
  refine j_gi (np := 9) rfl rfl rfl I2 gA0 (by decide) (n := 69) rfl rfl (lo := -2147483648) (hi := 2147483647) rfl ?_
  intro v5 e6 b7
  exact b_ri rfl rfl (K m1 (v5) I2 F4 (by omega))
theorem s_217 {L : Nat} {ρ : Nat → Int} {rc : eQ} {d : Nat} {f : eFr} {F : List eFr} {μ : eM} {g : Nat → Nat} {a0 : Int} (hI : SI g μ) (bA0 : -2147483648 ≤ a0 ∧ a0 ≤ 2147483647) (K : ∀ (v : Int), (0 ≤ v ∧ v ≤ 9) → ex_q (dt_fg L ρ) rc (d + 1, (f.1, f.2.1, f.2.2.1, eI v :: f.2.2.2), F, μ)) : ex_q (dt_fg L ρ) rc (d, (217, 0, [some (eI (a0))], []), f :: F, μ) := by
  refine w_t (np := 1) (l2 := [some (eI (a0))]) (s2 := [eI (a0)]) rfl rfl rfl ?_
  refine w_t (np := 3) (l2 := [some (eI (a0))]) (s2 := [eI (10), eI (a0)]) rfl rfl rfl ?_
  obtain ⟨v1, e2, b3⟩ := h_irem (a := a0) (k := 10) (by decide) (by decide) bA0
  have b4 : -9 ≤ v1 ∧ v1 ≤ 9 := by omega
  refine w_t (np := 4) (l2 := [some (eI (a0))]) (s2 := [eI (v1)]) rfl (e2 _ _) rfl ?_
  refine w_t (np := 6) (l2 := [some (eI (a0))]) (s2 := [eI (10), eI (v1)]) rfl rfl rfl ?_
  obtain ⟨v5, e6⟩ : ∃ zz : Int, zz = (v1) + (10) := ⟨_, rfl⟩
  have b7 : 1 ≤ v5 ∧ v5 ≤ 19 := by omega
  refine w_t (np := 7) (l2 := [some (eI (a0))]) (s2 := [eI (v5)]) rfl (b_iadd (by rw [← e6]; exact ev_w_in (by omega) (by omega))) rfl ?_
  refine w_t (np := 9) (l2 := [some (eI (a0))]) (s2 := [eI (10), eI (v5)]) rfl rfl rfl ?_
  obtain ⟨v8, e9, b10⟩ := h_irem (a := v5) (k := 10) (by decide) (by decide) (show (-2147483648 : Int) ≤ v5 ∧ (v5 : Int) ≤ 2147483647 by omega)
  have b11 : 0 ≤ v8 ∧ v8 ≤ 9 := by omega
  refine w_t (np := 10) (l2 := [some (eI (a0))]) (s2 := [eI (v8)]) rfl (e9 _ _) rfl ?_
  exact b_ri rfl rfl (K (v8) (by omega))
theorem s_218 {L : Nat} {ρ : Nat → Int} {rc : eQ} {d : Nat} {f : eFr} {F : List eFr} {μ : eM} {g : Nat → Nat} {a0 : Int} {a1 : Int} (hI : SI g μ) (bA0 : -2147483648 ≤ a0 ∧ a0 ≤ 2147483647) (bA1 : 0 ≤ a1 ∧ a1 ≤ 3) (K : ∀ (v : Int), (-1 ≤ v ∧ v ≤ 1) → ex_q (dt_fg L ρ) rc (d + 2, (f.1, f.2.1, f.2.2.1, eI v :: f.2.2.2), F, μ)) : ex_q (dt_fg L ρ) rc (d + 1, (218, 0, [some (eI (a0)), some (eI (a1))], []), f :: F, μ) := by
  refine v_gs (np := 3) rfl rfl ?_
  refine w_t (np := 4) (l2 := [some (eI (a0)), some (eI (a1))]) (s2 := [eI (4), eR 21]) rfl rfl rfl ?_
  refine w_t (np := 5) (l2 := [some (eI (a0)), some (eI (a1))]) (s2 := [eI (a0), eI (4), eR 21]) rfl rfl rfl ?_
  refine w_cu (np := 8) (as := [eI (a0)]) (l2 := [some (eI (a0))]) (rest := [eI (4), eR 21]) rfl rfl rfl (Nat.ble_eq.mp rfl) rfl rfl rfl rfl ?_
  refine s_217 (a0 := a0) hI (by omega) ?_
  intro v1 b2
  show ex_q (dt_fg L ρ) rc (d + 1, (218, 8, [some (eI (a0)), some (eI (a1))], [eI (v1), eI (4), eR 21]), f :: F, μ)
  obtain ⟨v3, e4⟩ : ∃ zz : Int, zz = (4) * (v1) := ⟨_, rfl⟩
  have b5 : 0 ≤ v3 ∧ v3 ≤ 36 := by omega
  refine w_t (np := 9) (l2 := [some (eI (a0)), some (eI (a1))]) (s2 := [eI (v3), eR 21]) rfl (b_imul (by rw [← e4]; exact ev_w_in (by omega) (by omega))) rfl ?_
  refine w_t (np := 10) (l2 := [some (eI (a0)), some (eI (a1))]) (s2 := [eI (a1), eI (v3), eR 21]) rfl rfl rfl ?_
  obtain ⟨v6, e7⟩ : ∃ zz : Int, zz = (v3) + (a1) := ⟨_, rfl⟩
  have b8 : 0 ≤ v6 ∧ v6 ≤ 39 := by omega
  refine w_t (np := 11) (l2 := [some (eI (a0)), some (eI (a1))]) (s2 := [eI (v6), eR 21]) rfl (b_iadd (by rw [← e7]; exact ev_w_in (by omega) (by omega))) rfl ?_
  refine j_si (np := 12) (n := 40) (lo := -1) (hi := 1) rfl rfl rfl (by decide) (by decide) (by decide) rfl rfl (by decide) (by omega) (by omega) ?_
  intro v9 b11
  exact b_ri rfl rfl (K (v9) (by omega))
def l_219 : List Nat := [13315, 13316, 13317, 13318]
theorem s_219 {L : Nat} {ρ : Nat → Int} {rc : eQ} {d : Nat} {f : eFr} {F : List eFr} {μ : eM} {g : Nat → Nat} {a0 : Nat} {a1 : Int} {a3 : Int} {a5 : Int} {a7 : Int} (hI : SI g μ) (gA0 : g a0 = 52) (bA1 : -9223372036854775808 ≤ a1 ∧ a1 ≤ 9223372036854775807) (bA3 : -9223372036854775808 ≤ a3 ∧ a3 ≤ 9223372036854775807) (bA5 : -9223372036854775808 ≤ a5 ∧ a5 ≤ 9223372036854775807) (bA7 : -9223372036854775808 ≤ a7 ∧ a7 ≤ 9223372036854775807) (K : ∀ (μ2 : eM), SI g μ2 → Fr l_219 0 0 g μ μ2 → ex_q (dt_fg L ρ) rc (d + 1, (f.1, f.2.1, f.2.2.1, f.2.2.2), F, μ2)) : ex_q (dt_fg L ρ) rc (d, (219, 0, [some (eR a0), some (eJ (a1)), none, some (eJ (a3)), none, some (eJ (a5)), none, some (eJ (a7)), none], []), f :: F, μ) := by
  have F0 : Fr l_219 0 0 g μ μ := Fr.r
  refine w_t (np := 1) (l2 := [some (eR a0), some (eJ (a1)), none, some (eJ (a3)), none, some (eJ (a5)), none, some (eJ (a7)), none]) (s2 := [eR a0]) rfl (s_an rfl (pos_g hI gA0 (by decide))) rfl ?_
  refine w_t (np := 2) (l2 := [some (eR a0), some (eJ (a1)), none, some (eJ (a3)), none, some (eJ (a5)), none, some (eJ (a7)), none]) (s2 := [eJ (a1), eR a0]) rfl rfl rfl ?_
  refine j_pf (np := 5) (w := a1) rfl rfl hI gA0 (by decide) (n := 69) rfl rfl (hO_i (lo := -9223372036854775808) (hi := 9223372036854775807) rfl (by omega)) ?_
  intro m1 I2 W3
  have F4 : Fr l_219 0 0 g μ m1 := F0.w W3 gA0 rfl
  refine w_t (np := 6) (l2 := [some (eR a0), some (eJ (a1)), none, some (eJ (a3)), none, some (eJ (a5)), none, some (eJ (a7)), none]) (s2 := [eR a0]) rfl (s_an rfl (pos_g I2 gA0 (by decide))) rfl ?_
  refine w_t (np := 7) (l2 := [some (eR a0), some (eJ (a1)), none, some (eJ (a3)), none, some (eJ (a5)), none, some (eJ (a7)), none]) (s2 := [eJ (a3), eR a0]) rfl rfl rfl ?_
  refine j_pf (np := 10) (w := a3) rfl rfl I2 gA0 (by decide) (n := 69) rfl rfl (hO_i (lo := -9223372036854775808) (hi := 9223372036854775807) rfl (by omega)) ?_
  intro m5 I6 W7
  have F8 : Fr l_219 0 0 g μ m5 := F4.w W7 gA0 rfl
  refine w_t (np := 11) (l2 := [some (eR a0), some (eJ (a1)), none, some (eJ (a3)), none, some (eJ (a5)), none, some (eJ (a7)), none]) (s2 := [eR a0]) rfl (s_an rfl (pos_g I6 gA0 (by decide))) rfl ?_
  refine w_t (np := 13) (l2 := [some (eR a0), some (eJ (a1)), none, some (eJ (a3)), none, some (eJ (a5)), none, some (eJ (a7)), none]) (s2 := [eJ (a5), eR a0]) rfl rfl rfl ?_
  refine j_pf (np := 16) (w := a5) rfl rfl I6 gA0 (by decide) (n := 69) rfl rfl (hO_i (lo := -9223372036854775808) (hi := 9223372036854775807) rfl (by omega)) ?_
  intro m9 I10 W11
  have F12 : Fr l_219 0 0 g μ m9 := F8.w W11 gA0 rfl
  refine w_t (np := 17) (l2 := [some (eR a0), some (eJ (a1)), none, some (eJ (a3)), none, some (eJ (a5)), none, some (eJ (a7)), none]) (s2 := [eR a0]) rfl (s_an rfl (pos_g I10 gA0 (by decide))) rfl ?_
  refine w_t (np := 19) (l2 := [some (eR a0), some (eJ (a1)), none, some (eJ (a3)), none, some (eJ (a5)), none, some (eJ (a7)), none]) (s2 := [eJ (a7), eR a0]) rfl rfl rfl ?_
  refine j_pf (np := 22) (w := a7) rfl rfl I10 gA0 (by decide) (n := 69) rfl rfl (hO_i (lo := -9223372036854775808) (hi := 9223372036854775807) rfl (by omega)) ?_
  intro m13 I14 W15
  have F16 : Fr l_219 0 0 g μ m13 := F12.w W15 gA0 rfl
  exact v_rv rfl rfl (K m13 I14 F16)
def l_220 : List Nat := [13315, 13316, 13317, 13318]
theorem s_220 {L : Nat} {ρ : Nat → Int} {rc : eQ} {d : Nat} {f : eFr} {F : List eFr} {μ : eM} {g : Nat → Nat} {a0 : Nat} (hI : SI g μ) (gA0 : g a0 = 52) (K : ∀ (μ2 : eM), SI g μ2 → Fr l_220 0 0 g μ μ2 → ex_q (dt_fg L ρ) rc (d + 2, (f.1, f.2.1, f.2.2.1, f.2.2.2), F, μ2)) : ex_q (dt_fg L ρ) rc (d + 1, (220, 0, [some (eR a0)], []), f :: F, μ) := by
  have F0 : Fr l_220 0 0 g μ μ := Fr.r
  refine w_t (np := 1) (l2 := [some (eR a0)]) (s2 := [eR a0]) rfl (s_an rfl (pos_g hI gA0 (by decide))) rfl ?_
  refine w_t (np := 2) (l2 := [some (eR a0)]) (s2 := [eJ (0), eR a0]) rfl rfl rfl ?_
  refine w_t (np := 3) (l2 := [some (eR a0)]) (s2 := [eR a0, eJ (0), eR a0]) rfl (s_an rfl (pos_g hI gA0 (by decide))) rfl ?_
  refine j_gj (np := 6) rfl rfl hI gA0 (by decide) (n := 69) rfl rfl (lo := -9223372036854775808) (hi := 9223372036854775807) rfl ?_
  intro v1 e2 b3
  obtain ⟨v4, e5, b6⟩ : ∃ zz : Int, ev_W ((0) - (v1)) = zz ∧ (-9223372036854775808 ≤ zz ∧ zz ≤ 9223372036854775807) := ⟨_, rfl, hW_bd _⟩
  refine w_t (np := 7) (l2 := [some (eR a0)]) (s2 := [eJ (v4), eR a0]) rfl (b_lsub e5) rfl ?_
  refine w_t (np := 8) (l2 := [some (eR a0)]) (s2 := [eR a0, eJ (v4), eR a0]) rfl (s_an rfl (pos_g hI gA0 (by decide))) rfl ?_
  refine j_gj (np := 11) rfl rfl hI gA0 (by decide) (n := 69) rfl rfl (lo := -9223372036854775808) (hi := 9223372036854775807) rfl ?_
  intro v7 e8 b9
  refine w_t (np := 12) (l2 := [some (eR a0)]) (s2 := [eR a0, eJ (v7), eJ (v4), eR a0]) rfl (s_an rfl (pos_g hI gA0 (by decide))) rfl ?_
  refine w_gf (np := 15) (v := eJ (v1)) rfl rfl (hI.kd gA0 (by decide) (n := 69) rfl) (by rw [e2]; rfl) ?_
  obtain ⟨v10, e11, b12⟩ : ∃ zz : Int, ev_W ((v7) + (v1)) = zz ∧ (-9223372036854775808 ≤ zz ∧ zz ≤ 9223372036854775807) := ⟨_, rfl, hW_bd _⟩
  refine w_t (np := 16) (l2 := [some (eR a0)]) (s2 := [eJ (v10), eJ (v4), eR a0]) rfl (b_ladd e11) rfl ?_
  refine w_t (np := 17) (l2 := [some (eR a0)]) (s2 := [eR a0, eJ (v10), eJ (v4), eR a0]) rfl (s_an rfl (pos_g hI gA0 (by decide))) rfl ?_
  refine j_gj (np := 20) rfl rfl hI gA0 (by decide) (n := 69) rfl rfl (lo := -9223372036854775808) (hi := 9223372036854775807) rfl ?_
  intro v13 e14 b15
  refine w_t (np := 21) (l2 := [some (eR a0)]) (s2 := [eR a0, eJ (v13), eJ (v10), eJ (v4), eR a0]) rfl (s_an rfl (pos_g hI gA0 (by decide))) rfl ?_
  refine w_gf (np := 24) (v := eJ (v1)) rfl rfl (hI.kd gA0 (by decide) (n := 69) rfl) (by rw [e2]; rfl) ?_
  obtain ⟨v16, e17, b18⟩ : ∃ zz : Int, ev_W ((v13) - (v1)) = zz ∧ (-9223372036854775808 ≤ zz ∧ zz ≤ 9223372036854775807) := ⟨_, rfl, hW_bd _⟩
  refine w_t (np := 25) (l2 := [some (eR a0)]) (s2 := [eJ (v16), eJ (v10), eJ (v4), eR a0]) rfl (b_lsub e17) rfl ?_
  refine w_t (np := 26) (l2 := [some (eR a0)]) (s2 := [eR a0, eJ (v16), eJ (v10), eJ (v4), eR a0]) rfl (s_an rfl (pos_g hI gA0 (by decide))) rfl ?_
  refine j_gj (np := 29) rfl rfl hI gA0 (by decide) (n := 69) rfl rfl (lo := -9223372036854775808) (hi := 9223372036854775807) rfl ?_
  intro v19 e20 b21
  refine w_t (np := 30) (l2 := [some (eR a0)]) (s2 := [eR a0, eJ (v19), eJ (v16), eJ (v10), eJ (v4), eR a0]) rfl (s_an rfl (pos_g hI gA0 (by decide))) rfl ?_
  refine w_gf (np := 33) (v := eJ (v1)) rfl rfl (hI.kd gA0 (by decide) (n := 69) rfl) (by rw [e2]; rfl) ?_
  obtain ⟨v22, e23, b24⟩ : ∃ zz : Int, ev_W ((v19) + (v1)) = zz ∧ (-9223372036854775808 ≤ zz ∧ zz ≤ 9223372036854775807) := ⟨_, rfl, hW_bd _⟩
  refine w_t (np := 34) (l2 := [some (eR a0)]) (s2 := [eJ (v22), eJ (v16), eJ (v10), eJ (v4), eR a0]) rfl (b_ladd e23) rfl ?_
  refine w_cw (np := 37) (as := [eJ (v4), eJ (v10), eJ (v16), eJ (v22)]) (l2 := [some (eR a0), some (eJ (v4)), none, some (eJ (v10)), none, some (eJ (v16)), none, some (eJ (v22)), none]) (rest := []) rfl rfl rfl (Nat.ble_eq.mp rfl) rfl rfl rfl (hI.kd gA0 (by decide) (n := 69) rfl) rfl ?_
  refine s_219 hI gA0 b6 b12 b18 b24 ?_
  intro m25 I26 F27
  have F28 : Fr l_220 0 0 g μ m25 := F0.t F27 rfl
  show ex_q (dt_fg L ρ) rc (d + 1, (220, 37, [some (eR a0)], []), f :: F, m25)
  exact v_rv rfl rfl (K m25 I26 F28)
def l_221 : List Nat := [13315, 13316, 13317, 13318]
theorem s_221 {L : Nat} {ρ : Nat → Int} {rc : eQ} {d : Nat} {f : eFr} {F : List eFr} {μ : eM} {g : Nat → Nat} {a0 : Nat} (hI : SI g μ) (gA0 : g a0 = 52) (K : ∀ (μ2 : eM), SI g μ2 → Fr l_221 0 0 g μ μ2 → ex_q (dt_fg L ρ) rc (d + 2, (f.1, f.2.1, f.2.2.1, f.2.2.2), F, μ2)) : ex_q (dt_fg L ρ) rc (d + 1, (221, 0, [some (eR a0)], []), f :: F, μ) := by
  have F0 : Fr l_221 0 0 g μ μ := Fr.r
  refine w_t (np := 1) (l2 := [some (eR a0)]) (s2 := [eR a0]) rfl (s_an rfl (pos_g hI gA0 (by decide))) rfl ?_
  refine w_t (np := 2) (l2 := [some (eR a0)]) (s2 := [eR a0, eR a0]) rfl (s_an rfl (pos_g hI gA0 (by decide))) rfl ?_
  refine j_gj (np := 5) rfl rfl hI gA0 (by decide) (n := 69) rfl rfl (lo := -9223372036854775808) (hi := 9223372036854775807) rfl ?_
  intro v1 e2 b3
  refine w_t (np := 6) (l2 := [some (eR a0)]) (s2 := [eR a0, eJ (v1), eR a0]) rfl (s_an rfl (pos_g hI gA0 (by decide))) rfl ?_
  refine j_gj (np := 9) rfl rfl hI gA0 (by decide) (n := 69) rfl rfl (lo := -9223372036854775808) (hi := 9223372036854775807) rfl ?_
  intro v4 e5 b6
  obtain ⟨v7, e8, b9⟩ : ∃ zz : Int, ev_W ((v1) + (v4)) = zz ∧ (-9223372036854775808 ≤ zz ∧ zz ≤ 9223372036854775807) := ⟨_, rfl, hW_bd _⟩
  refine w_t (np := 10) (l2 := [some (eR a0)]) (s2 := [eJ (v7), eR a0]) rfl (b_ladd e8) rfl ?_
  refine w_t (np := 11) (l2 := [some (eR a0)]) (s2 := [eJ (0), eJ (v7), eR a0]) rfl rfl rfl ?_
  refine w_t (np := 12) (l2 := [some (eR a0)]) (s2 := [eR a0, eJ (0), eJ (v7), eR a0]) rfl (s_an rfl (pos_g hI gA0 (by decide))) rfl ?_
  refine w_gf (np := 15) (v := eJ (v4)) rfl rfl (hI.kd gA0 (by decide) (n := 69) rfl) (by rw [e5]; rfl) ?_
  obtain ⟨v10, e11, b12⟩ : ∃ zz : Int, ev_W ((0) - (v4)) = zz ∧ (-9223372036854775808 ≤ zz ∧ zz ≤ 9223372036854775807) := ⟨_, rfl, hW_bd _⟩
  refine w_t (np := 16) (l2 := [some (eR a0)]) (s2 := [eJ (v10), eJ (v7), eR a0]) rfl (b_lsub e11) rfl ?_
  refine w_t (np := 17) (l2 := [some (eR a0)]) (s2 := [eR a0, eJ (v10), eJ (v7), eR a0]) rfl (s_an rfl (pos_g hI gA0 (by decide))) rfl ?_
  refine w_gf (np := 20) (v := eJ (v4)) rfl rfl (hI.kd gA0 (by decide) (n := 69) rfl) (by rw [e5]; rfl) ?_
  refine w_t (np := 21) (l2 := [some (eR a0)]) (s2 := [eR a0, eJ (v4), eJ (v10), eJ (v7), eR a0]) rfl (s_an rfl (pos_g hI gA0 (by decide))) rfl ?_
  refine j_gj (np := 24) rfl rfl hI gA0 (by decide) (n := 69) rfl rfl (lo := -9223372036854775808) (hi := 9223372036854775807) rfl ?_
  intro v13 e14 b15
  obtain ⟨v16, e17, b18⟩ : ∃ zz : Int, ev_W ((v4) - (v13)) = zz ∧ (-9223372036854775808 ≤ zz ∧ zz ≤ 9223372036854775807) := ⟨_, rfl, hW_bd _⟩
  refine w_t (np := 25) (l2 := [some (eR a0)]) (s2 := [eJ (v16), eJ (v10), eJ (v7), eR a0]) rfl (b_lsub e17) rfl ?_
  refine w_t (np := 26) (l2 := [some (eR a0)]) (s2 := [eJ (0), eJ (v16), eJ (v10), eJ (v7), eR a0]) rfl rfl rfl ?_
  refine w_t (np := 27) (l2 := [some (eR a0)]) (s2 := [eR a0, eJ (0), eJ (v16), eJ (v10), eJ (v7), eR a0]) rfl (s_an rfl (pos_g hI gA0 (by decide))) rfl ?_
  refine w_gf (np := 30) (v := eJ (v4)) rfl rfl (hI.kd gA0 (by decide) (n := 69) rfl) (by rw [e5]; rfl) ?_
  obtain ⟨v19, e20, b21⟩ : ∃ zz : Int, ev_W ((0) - (v4)) = zz ∧ (-9223372036854775808 ≤ zz ∧ zz ≤ 9223372036854775807) := ⟨_, rfl, hW_bd _⟩
  refine w_t (np := 31) (l2 := [some (eR a0)]) (s2 := [eJ (v19), eJ (v16), eJ (v10), eJ (v7), eR a0]) rfl (b_lsub e20) rfl ?_
  refine w_t (np := 32) (l2 := [some (eR a0)]) (s2 := [eR a0, eJ (v19), eJ (v16), eJ (v10), eJ (v7), eR a0]) rfl (s_an rfl (pos_g hI gA0 (by decide))) rfl ?_
  refine j_gj (np := 35) rfl rfl hI gA0 (by decide) (n := 69) rfl rfl (lo := -9223372036854775808) (hi := 9223372036854775807) rfl ?_
  intro v22 e23 b24
  obtain ⟨v25, e26, b27⟩ : ∃ zz : Int, ev_W ((v19) - (v22)) = zz ∧ (-9223372036854775808 ≤ zz ∧ zz ≤ 9223372036854775807) := ⟨_, rfl, hW_bd _⟩
  refine w_t (np := 36) (l2 := [some (eR a0)]) (s2 := [eJ (v25), eJ (v16), eJ (v10), eJ (v7), eR a0]) rfl (b_lsub e26) rfl ?_
  refine w_cw (np := 39) (as := [eJ (v7), eJ (v10), eJ (v16), eJ (v25)]) (l2 := [some (eR a0), some (eJ (v7)), none, some (eJ (v10)), none, some (eJ (v16)), none, some (eJ (v25)), none]) (rest := []) rfl rfl rfl (Nat.ble_eq.mp rfl) rfl rfl rfl (hI.kd gA0 (by decide) (n := 69) rfl) rfl ?_
  refine s_219 hI gA0 b9 b12 b18 b27 ?_
  intro m28 I29 F30
  have F31 : Fr l_221 0 0 g μ m28 := F0.t F30 rfl
  show ex_q (dt_fg L ρ) rc (d + 1, (221, 39, [some (eR a0)], []), f :: F, m28)
  exact v_rv rfl rfl (K m28 I29 F31)
theorem s_222 {L : Nat} {ρ : Nat → Int} {rc : eQ} {d : Nat} {f : eFr} {F : List eFr} {μ : eM} {g : Nat → Nat} {a0 : Int} {a2 : Int} (hI : SI g μ) (bA0 : -9223372036854775808 ≤ a0 ∧ a0 ≤ 9223372036854775807) (bA2 : -9223372036854775808 ≤ a2 ∧ a2 ≤ 9223372036854775807) (K : ∀ (v : Int), (-1 ≤ v ∧ v ≤ 1) → ex_q (dt_fg L ρ) rc (d + 1, (f.1, f.2.1, f.2.2.1, eI v :: f.2.2.2), F, μ)) : ex_q (dt_fg L ρ) rc (d, (222, 0, [some (eJ (a0)), none, some (eJ (a2)), none, none, none, none, none, none, none], []), f :: F, μ) := by
  refine v_l2 (np := 3) (c := 2) rfl rfl (by decide) ?_
  rw [show zJ 2 = 2 by decide]
  refine w_t (np := 4) (l2 := [some (eJ (a0)), none, some (eJ (a2)), none, none, none, none, none, none, none]) (s2 := [eJ (a0), eJ (2)]) rfl rfl rfl ?_
  obtain ⟨v1, e2, b3⟩ : ∃ zz : Int, ev_W ((2) * (a0)) = zz ∧ (-9223372036854775808 ≤ zz ∧ zz ≤ 9223372036854775807) := ⟨_, rfl, hW_bd _⟩
  refine w_t (np := 5) (l2 := [some (eJ (a0)), none, some (eJ (a2)), none, none, none, none, none, none, none]) (s2 := [eJ (v1)]) rfl (b_lmul e2) rfl ?_
  refine w_t (np := 6) (l2 := [some (eJ (a0)), none, some (eJ (a2)), none, none, none, none, none, none, none]) (s2 := [eJ (a2), eJ (v1)]) rfl rfl rfl ?_
  obtain ⟨v4, e5, b6⟩ : ∃ zz : Int, ev_W ((v1) + (a2)) = zz ∧ (-9223372036854775808 ≤ zz ∧ zz ≤ 9223372036854775807) := ⟨_, rfl, hW_bd _⟩
  refine w_t (np := 7) (l2 := [some (eJ (a0)), none, some (eJ (a2)), none, none, none, none, none, none, none]) (s2 := [eJ (v4)]) rfl (b_ladd e5) rfl ?_
  refine w_t (np := 9) (l2 := [some (eJ (a0)), none, some (eJ (a2)), none, some (eJ (v4)), none, none, none, none, none]) (s2 := []) rfl rfl rfl ?_
  refine w_t (np := 11) (l2 := [some (eJ (a0)), none, some (eJ (a2)), none, some (eJ (v4)), none, none, none, none, none]) (s2 := [eJ (v4)]) rfl rfl rfl ?_
  refine w_t (np := 12) (l2 := [some (eJ (a0)), none, some (eJ (a2)), none, some (eJ (v4)), none, none, none, none, none]) (s2 := [eJ (0), eJ (v4)]) rfl rfl rfl ?_
  obtain ⟨v7, e8, b9⟩ := h_lcmp (v4) (0)
  refine w_t (np := 13) (l2 := [some (eJ (a0)), none, some (eJ (a2)), none, some (eJ (v4)), none, none, none, none, none]) (s2 := [eI (v7)]) rfl (e8 _ _) rfl ?_
  refine b_ilt (t1 := 41) (t2 := 16) rfl rfl rfl (ev_w_in (by omega) (by omega)) (fun g10 => ?_) (fun g10 => ?_)
  · have b11 : -1 ≤ v7 ∧ v7 ≤ -1 := by omega
    refine w_t (np := 43) (l2 := [some (eJ (a0)), none, some (eJ (a2)), none, some (eJ (v4)), none, none, none, none, none]) (s2 := [eJ (v4)]) rfl rfl rfl ?_
    refine w_t (np := 44) (l2 := [some (eJ (a0)), none, some (eJ (a2)), none, some (eJ (v4)), none, none, none, none, none]) (s2 := [eJ (0), eJ (v4)]) rfl rfl rfl ?_
    obtain ⟨v11, e12, b13⟩ := h_lcmp (v4) (0)
    refine w_t (np := 45) (l2 := [some (eJ (a0)), none, some (eJ (a2)), none, some (eJ (v4)), none, none, none, none, none]) (s2 := [eI (v11)]) rfl (e12 _ _) rfl ?_
    refine b_igt (t1 := 56) (t2 := 48) rfl rfl rfl (ev_w_in (by omega) (by omega)) (fun g14 => ?_) (fun g14 => ?_)
    · have b15 : 1 ≤ v11 ∧ v11 ≤ 1 := by omega
      refine w_t (np := 58) (l2 := [some (eJ (a0)), none, some (eJ (a2)), none, some (eJ (v4)), none, none, none, none, none]) (s2 := [eJ (v4)]) rfl rfl rfl ?_
      refine w_t (np := 60) (l2 := [some (eJ (a0)), none, some (eJ (a2)), none, some (eJ (v4)), none, none, none, none, none]) (s2 := [eJ (v4), eJ (v4)]) rfl rfl rfl ?_
      obtain ⟨v15, e16, b17⟩ : ∃ zz : Int, ev_W ((v4) * (v4)) = zz ∧ (-9223372036854775808 ≤ zz ∧ zz ≤ 9223372036854775807) := ⟨_, rfl, hW_bd _⟩
      refine w_t (np := 61) (l2 := [some (eJ (a0)), none, some (eJ (a2)), none, some (eJ (v4)), none, none, none, none, none]) (s2 := [eJ (v15)]) rfl (b_lmul e16) rfl ?_
      refine w_t (np := 63) (l2 := [some (eJ (a0)), none, some (eJ (a2)), none, some (eJ (v4)), none, some (eJ (v15)), none, none, none]) (s2 := []) rfl rfl rfl ?_
      refine v_l2 (np := 66) (c := 5) rfl rfl (by decide) ?_
      rw [show zJ 5 = 5 by decide]
      refine w_t (np := 67) (l2 := [some (eJ (a0)), none, some (eJ (a2)), none, some (eJ (v4)), none, some (eJ (v15)), none, none, none]) (s2 := [eJ (a2), eJ (5)]) rfl rfl rfl ?_
      obtain ⟨v18, e19, b20⟩ : ∃ zz : Int, ev_W ((5) * (a2)) = zz ∧ (-9223372036854775808 ≤ zz ∧ zz ≤ 9223372036854775807) := ⟨_, rfl, hW_bd _⟩
      refine w_t (np := 68) (l2 := [some (eJ (a0)), none, some (eJ (a2)), none, some (eJ (v4)), none, some (eJ (v15)), none, none, none]) (s2 := [eJ (v18)]) rfl (b_lmul e19) rfl ?_
      refine w_t (np := 69) (l2 := [some (eJ (a0)), none, some (eJ (a2)), none, some (eJ (v4)), none, some (eJ (v15)), none, none, none]) (s2 := [eJ (a2), eJ (v18)]) rfl rfl rfl ?_
      obtain ⟨v21, e22, b23⟩ : ∃ zz : Int, ev_W ((v18) * (a2)) = zz ∧ (-9223372036854775808 ≤ zz ∧ zz ≤ 9223372036854775807) := ⟨_, rfl, hW_bd _⟩
      refine w_t (np := 70) (l2 := [some (eJ (a0)), none, some (eJ (a2)), none, some (eJ (v4)), none, some (eJ (v15)), none, none, none]) (s2 := [eJ (v21)]) rfl (b_lmul e22) rfl ?_
      refine w_t (np := 72) (l2 := [some (eJ (a0)), none, some (eJ (a2)), none, some (eJ (v4)), none, some (eJ (v15)), none, some (eJ (v21)), none]) (s2 := []) rfl rfl rfl ?_
      refine w_t (np := 74) (l2 := [some (eJ (a0)), none, some (eJ (a2)), none, some (eJ (v4)), none, some (eJ (v15)), none, some (eJ (v21)), none]) (s2 := [eJ (v4)]) rfl rfl rfl ?_
      refine w_t (np := 75) (l2 := [some (eJ (a0)), none, some (eJ (a2)), none, some (eJ (v4)), none, some (eJ (v15)), none, some (eJ (v21)), none]) (s2 := [eJ (0), eJ (v4)]) rfl rfl rfl ?_
      obtain ⟨v24, e25, b26⟩ := h_lcmp (v4) (0)
      refine w_t (np := 76) (l2 := [some (eJ (a0)), none, some (eJ (a2)), none, some (eJ (v4)), none, some (eJ (v15)), none, some (eJ (v21)), none]) (s2 := [eI (v24)]) rfl (e25 _ _) rfl ?_
      refine b_ile (t1 := 95) (t2 := 79) rfl rfl rfl (ev_w_in (by omega) (by omega)) (fun g27 => ?_) (fun g27 => ?_)
      · have b28 : -1 ≤ v24 ∧ v24 ≤ 0 := by omega
        refine w_t (np := 97) (l2 := [some (eJ (a0)), none, some (eJ (a2)), none, some (eJ (v4)), none, some (eJ (v15)), none, some (eJ (v21)), none]) (s2 := [eJ (v21)]) rfl rfl rfl ?_
        refine w_t (np := 99) (l2 := [some (eJ (a0)), none, some (eJ (a2)), none, some (eJ (v4)), none, some (eJ (v15)), none, some (eJ (v21)), none]) (s2 := [eJ (v15), eJ (v21)]) rfl rfl rfl ?_
        obtain ⟨v28, e29, b30⟩ := h_lcmp (v21) (v15)
        refine w_t (np := 100) (l2 := [some (eJ (a0)), none, some (eJ (a2)), none, some (eJ (v4)), none, some (eJ (v15)), none, some (eJ (v21)), none]) (s2 := [eI (v28)]) rfl (e29 _ _) rfl ?_
        refine b_ile (t1 := 107) (t2 := 103) rfl rfl rfl (ev_w_in (by omega) (by omega)) (fun g31 => ?_) (fun g31 => ?_)
        · have b32 : -1 ≤ v28 ∧ v28 ≤ 0 := by omega
          refine w_t (np := 108) (l2 := [some (eJ (a0)), none, some (eJ (a2)), none, some (eJ (v4)), none, some (eJ (v15)), none, some (eJ (v21)), none]) (s2 := [eI (-1)]) rfl rfl rfl ?_
          exact b_ri rfl rfl (K (-1) (by decide))
        · have b32 : 1 ≤ v28 ∧ v28 ≤ 1 := by omega
          refine w_t (np := 104) (l2 := [some (eJ (a0)), none, some (eJ (a2)), none, some (eJ (v4)), none, some (eJ (v15)), none, some (eJ (v21)), none]) (s2 := [eI (1)]) rfl rfl rfl ?_
          refine w_go (t1 := 108) rfl rfl ?_
          exact b_ri rfl rfl (K (1) (by decide))
      · have b28 : 1 ≤ v24 ∧ v24 ≤ 1 := by omega
        refine w_t (np := 81) (l2 := [some (eJ (a0)), none, some (eJ (a2)), none, some (eJ (v4)), none, some (eJ (v15)), none, some (eJ (v21)), none]) (s2 := [eJ (v15)]) rfl rfl rfl ?_
        refine w_t (np := 83) (l2 := [some (eJ (a0)), none, some (eJ (a2)), none, some (eJ (v4)), none, some (eJ (v15)), none, some (eJ (v21)), none]) (s2 := [eJ (v21), eJ (v15)]) rfl rfl rfl ?_
        obtain ⟨v28, e29, b30⟩ := h_lcmp (v15) (v21)
        refine w_t (np := 84) (l2 := [some (eJ (a0)), none, some (eJ (a2)), none, some (eJ (v4)), none, some (eJ (v15)), none, some (eJ (v21)), none]) (s2 := [eI (v28)]) rfl (e29 _ _) rfl ?_
        refine b_ile (t1 := 91) (t2 := 87) rfl rfl rfl (ev_w_in (by omega) (by omega)) (fun g31 => ?_) (fun g31 => ?_)
        · have b32 : -1 ≤ v28 ∧ v28 ≤ 0 := by omega
          refine w_t (np := 92) (l2 := [some (eJ (a0)), none, some (eJ (a2)), none, some (eJ (v4)), none, some (eJ (v15)), none, some (eJ (v21)), none]) (s2 := [eI (-1)]) rfl rfl rfl ?_
          refine w_go (t1 := 108) rfl rfl ?_
          exact b_ri rfl rfl (K (-1) (by decide))
        · have b32 : 1 ≤ v28 ∧ v28 ≤ 1 := by omega
          refine w_t (np := 88) (l2 := [some (eJ (a0)), none, some (eJ (a2)), none, some (eJ (v4)), none, some (eJ (v15)), none, some (eJ (v21)), none]) (s2 := [eI (1)]) rfl rfl rfl ?_
          refine w_go (t1 := 108) rfl rfl ?_
          exact b_ri rfl rfl (K (1) (by decide))
    · have b15 : -1 ≤ v11 ∧ v11 ≤ 0 := by omega
      refine w_t (np := 49) (l2 := [some (eJ (a0)), none, some (eJ (a2)), none, some (eJ (v4)), none, none, none, none, none]) (s2 := [eJ (a2)]) rfl rfl rfl ?_
      refine w_t (np := 50) (l2 := [some (eJ (a0)), none, some (eJ (a2)), none, some (eJ (v4)), none, none, none, none, none]) (s2 := [eJ (0), eJ (a2)]) rfl rfl rfl ?_
      obtain ⟨v15, e16, b17⟩ := h_lcmp (a2) (0)
      refine w_t (np := 51) (l2 := [some (eJ (a0)), none, some (eJ (a2)), none, some (eJ (v4)), none, none, none, none, none]) (s2 := [eI (v15)]) rfl (e16 _ _) rfl ?_
      refine b_igt (t1 := 56) (t2 := 54) rfl rfl rfl (ev_w_in (by omega) (by omega)) (fun g18 => ?_) (fun g18 => ?_)
      · have b19 : 1 ≤ v15 ∧ v15 ≤ 1 := by omega
        refine w_t (np := 58) (l2 := [some (eJ (a0)), none, some (eJ (a2)), none, some (eJ (v4)), none, none, none, none, none]) (s2 := [eJ (v4)]) rfl rfl rfl ?_
        refine w_t (np := 60) (l2 := [some (eJ (a0)), none, some (eJ (a2)), none, some (eJ (v4)), none, none, none, none, none]) (s2 := [eJ (v4), eJ (v4)]) rfl rfl rfl ?_
        obtain ⟨v19, e20, b21⟩ : ∃ zz : Int, ev_W ((v4) * (v4)) = zz ∧ (-9223372036854775808 ≤ zz ∧ zz ≤ 9223372036854775807) := ⟨_, rfl, hW_bd _⟩
        refine w_t (np := 61) (l2 := [some (eJ (a0)), none, some (eJ (a2)), none, some (eJ (v4)), none, none, none, none, none]) (s2 := [eJ (v19)]) rfl (b_lmul e20) rfl ?_
        refine w_t (np := 63) (l2 := [some (eJ (a0)), none, some (eJ (a2)), none, some (eJ (v4)), none, some (eJ (v19)), none, none, none]) (s2 := []) rfl rfl rfl ?_
        refine v_l2 (np := 66) (c := 5) rfl rfl (by decide) ?_
        rw [show zJ 5 = 5 by decide]
        refine w_t (np := 67) (l2 := [some (eJ (a0)), none, some (eJ (a2)), none, some (eJ (v4)), none, some (eJ (v19)), none, none, none]) (s2 := [eJ (a2), eJ (5)]) rfl rfl rfl ?_
        obtain ⟨v22, e23, b24⟩ : ∃ zz : Int, ev_W ((5) * (a2)) = zz ∧ (-9223372036854775808 ≤ zz ∧ zz ≤ 9223372036854775807) := ⟨_, rfl, hW_bd _⟩
        refine w_t (np := 68) (l2 := [some (eJ (a0)), none, some (eJ (a2)), none, some (eJ (v4)), none, some (eJ (v19)), none, none, none]) (s2 := [eJ (v22)]) rfl (b_lmul e23) rfl ?_
        refine w_t (np := 69) (l2 := [some (eJ (a0)), none, some (eJ (a2)), none, some (eJ (v4)), none, some (eJ (v19)), none, none, none]) (s2 := [eJ (a2), eJ (v22)]) rfl rfl rfl ?_
        obtain ⟨v25, e26, b27⟩ : ∃ zz : Int, ev_W ((v22) * (a2)) = zz ∧ (-9223372036854775808 ≤ zz ∧ zz ≤ 9223372036854775807) := ⟨_, rfl, hW_bd _⟩
        refine w_t (np := 70) (l2 := [some (eJ (a0)), none, some (eJ (a2)), none, some (eJ (v4)), none, some (eJ (v19)), none, none, none]) (s2 := [eJ (v25)]) rfl (b_lmul e26) rfl ?_
        refine w_t (np := 72) (l2 := [some (eJ (a0)), none, some (eJ (a2)), none, some (eJ (v4)), none, some (eJ (v19)), none, some (eJ (v25)), none]) (s2 := []) rfl rfl rfl ?_
        refine w_t (np := 74) (l2 := [some (eJ (a0)), none, some (eJ (a2)), none, some (eJ (v4)), none, some (eJ (v19)), none, some (eJ (v25)), none]) (s2 := [eJ (v4)]) rfl rfl rfl ?_
        refine w_t (np := 75) (l2 := [some (eJ (a0)), none, some (eJ (a2)), none, some (eJ (v4)), none, some (eJ (v19)), none, some (eJ (v25)), none]) (s2 := [eJ (0), eJ (v4)]) rfl rfl rfl ?_
        obtain ⟨v28, e29, b30⟩ := h_lcmp (v4) (0)
        refine w_t (np := 76) (l2 := [some (eJ (a0)), none, some (eJ (a2)), none, some (eJ (v4)), none, some (eJ (v19)), none, some (eJ (v25)), none]) (s2 := [eI (v28)]) rfl (e29 _ _) rfl ?_
        refine b_ile (t1 := 95) (t2 := 79) rfl rfl rfl (ev_w_in (by omega) (by omega)) (fun g31 => ?_) (fun g31 => ?_)
        · have b32 : -1 ≤ v28 ∧ v28 ≤ 0 := by omega
          refine w_t (np := 97) (l2 := [some (eJ (a0)), none, some (eJ (a2)), none, some (eJ (v4)), none, some (eJ (v19)), none, some (eJ (v25)), none]) (s2 := [eJ (v25)]) rfl rfl rfl ?_
          refine w_t (np := 99) (l2 := [some (eJ (a0)), none, some (eJ (a2)), none, some (eJ (v4)), none, some (eJ (v19)), none, some (eJ (v25)), none]) (s2 := [eJ (v19), eJ (v25)]) rfl rfl rfl ?_
          obtain ⟨v32, e33, b34⟩ := h_lcmp (v25) (v19)
          refine w_t (np := 100) (l2 := [some (eJ (a0)), none, some (eJ (a2)), none, some (eJ (v4)), none, some (eJ (v19)), none, some (eJ (v25)), none]) (s2 := [eI (v32)]) rfl (e33 _ _) rfl ?_
          refine b_ile (t1 := 107) (t2 := 103) rfl rfl rfl (ev_w_in (by omega) (by omega)) (fun g35 => ?_) (fun g35 => ?_)
          · have b36 : -1 ≤ v32 ∧ v32 ≤ 0 := by omega
            refine w_t (np := 108) (l2 := [some (eJ (a0)), none, some (eJ (a2)), none, some (eJ (v4)), none, some (eJ (v19)), none, some (eJ (v25)), none]) (s2 := [eI (-1)]) rfl rfl rfl ?_
            exact b_ri rfl rfl (K (-1) (by decide))
          · have b36 : 1 ≤ v32 ∧ v32 ≤ 1 := by omega
            refine w_t (np := 104) (l2 := [some (eJ (a0)), none, some (eJ (a2)), none, some (eJ (v4)), none, some (eJ (v19)), none, some (eJ (v25)), none]) (s2 := [eI (1)]) rfl rfl rfl ?_
            refine w_go (t1 := 108) rfl rfl ?_
            exact b_ri rfl rfl (K (1) (by decide))
        · have b32 : 1 ≤ v28 ∧ v28 ≤ 1 := by omega
          refine w_t (np := 81) (l2 := [some (eJ (a0)), none, some (eJ (a2)), none, some (eJ (v4)), none, some (eJ (v19)), none, some (eJ (v25)), none]) (s2 := [eJ (v19)]) rfl rfl rfl ?_
          refine w_t (np := 83) (l2 := [some (eJ (a0)), none, some (eJ (a2)), none, some (eJ (v4)), none, some (eJ (v19)), none, some (eJ (v25)), none]) (s2 := [eJ (v25), eJ (v19)]) rfl rfl rfl ?_
          obtain ⟨v32, e33, b34⟩ := h_lcmp (v19) (v25)
          refine w_t (np := 84) (l2 := [some (eJ (a0)), none, some (eJ (a2)), none, some (eJ (v4)), none, some (eJ (v19)), none, some (eJ (v25)), none]) (s2 := [eI (v32)]) rfl (e33 _ _) rfl ?_
          refine b_ile (t1 := 91) (t2 := 87) rfl rfl rfl (ev_w_in (by omega) (by omega)) (fun g35 => ?_) (fun g35 => ?_)
          · have b36 : -1 ≤ v32 ∧ v32 ≤ 0 := by omega
            refine w_t (np := 92) (l2 := [some (eJ (a0)), none, some (eJ (a2)), none, some (eJ (v4)), none, some (eJ (v19)), none, some (eJ (v25)), none]) (s2 := [eI (-1)]) rfl rfl rfl ?_
            refine w_go (t1 := 108) rfl rfl ?_
            exact b_ri rfl rfl (K (-1) (by decide))
          · have b36 : 1 ≤ v32 ∧ v32 ≤ 1 := by omega
            refine w_t (np := 88) (l2 := [some (eJ (a0)), none, some (eJ (a2)), none, some (eJ (v4)), none, some (eJ (v19)), none, some (eJ (v25)), none]) (s2 := [eI (1)]) rfl rfl rfl ?_
            refine w_go (t1 := 108) rfl rfl ?_
            exact b_ri rfl rfl (K (1) (by decide))
      · have b19 : -1 ≤ v15 ∧ v15 ≤ 0 := by omega
        refine w_t (np := 55) (l2 := [some (eJ (a0)), none, some (eJ (a2)), none, some (eJ (v4)), none, none, none, none, none]) (s2 := [eI (-1)]) rfl rfl rfl ?_
        exact b_ri rfl rfl (K (-1) (by decide))
  · have b11 : 0 ≤ v7 ∧ v7 ≤ 1 := by omega
    refine w_t (np := 17) (l2 := [some (eJ (a0)), none, some (eJ (a2)), none, some (eJ (v4)), none, none, none, none, none]) (s2 := [eJ (a2)]) rfl rfl rfl ?_
    refine w_t (np := 18) (l2 := [some (eJ (a0)), none, some (eJ (a2)), none, some (eJ (v4)), none, none, none, none, none]) (s2 := [eJ (0), eJ (a2)]) rfl rfl rfl ?_
    obtain ⟨v11, e12, b13⟩ := h_lcmp (a2) (0)
    refine w_t (np := 19) (l2 := [some (eJ (a0)), none, some (eJ (a2)), none, some (eJ (v4)), none, none, none, none, none]) (s2 := [eI (v11)]) rfl (e12 _ _) rfl ?_
    refine b_ilt (t1 := 41) (t2 := 22) rfl rfl rfl (ev_w_in (by omega) (by omega)) (fun g14 => ?_) (fun g14 => ?_)
    · have b15 : -1 ≤ v11 ∧ v11 ≤ -1 := by omega
      refine w_t (np := 43) (l2 := [some (eJ (a0)), none, some (eJ (a2)), none, some (eJ (v4)), none, none, none, none, none]) (s2 := [eJ (v4)]) rfl rfl rfl ?_
      refine w_t (np := 44) (l2 := [some (eJ (a0)), none, some (eJ (a2)), none, some (eJ (v4)), none, none, none, none, none]) (s2 := [eJ (0), eJ (v4)]) rfl rfl rfl ?_
      obtain ⟨v15, e16, b17⟩ := h_lcmp (v4) (0)
      refine w_t (np := 45) (l2 := [some (eJ (a0)), none, some (eJ (a2)), none, some (eJ (v4)), none, none, none, none, none]) (s2 := [eI (v15)]) rfl (e16 _ _) rfl ?_
      refine b_igt (t1 := 56) (t2 := 48) rfl rfl rfl (ev_w_in (by omega) (by omega)) (fun g18 => ?_) (fun g18 => ?_)
      · have b19 : 1 ≤ v15 ∧ v15 ≤ 1 := by omega
        refine w_t (np := 58) (l2 := [some (eJ (a0)), none, some (eJ (a2)), none, some (eJ (v4)), none, none, none, none, none]) (s2 := [eJ (v4)]) rfl rfl rfl ?_
        refine w_t (np := 60) (l2 := [some (eJ (a0)), none, some (eJ (a2)), none, some (eJ (v4)), none, none, none, none, none]) (s2 := [eJ (v4), eJ (v4)]) rfl rfl rfl ?_
        obtain ⟨v19, e20, b21⟩ : ∃ zz : Int, ev_W ((v4) * (v4)) = zz ∧ (-9223372036854775808 ≤ zz ∧ zz ≤ 9223372036854775807) := ⟨_, rfl, hW_bd _⟩
        refine w_t (np := 61) (l2 := [some (eJ (a0)), none, some (eJ (a2)), none, some (eJ (v4)), none, none, none, none, none]) (s2 := [eJ (v19)]) rfl (b_lmul e20) rfl ?_
        refine w_t (np := 63) (l2 := [some (eJ (a0)), none, some (eJ (a2)), none, some (eJ (v4)), none, some (eJ (v19)), none, none, none]) (s2 := []) rfl rfl rfl ?_
        refine v_l2 (np := 66) (c := 5) rfl rfl (by decide) ?_
        rw [show zJ 5 = 5 by decide]
        refine w_t (np := 67) (l2 := [some (eJ (a0)), none, some (eJ (a2)), none, some (eJ (v4)), none, some (eJ (v19)), none, none, none]) (s2 := [eJ (a2), eJ (5)]) rfl rfl rfl ?_
        obtain ⟨v22, e23, b24⟩ : ∃ zz : Int, ev_W ((5) * (a2)) = zz ∧ (-9223372036854775808 ≤ zz ∧ zz ≤ 9223372036854775807) := ⟨_, rfl, hW_bd _⟩
        refine w_t (np := 68) (l2 := [some (eJ (a0)), none, some (eJ (a2)), none, some (eJ (v4)), none, some (eJ (v19)), none, none, none]) (s2 := [eJ (v22)]) rfl (b_lmul e23) rfl ?_
        refine w_t (np := 69) (l2 := [some (eJ (a0)), none, some (eJ (a2)), none, some (eJ (v4)), none, some (eJ (v19)), none, none, none]) (s2 := [eJ (a2), eJ (v22)]) rfl rfl rfl ?_
        obtain ⟨v25, e26, b27⟩ : ∃ zz : Int, ev_W ((v22) * (a2)) = zz ∧ (-9223372036854775808 ≤ zz ∧ zz ≤ 9223372036854775807) := ⟨_, rfl, hW_bd _⟩
        refine w_t (np := 70) (l2 := [some (eJ (a0)), none, some (eJ (a2)), none, some (eJ (v4)), none, some (eJ (v19)), none, none, none]) (s2 := [eJ (v25)]) rfl (b_lmul e26) rfl ?_
        refine w_t (np := 72) (l2 := [some (eJ (a0)), none, some (eJ (a2)), none, some (eJ (v4)), none, some (eJ (v19)), none, some (eJ (v25)), none]) (s2 := []) rfl rfl rfl ?_
        refine w_t (np := 74) (l2 := [some (eJ (a0)), none, some (eJ (a2)), none, some (eJ (v4)), none, some (eJ (v19)), none, some (eJ (v25)), none]) (s2 := [eJ (v4)]) rfl rfl rfl ?_
        refine w_t (np := 75) (l2 := [some (eJ (a0)), none, some (eJ (a2)), none, some (eJ (v4)), none, some (eJ (v19)), none, some (eJ (v25)), none]) (s2 := [eJ (0), eJ (v4)]) rfl rfl rfl ?_
        obtain ⟨v28, e29, b30⟩ := h_lcmp (v4) (0)
        refine w_t (np := 76) (l2 := [some (eJ (a0)), none, some (eJ (a2)), none, some (eJ (v4)), none, some (eJ (v19)), none, some (eJ (v25)), none]) (s2 := [eI (v28)]) rfl (e29 _ _) rfl ?_
        refine b_ile (t1 := 95) (t2 := 79) rfl rfl rfl (ev_w_in (by omega) (by omega)) (fun g31 => ?_) (fun g31 => ?_)
        · have b32 : -1 ≤ v28 ∧ v28 ≤ 0 := by omega
          refine w_t (np := 97) (l2 := [some (eJ (a0)), none, some (eJ (a2)), none, some (eJ (v4)), none, some (eJ (v19)), none, some (eJ (v25)), none]) (s2 := [eJ (v25)]) rfl rfl rfl ?_
          refine w_t (np := 99) (l2 := [some (eJ (a0)), none, some (eJ (a2)), none, some (eJ (v4)), none, some (eJ (v19)), none, some (eJ (v25)), none]) (s2 := [eJ (v19), eJ (v25)]) rfl rfl rfl ?_
          obtain ⟨v32, e33, b34⟩ := h_lcmp (v25) (v19)
          refine w_t (np := 100) (l2 := [some (eJ (a0)), none, some (eJ (a2)), none, some (eJ (v4)), none, some (eJ (v19)), none, some (eJ (v25)), none]) (s2 := [eI (v32)]) rfl (e33 _ _) rfl ?_
          refine b_ile (t1 := 107) (t2 := 103) rfl rfl rfl (ev_w_in (by omega) (by omega)) (fun g35 => ?_) (fun g35 => ?_)
          · have b36 : -1 ≤ v32 ∧ v32 ≤ 0 := by omega
            refine w_t (np := 108) (l2 := [some (eJ (a0)), none, some (eJ (a2)), none, some (eJ (v4)), none, some (eJ (v19)), none, some (eJ (v25)), none]) (s2 := [eI (-1)]) rfl rfl rfl ?_
            exact b_ri rfl rfl (K (-1) (by decide))
          · have b36 : 1 ≤ v32 ∧ v32 ≤ 1 := by omega
            refine w_t (np := 104) (l2 := [some (eJ (a0)), none, some (eJ (a2)), none, some (eJ (v4)), none, some (eJ (v19)), none, some (eJ (v25)), none]) (s2 := [eI (1)]) rfl rfl rfl ?_
            refine w_go (t1 := 108) rfl rfl ?_
            exact b_ri rfl rfl (K (1) (by decide))
        · have b32 : 1 ≤ v28 ∧ v28 ≤ 1 := by omega
          refine w_t (np := 81) (l2 := [some (eJ (a0)), none, some (eJ (a2)), none, some (eJ (v4)), none, some (eJ (v19)), none, some (eJ (v25)), none]) (s2 := [eJ (v19)]) rfl rfl rfl ?_
          refine w_t (np := 83) (l2 := [some (eJ (a0)), none, some (eJ (a2)), none, some (eJ (v4)), none, some (eJ (v19)), none, some (eJ (v25)), none]) (s2 := [eJ (v25), eJ (v19)]) rfl rfl rfl ?_
          obtain ⟨v32, e33, b34⟩ := h_lcmp (v19) (v25)
          refine w_t (np := 84) (l2 := [some (eJ (a0)), none, some (eJ (a2)), none, some (eJ (v4)), none, some (eJ (v19)), none, some (eJ (v25)), none]) (s2 := [eI (v32)]) rfl (e33 _ _) rfl ?_
          refine b_ile (t1 := 91) (t2 := 87) rfl rfl rfl (ev_w_in (by omega) (by omega)) (fun g35 => ?_) (fun g35 => ?_)
          · have b36 : -1 ≤ v32 ∧ v32 ≤ 0 := by omega
            refine w_t (np := 92) (l2 := [some (eJ (a0)), none, some (eJ (a2)), none, some (eJ (v4)), none, some (eJ (v19)), none, some (eJ (v25)), none]) (s2 := [eI (-1)]) rfl rfl rfl ?_
            refine w_go (t1 := 108) rfl rfl ?_
            exact b_ri rfl rfl (K (-1) (by decide))
          · have b36 : 1 ≤ v32 ∧ v32 ≤ 1 := by omega
            refine w_t (np := 88) (l2 := [some (eJ (a0)), none, some (eJ (a2)), none, some (eJ (v4)), none, some (eJ (v19)), none, some (eJ (v25)), none]) (s2 := [eI (1)]) rfl rfl rfl ?_
            refine w_go (t1 := 108) rfl rfl ?_
            exact b_ri rfl rfl (K (1) (by decide))
      · have b19 : -1 ≤ v15 ∧ v15 ≤ 0 := by omega
        refine w_t (np := 49) (l2 := [some (eJ (a0)), none, some (eJ (a2)), none, some (eJ (v4)), none, none, none, none, none]) (s2 := [eJ (a2)]) rfl rfl rfl ?_
        refine w_t (np := 50) (l2 := [some (eJ (a0)), none, some (eJ (a2)), none, some (eJ (v4)), none, none, none, none, none]) (s2 := [eJ (0), eJ (a2)]) rfl rfl rfl ?_
        obtain ⟨v19, e20, b21⟩ := h_lcmp (a2) (0)
        refine w_t (np := 51) (l2 := [some (eJ (a0)), none, some (eJ (a2)), none, some (eJ (v4)), none, none, none, none, none]) (s2 := [eI (v19)]) rfl (e20 _ _) rfl ?_
        refine b_igt (t1 := 56) (t2 := 54) rfl rfl rfl (ev_w_in (by omega) (by omega)) (fun g22 => ?_) (fun g22 => ?_)
        · have b23 : 1 ≤ v19 ∧ v19 ≤ 1 := by omega
          refine w_t (np := 58) (l2 := [some (eJ (a0)), none, some (eJ (a2)), none, some (eJ (v4)), none, none, none, none, none]) (s2 := [eJ (v4)]) rfl rfl rfl ?_
          refine w_t (np := 60) (l2 := [some (eJ (a0)), none, some (eJ (a2)), none, some (eJ (v4)), none, none, none, none, none]) (s2 := [eJ (v4), eJ (v4)]) rfl rfl rfl ?_
          obtain ⟨v23, e24, b25⟩ : ∃ zz : Int, ev_W ((v4) * (v4)) = zz ∧ (-9223372036854775808 ≤ zz ∧ zz ≤ 9223372036854775807) := ⟨_, rfl, hW_bd _⟩
          refine w_t (np := 61) (l2 := [some (eJ (a0)), none, some (eJ (a2)), none, some (eJ (v4)), none, none, none, none, none]) (s2 := [eJ (v23)]) rfl (b_lmul e24) rfl ?_
          refine w_t (np := 63) (l2 := [some (eJ (a0)), none, some (eJ (a2)), none, some (eJ (v4)), none, some (eJ (v23)), none, none, none]) (s2 := []) rfl rfl rfl ?_
          refine v_l2 (np := 66) (c := 5) rfl rfl (by decide) ?_
          rw [show zJ 5 = 5 by decide]
          refine w_t (np := 67) (l2 := [some (eJ (a0)), none, some (eJ (a2)), none, some (eJ (v4)), none, some (eJ (v23)), none, none, none]) (s2 := [eJ (a2), eJ (5)]) rfl rfl rfl ?_
          obtain ⟨v26, e27, b28⟩ : ∃ zz : Int, ev_W ((5) * (a2)) = zz ∧ (-9223372036854775808 ≤ zz ∧ zz ≤ 9223372036854775807) := ⟨_, rfl, hW_bd _⟩
          refine w_t (np := 68) (l2 := [some (eJ (a0)), none, some (eJ (a2)), none, some (eJ (v4)), none, some (eJ (v23)), none, none, none]) (s2 := [eJ (v26)]) rfl (b_lmul e27) rfl ?_
          refine w_t (np := 69) (l2 := [some (eJ (a0)), none, some (eJ (a2)), none, some (eJ (v4)), none, some (eJ (v23)), none, none, none]) (s2 := [eJ (a2), eJ (v26)]) rfl rfl rfl ?_
          obtain ⟨v29, e30, b31⟩ : ∃ zz : Int, ev_W ((v26) * (a2)) = zz ∧ (-9223372036854775808 ≤ zz ∧ zz ≤ 9223372036854775807) := ⟨_, rfl, hW_bd _⟩
          refine w_t (np := 70) (l2 := [some (eJ (a0)), none, some (eJ (a2)), none, some (eJ (v4)), none, some (eJ (v23)), none, none, none]) (s2 := [eJ (v29)]) rfl (b_lmul e30) rfl ?_
          refine w_t (np := 72) (l2 := [some (eJ (a0)), none, some (eJ (a2)), none, some (eJ (v4)), none, some (eJ (v23)), none, some (eJ (v29)), none]) (s2 := []) rfl rfl rfl ?_
          refine w_t (np := 74) (l2 := [some (eJ (a0)), none, some (eJ (a2)), none, some (eJ (v4)), none, some (eJ (v23)), none, some (eJ (v29)), none]) (s2 := [eJ (v4)]) rfl rfl rfl ?_
          refine w_t (np := 75) (l2 := [some (eJ (a0)), none, some (eJ (a2)), none, some (eJ (v4)), none, some (eJ (v23)), none, some (eJ (v29)), none]) (s2 := [eJ (0), eJ (v4)]) rfl rfl rfl ?_
          obtain ⟨v32, e33, b34⟩ := h_lcmp (v4) (0)
          refine w_t (np := 76) (l2 := [some (eJ (a0)), none, some (eJ (a2)), none, some (eJ (v4)), none, some (eJ (v23)), none, some (eJ (v29)), none]) (s2 := [eI (v32)]) rfl (e33 _ _) rfl ?_
          refine b_ile (t1 := 95) (t2 := 79) rfl rfl rfl (ev_w_in (by omega) (by omega)) (fun g35 => ?_) (fun g35 => ?_)
          · have b36 : -1 ≤ v32 ∧ v32 ≤ 0 := by omega
            refine w_t (np := 97) (l2 := [some (eJ (a0)), none, some (eJ (a2)), none, some (eJ (v4)), none, some (eJ (v23)), none, some (eJ (v29)), none]) (s2 := [eJ (v29)]) rfl rfl rfl ?_
            refine w_t (np := 99) (l2 := [some (eJ (a0)), none, some (eJ (a2)), none, some (eJ (v4)), none, some (eJ (v23)), none, some (eJ (v29)), none]) (s2 := [eJ (v23), eJ (v29)]) rfl rfl rfl ?_
            obtain ⟨v36, e37, b38⟩ := h_lcmp (v29) (v23)
            refine w_t (np := 100) (l2 := [some (eJ (a0)), none, some (eJ (a2)), none, some (eJ (v4)), none, some (eJ (v23)), none, some (eJ (v29)), none]) (s2 := [eI (v36)]) rfl (e37 _ _) rfl ?_
            refine b_ile (t1 := 107) (t2 := 103) rfl rfl rfl (ev_w_in (by omega) (by omega)) (fun g39 => ?_) (fun g39 => ?_)
            · have b40 : -1 ≤ v36 ∧ v36 ≤ 0 := by omega
              refine w_t (np := 108) (l2 := [some (eJ (a0)), none, some (eJ (a2)), none, some (eJ (v4)), none, some (eJ (v23)), none, some (eJ (v29)), none]) (s2 := [eI (-1)]) rfl rfl rfl ?_
              exact b_ri rfl rfl (K (-1) (by decide))
            · have b40 : 1 ≤ v36 ∧ v36 ≤ 1 := by omega
              refine w_t (np := 104) (l2 := [some (eJ (a0)), none, some (eJ (a2)), none, some (eJ (v4)), none, some (eJ (v23)), none, some (eJ (v29)), none]) (s2 := [eI (1)]) rfl rfl rfl ?_
              refine w_go (t1 := 108) rfl rfl ?_
              exact b_ri rfl rfl (K (1) (by decide))
          · have b36 : 1 ≤ v32 ∧ v32 ≤ 1 := by omega
            refine w_t (np := 81) (l2 := [some (eJ (a0)), none, some (eJ (a2)), none, some (eJ (v4)), none, some (eJ (v23)), none, some (eJ (v29)), none]) (s2 := [eJ (v23)]) rfl rfl rfl ?_
            refine w_t (np := 83) (l2 := [some (eJ (a0)), none, some (eJ (a2)), none, some (eJ (v4)), none, some (eJ (v23)), none, some (eJ (v29)), none]) (s2 := [eJ (v29), eJ (v23)]) rfl rfl rfl ?_
            obtain ⟨v36, e37, b38⟩ := h_lcmp (v23) (v29)
            refine w_t (np := 84) (l2 := [some (eJ (a0)), none, some (eJ (a2)), none, some (eJ (v4)), none, some (eJ (v23)), none, some (eJ (v29)), none]) (s2 := [eI (v36)]) rfl (e37 _ _) rfl ?_
            refine b_ile (t1 := 91) (t2 := 87) rfl rfl rfl (ev_w_in (by omega) (by omega)) (fun g39 => ?_) (fun g39 => ?_)
            · have b40 : -1 ≤ v36 ∧ v36 ≤ 0 := by omega
              refine w_t (np := 92) (l2 := [some (eJ (a0)), none, some (eJ (a2)), none, some (eJ (v4)), none, some (eJ (v23)), none, some (eJ (v29)), none]) (s2 := [eI (-1)]) rfl rfl rfl ?_
              refine w_go (t1 := 108) rfl rfl ?_
              exact b_ri rfl rfl (K (-1) (by decide))
            · have b40 : 1 ≤ v36 ∧ v36 ≤ 1 := by omega
              refine w_t (np := 88) (l2 := [some (eJ (a0)), none, some (eJ (a2)), none, some (eJ (v4)), none, some (eJ (v23)), none, some (eJ (v29)), none]) (s2 := [eI (1)]) rfl rfl rfl ?_
              refine w_go (t1 := 108) rfl rfl ?_
              exact b_ri rfl rfl (K (1) (by decide))
        · have b23 : -1 ≤ v19 ∧ v19 ≤ 0 := by omega
          refine w_t (np := 55) (l2 := [some (eJ (a0)), none, some (eJ (a2)), none, some (eJ (v4)), none, none, none, none, none]) (s2 := [eI (-1)]) rfl rfl rfl ?_
          exact b_ri rfl rfl (K (-1) (by decide))
    · have b15 : 0 ≤ v11 ∧ v11 ≤ 1 := by omega
      refine w_t (np := 24) (l2 := [some (eJ (a0)), none, some (eJ (a2)), none, some (eJ (v4)), none, none, none, none, none]) (s2 := [eJ (v4)]) rfl rfl rfl ?_
      refine w_t (np := 25) (l2 := [some (eJ (a0)), none, some (eJ (a2)), none, some (eJ (v4)), none, none, none, none, none]) (s2 := [eJ (0), eJ (v4)]) rfl rfl rfl ?_
      obtain ⟨v15, e16, b17⟩ := h_lcmp (v4) (0)
      refine w_t (np := 26) (l2 := [some (eJ (a0)), none, some (eJ (a2)), none, some (eJ (v4)), none, none, none, none, none]) (s2 := [eI (v15)]) rfl (e16 _ _) rfl ?_
      refine b_ine (t1 := 39) (t2 := 29) rfl rfl rfl (ev_w_in (by omega) (by omega)) (fun g18 => ?_) (fun g18 => ?_)
      · refine w_t (np := 40) (l2 := [some (eJ (a0)), none, some (eJ (a2)), none, some (eJ (v4)), none, none, none, none, none]) (s2 := [eI (1)]) rfl rfl rfl ?_
        exact b_ri rfl rfl (K (1) (by decide))
      · have b19 : 0 ≤ v15 ∧ v15 ≤ 0 := by omega
        refine w_t (np := 30) (l2 := [some (eJ (a0)), none, some (eJ (a2)), none, some (eJ (v4)), none, none, none, none, none]) (s2 := [eJ (a2)]) rfl rfl rfl ?_
        refine w_t (np := 31) (l2 := [some (eJ (a0)), none, some (eJ (a2)), none, some (eJ (v4)), none, none, none, none, none]) (s2 := [eJ (0), eJ (a2)]) rfl rfl rfl ?_
        obtain ⟨v19, e20, b21⟩ := h_lcmp (a2) (0)
        refine w_t (np := 32) (l2 := [some (eJ (a0)), none, some (eJ (a2)), none, some (eJ (v4)), none, none, none, none, none]) (s2 := [eI (v19)]) rfl (e20 _ _) rfl ?_
        refine b_ine (t1 := 39) (t2 := 35) rfl rfl rfl (ev_w_in (by omega) (by omega)) (fun g22 => ?_) (fun g22 => ?_)
        · refine w_t (np := 40) (l2 := [some (eJ (a0)), none, some (eJ (a2)), none, some (eJ (v4)), none, none, none, none, none]) (s2 := [eI (1)]) rfl rfl rfl ?_
          exact b_ri rfl rfl (K (1) (by decide))
        · have b23 : 0 ≤ v19 ∧ v19 ≤ 0 := by omega
          refine w_t (np := 36) (l2 := [some (eJ (a0)), none, some (eJ (a2)), none, some (eJ (v4)), none, none, none, none, none]) (s2 := [eI (0)]) rfl rfl rfl ?_
          refine w_go (t1 := 40) rfl rfl ?_
          exact b_ri rfl rfl (K (0) (by decide))
def l_223 : List Nat := [13315, 13316, 13317, 13318]
theorem s_223 {L : Nat} {ρ : Nat → Int} {rc : eQ} {d : Nat} {f : eFr} {F : List eFr} {μ : eM} {g : Nat → Nat} {a0 : Nat} {a1 : Int} {a3 : Int} {a5 : Int} {a7 : Int} (hI : SI g μ) (gA0 : g a0 = 52) (bA1 : -9223372036854775808 ≤ a1 ∧ a1 ≤ 9223372036854775807) (bA3 : -9223372036854775808 ≤ a3 ∧ a3 ≤ 9223372036854775807) (bA5 : -9223372036854775808 ≤ a5 ∧ a5 ≤ 9223372036854775807) (bA7 : -9223372036854775808 ≤ a7 ∧ a7 ≤ 9223372036854775807) (K : ∀ (μ2 : eM), SI g μ2 → Fr l_223 0 0 g μ μ2 → ex_q (dt_fg L ρ) rc (d + 3, (f.1, f.2.1, f.2.2.1, f.2.2.2), F, μ2)) : ex_q (dt_fg L ρ) rc (d + 2, (223, 0, [some (eR a0), some (eJ (a1)), none, some (eJ (a3)), none, some (eJ (a5)), none, some (eJ (a7)), none, none, none, none, none, none, none, none, none, none, none, none, none, none, none, none, none], []), f :: F, μ) := by
  have F0 : Fr l_223 0 0 g μ μ := Fr.r
  refine w_t (np := 1) (l2 := [some (eR a0), some (eJ (a1)), none, some (eJ (a3)), none, some (eJ (a5)), none, some (eJ (a7)), none, none, none, none, none, none, none, none, none, none, none, none, none, none, none, none, none]) (s2 := [eR a0]) rfl (s_an rfl (pos_g hI gA0 (by decide))) rfl ?_
  refine w_cw (np := 4) (as := []) (l2 := [some (eR a0)]) (rest := []) rfl rfl rfl (Nat.ble_eq.mp rfl) rfl rfl rfl (hI.kd gA0 (by decide) (n := 69) rfl) rfl ?_
  refine s_221 hI gA0 ?_
  intro m1 I2 F3
  have F4 : Fr l_223 0 0 g μ m1 := F0.t F3 rfl
  show ex_q (dt_fg L ρ) rc (d + 2, (223, 4, [some (eR a0), some (eJ (a1)), none, some (eJ (a3)), none, some (eJ (a5)), none, some (eJ (a7)), none, none, none, none, none, none, none, none, none, none, none, none, none, none, none, none, none], []), f :: F, m1)
  refine w_t (np := 5) (l2 := [some (eR a0), some (eJ (a1)), none, some (eJ (a3)), none, some (eJ (a5)), none, some (eJ (a7)), none, none, none, none, none, none, none, none, none, none, none, none, none, none, none, none, none]) (s2 := [eR a0]) rfl (s_an rfl (pos_g I2 gA0 (by decide))) rfl ?_
  refine j_gj (np := 8) rfl rfl I2 gA0 (by decide) (n := 69) rfl rfl (lo := -9223372036854775808) (hi := 9223372036854775807) rfl ?_
  intro v5 e6 b7
  refine w_t (np := 10) (l2 := [some (eR a0), some (eJ (a1)), none, some (eJ (a3)), none, some (eJ (a5)), none, some (eJ (a7)), none, some (eJ (v5)), none, none, none, none, none, none, none, none, none, none, none, none, none, none, none]) (s2 := []) rfl rfl rfl ?_
  refine w_t (np := 11) (l2 := [some (eR a0), some (eJ (a1)), none, some (eJ (a3)), none, some (eJ (a5)), none, some (eJ (a7)), none, some (eJ (v5)), none, none, none, none, none, none, none, none, none, none, none, none, none, none, none]) (s2 := [eR a0]) rfl (s_an rfl (pos_g I2 gA0 (by decide))) rfl ?_
  refine j_gj (np := 14) rfl rfl I2 gA0 (by decide) (n := 69) rfl rfl (lo := -9223372036854775808) (hi := 9223372036854775807) rfl ?_
  intro v8 e9 b10
  refine w_t (np := 16) (l2 := [some (eR a0), some (eJ (a1)), none, some (eJ (a3)), none, some (eJ (a5)), none, some (eJ (a7)), none, some (eJ (v5)), none, some (eJ (v8)), none, none, none, none, none, none, none, none, none, none, none, none, none]) (s2 := []) rfl rfl rfl ?_
  refine w_t (np := 17) (l2 := [some (eR a0), some (eJ (a1)), none, some (eJ (a3)), none, some (eJ (a5)), none, some (eJ (a7)), none, some (eJ (v5)), none, some (eJ (v8)), none, none, none, none, none, none, none, none, none, none, none, none, none]) (s2 := [eR a0]) rfl (s_an rfl (pos_g I2 gA0 (by decide))) rfl ?_
  refine j_gj (np := 20) rfl rfl I2 gA0 (by decide) (n := 69) rfl rfl (lo := -9223372036854775808) (hi := 9223372036854775807) rfl ?_
  intro v11 e12 b13
  refine w_t (np := 22) (l2 := [some (eR a0), some (eJ (a1)), none, some (eJ (a3)), none, some (eJ (a5)), none, some (eJ (a7)), none, some (eJ (v5)), none, some (eJ (v8)), none, some (eJ (v11)), none, none, none, none, none, none, none, none, none, none, none]) (s2 := []) rfl rfl rfl ?_
  refine w_t (np := 23) (l2 := [some (eR a0), some (eJ (a1)), none, some (eJ (a3)), none, some (eJ (a5)), none, some (eJ (a7)), none, some (eJ (v5)), none, some (eJ (v8)), none, some (eJ (v11)), none, none, none, none, none, none, none, none, none, none, none]) (s2 := [eR a0]) rfl (s_an rfl (pos_g I2 gA0 (by decide))) rfl ?_
  refine j_gj (np := 26) rfl rfl I2 gA0 (by decide) (n := 69) rfl rfl (lo := -9223372036854775808) (hi := 9223372036854775807) rfl ?_
  intro v14 e15 b16
  refine w_t (np := 28) (l2 := [some (eR a0), some (eJ (a1)), none, some (eJ (a3)), none, some (eJ (a5)), none, some (eJ (a7)), none, some (eJ (v5)), none, some (eJ (v8)), none, some (eJ (v11)), none, some (eJ (v14)), none, none, none, none, none, none, none, none, none]) (s2 := []) rfl rfl rfl ?_
  refine w_t (np := 29) (l2 := [some (eR a0), some (eJ (a1)), none, some (eJ (a3)), none, some (eJ (a5)), none, some (eJ (a7)), none, some (eJ (v5)), none, some (eJ (v8)), none, some (eJ (v11)), none, some (eJ (v14)), none, none, none, none, none, none, none, none, none]) (s2 := [eR a0]) rfl (s_an rfl (pos_g I2 gA0 (by decide))) rfl ?_
  refine w_t (np := 30) (l2 := [some (eR a0), some (eJ (a1)), none, some (eJ (a3)), none, some (eJ (a5)), none, some (eJ (a7)), none, some (eJ (v5)), none, some (eJ (v8)), none, some (eJ (v11)), none, some (eJ (v14)), none, none, none, none, none, none, none, none, none]) (s2 := [eJ (a1), eR a0]) rfl rfl rfl ?_
  refine w_t (np := 31) (l2 := [some (eR a0), some (eJ (a1)), none, some (eJ (a3)), none, some (eJ (a5)), none, some (eJ (a7)), none, some (eJ (v5)), none, some (eJ (v8)), none, some (eJ (v11)), none, some (eJ (v14)), none, none, none, none, none, none, none, none, none]) (s2 := [eJ (a3), eJ (a1), eR a0]) rfl rfl rfl ?_
  refine w_t (np := 33) (l2 := [some (eR a0), some (eJ (a1)), none, some (eJ (a3)), none, some (eJ (a5)), none, some (eJ (a7)), none, some (eJ (v5)), none, some (eJ (v8)), none, some (eJ (v11)), none, some (eJ (v14)), none, none, none, none, none, none, none, none, none]) (s2 := [eJ (a5), eJ (a3), eJ (a1), eR a0]) rfl rfl rfl ?_
  refine w_t (np := 35) (l2 := [some (eR a0), some (eJ (a1)), none, some (eJ (a3)), none, some (eJ (a5)), none, some (eJ (a7)), none, some (eJ (v5)), none, some (eJ (v8)), none, some (eJ (v11)), none, some (eJ (v14)), none, none, none, none, none, none, none, none, none]) (s2 := [eJ (a7), eJ (a5), eJ (a3), eJ (a1), eR a0]) rfl rfl rfl ?_
  refine w_cw (np := 38) (as := [eJ (a1), eJ (a3), eJ (a5), eJ (a7)]) (l2 := [some (eR a0), some (eJ (a1)), none, some (eJ (a3)), none, some (eJ (a5)), none, some (eJ (a7)), none]) (rest := []) rfl rfl rfl (Nat.ble_eq.mp rfl) rfl rfl rfl (I2.kd gA0 (by decide) (n := 69) rfl) rfl ?_
  refine s_219 I2 gA0 bA1 bA3 bA5 bA7 ?_
  intro m17 I18 F19
  have F20 : Fr l_223 0 0 g μ m17 := F4.t F19 rfl
  show ex_q (dt_fg L ρ) rc (d + 2, (223, 38, [some (eR a0), some (eJ (a1)), none, some (eJ (a3)), none, some (eJ (a5)), none, some (eJ (a7)), none, some (eJ (v5)), none, some (eJ (v8)), none, some (eJ (v11)), none, some (eJ (v14)), none, none, none, none, none, none, none, none, none], []), f :: F, m17)
  refine w_t (np := 40) (l2 := [some (eR a0), some (eJ (a1)), none, some (eJ (a3)), none, some (eJ (a5)), none, some (eJ (a7)), none, some (eJ (v5)), none, some (eJ (v8)), none, some (eJ (v11)), none, some (eJ (v14)), none, none, none, none, none, none, none, none, none]) (s2 := [eJ (v5)]) rfl rfl rfl ?_
  refine w_t (np := 41) (l2 := [some (eR a0), some (eJ (a1)), none, some (eJ (a3)), none, some (eJ (a5)), none, some (eJ (a7)), none, some (eJ (v5)), none, some (eJ (v8)), none, some (eJ (v11)), none, some (eJ (v14)), none, none, none, none, none, none, none, none, none]) (s2 := [eR a0, eJ (v5)]) rfl (s_an rfl (pos_g I18 gA0 (by decide))) rfl ?_
  refine j_gj (np := 44) rfl rfl I18 gA0 (by decide) (n := 69) rfl rfl (lo := -9223372036854775808) (hi := 9223372036854775807) rfl ?_
  intro v21 e22 b23
  obtain ⟨v24, e25, b26⟩ : ∃ zz : Int, ev_W ((v5) * (v21)) = zz ∧ (-9223372036854775808 ≤ zz ∧ zz ≤ 9223372036854775807) := ⟨_, rfl, hW_bd _⟩
  refine w_t (np := 45) (l2 := [some (eR a0), some (eJ (a1)), none, some (eJ (a3)), none, some (eJ (a5)), none, some (eJ (a7)), none, some (eJ (v5)), none, some (eJ (v8)), none, some (eJ (v11)), none, some (eJ (v14)), none, none, none, none, none, none, none, none, none]) (s2 := [eJ (v24)]) rfl (b_lmul e25) rfl ?_
  refine w_t (np := 47) (l2 := [some (eR a0), some (eJ (a1)), none, some (eJ (a3)), none, some (eJ (a5)), none, some (eJ (a7)), none, some (eJ (v5)), none, some (eJ (v8)), none, some (eJ (v11)), none, some (eJ (v14)), none, some (eJ (v24)), none, none, none, none, none, none, none]) (s2 := []) rfl rfl rfl ?_
  refine w_t (np := 49) (l2 := [some (eR a0), some (eJ (a1)), none, some (eJ (a3)), none, some (eJ (a5)), none, some (eJ (a7)), none, some (eJ (v5)), none, some (eJ (v8)), none, some (eJ (v11)), none, some (eJ (v14)), none, some (eJ (v24)), none, none, none, none, none, none, none]) (s2 := [eJ (v5)]) rfl rfl rfl ?_
  refine w_t (np := 50) (l2 := [some (eR a0), some (eJ (a1)), none, some (eJ (a3)), none, some (eJ (a5)), none, some (eJ (a7)), none, some (eJ (v5)), none, some (eJ (v8)), none, some (eJ (v11)), none, some (eJ (v14)), none, some (eJ (v24)), none, none, none, none, none, none, none]) (s2 := [eR a0, eJ (v5)]) rfl (s_an rfl (pos_g I18 gA0 (by decide))) rfl ?_
  refine j_gj (np := 53) rfl rfl I18 gA0 (by decide) (n := 69) rfl rfl (lo := -9223372036854775808) (hi := 9223372036854775807) rfl ?_
  intro v27 e28 b29
  obtain ⟨v30, e31, b32⟩ : ∃ zz : Int, ev_W ((v5) * (v27)) = zz ∧ (-9223372036854775808 ≤ zz ∧ zz ≤ 9223372036854775807) := ⟨_, rfl, hW_bd _⟩
  refine w_t (np := 54) (l2 := [some (eR a0), some (eJ (a1)), none, some (eJ (a3)), none, some (eJ (a5)), none, some (eJ (a7)), none, some (eJ (v5)), none, some (eJ (v8)), none, some (eJ (v11)), none, some (eJ (v14)), none, some (eJ (v24)), none, none, none, none, none, none, none]) (s2 := [eJ (v30)]) rfl (b_lmul e31) rfl ?_
  refine w_t (np := 56) (l2 := [some (eR a0), some (eJ (a1)), none, some (eJ (a3)), none, some (eJ (a5)), none, some (eJ (a7)), none, some (eJ (v5)), none, some (eJ (v8)), none, some (eJ (v11)), none, some (eJ (v14)), none, some (eJ (v24)), none, some (eJ (v30)), none, none, none, none, none]) (s2 := []) rfl rfl rfl ?_
  refine w_t (np := 58) (l2 := [some (eR a0), some (eJ (a1)), none, some (eJ (a3)), none, some (eJ (a5)), none, some (eJ (a7)), none, some (eJ (v5)), none, some (eJ (v8)), none, some (eJ (v11)), none, some (eJ (v14)), none, some (eJ (v24)), none, some (eJ (v30)), none, none, none, none, none]) (s2 := [eJ (v5)]) rfl rfl rfl ?_
  refine w_t (np := 59) (l2 := [some (eR a0), some (eJ (a1)), none, some (eJ (a3)), none, some (eJ (a5)), none, some (eJ (a7)), none, some (eJ (v5)), none, some (eJ (v8)), none, some (eJ (v11)), none, some (eJ (v14)), none, some (eJ (v24)), none, some (eJ (v30)), none, none, none, none, none]) (s2 := [eR a0, eJ (v5)]) rfl (s_an rfl (pos_g I18 gA0 (by decide))) rfl ?_
  refine j_gj (np := 62) rfl rfl I18 gA0 (by decide) (n := 69) rfl rfl (lo := -9223372036854775808) (hi := 9223372036854775807) rfl ?_
  intro v33 e34 b35
  obtain ⟨v36, e37, b38⟩ : ∃ zz : Int, ev_W ((v5) * (v33)) = zz ∧ (-9223372036854775808 ≤ zz ∧ zz ≤ 9223372036854775807) := ⟨_, rfl, hW_bd _⟩
  refine w_t (np := 63) (l2 := [some (eR a0), some (eJ (a1)), none, some (eJ (a3)), none, some (eJ (a5)), none, some (eJ (a7)), none, some (eJ (v5)), none, some (eJ (v8)), none, some (eJ (v11)), none, some (eJ (v14)), none, some (eJ (v24)), none, some (eJ (v30)), none, none, none, none, none]) (s2 := [eJ (v36)]) rfl (b_lmul e37) rfl ?_
  refine w_t (np := 65) (l2 := [some (eR a0), some (eJ (a1)), none, some (eJ (a3)), none, some (eJ (a5)), none, some (eJ (a7)), none, some (eJ (v5)), none, some (eJ (v8)), none, some (eJ (v11)), none, some (eJ (v14)), none, some (eJ (v24)), none, some (eJ (v30)), none, some (eJ (v36)), none, none, none]) (s2 := []) rfl rfl rfl ?_
  refine w_t (np := 67) (l2 := [some (eR a0), some (eJ (a1)), none, some (eJ (a3)), none, some (eJ (a5)), none, some (eJ (a7)), none, some (eJ (v5)), none, some (eJ (v8)), none, some (eJ (v11)), none, some (eJ (v14)), none, some (eJ (v24)), none, some (eJ (v30)), none, some (eJ (v36)), none, none, none]) (s2 := [eJ (v5)]) rfl rfl rfl ?_
  refine w_t (np := 68) (l2 := [some (eR a0), some (eJ (a1)), none, some (eJ (a3)), none, some (eJ (a5)), none, some (eJ (a7)), none, some (eJ (v5)), none, some (eJ (v8)), none, some (eJ (v11)), none, some (eJ (v14)), none, some (eJ (v24)), none, some (eJ (v30)), none, some (eJ (v36)), none, none, none]) (s2 := [eR a0, eJ (v5)]) rfl (s_an rfl (pos_g I18 gA0 (by decide))) rfl ?_
  refine j_gj (np := 71) rfl rfl I18 gA0 (by decide) (n := 69) rfl rfl (lo := -9223372036854775808) (hi := 9223372036854775807) rfl ?_
  intro v39 e40 b41
  obtain ⟨v42, e43, b44⟩ : ∃ zz : Int, ev_W ((v5) * (v39)) = zz ∧ (-9223372036854775808 ≤ zz ∧ zz ≤ 9223372036854775807) := ⟨_, rfl, hW_bd _⟩
  refine w_t (np := 72) (l2 := [some (eR a0), some (eJ (a1)), none, some (eJ (a3)), none, some (eJ (a5)), none, some (eJ (a7)), none, some (eJ (v5)), none, some (eJ (v8)), none, some (eJ (v11)), none, some (eJ (v14)), none, some (eJ (v24)), none, some (eJ (v30)), none, some (eJ (v36)), none, none, none]) (s2 := [eJ (v42)]) rfl (b_lmul e43) rfl ?_
  refine w_t (np := 74) (l2 := [some (eR a0), some (eJ (a1)), none, some (eJ (a3)), none, some (eJ (a5)), none, some (eJ (a7)), none, some (eJ (v5)), none, some (eJ (v8)), none, some (eJ (v11)), none, some (eJ (v14)), none, some (eJ (v24)), none, some (eJ (v30)), none, some (eJ (v36)), none, some (eJ (v42)), none]) (s2 := []) rfl rfl rfl ?_
  refine w_t (np := 75) (l2 := [some (eR a0), some (eJ (a1)), none, some (eJ (a3)), none, some (eJ (a5)), none, some (eJ (a7)), none, some (eJ (v5)), none, some (eJ (v8)), none, some (eJ (v11)), none, some (eJ (v14)), none, some (eJ (v24)), none, some (eJ (v30)), none, some (eJ (v36)), none, some (eJ (v42)), none]) (s2 := [eR a0]) rfl (s_an rfl (pos_g I18 gA0 (by decide))) rfl ?_
  refine w_cw (np := 78) (as := []) (l2 := [some (eR a0)]) (rest := []) rfl rfl rfl (Nat.ble_eq.mp rfl) rfl rfl rfl (I18.kd gA0 (by decide) (n := 69) rfl) rfl ?_
  refine s_220 I18 gA0 ?_
  intro m45 I46 F47
  have F48 : Fr l_223 0 0 g μ m45 := F20.t F47 rfl
  show ex_q (dt_fg L ρ) rc (d + 2, (223, 78, [some (eR a0), some (eJ (a1)), none, some (eJ (a3)), none, some (eJ (a5)), none, some (eJ (a7)), none, some (eJ (v5)), none, some (eJ (v8)), none, some (eJ (v11)), none, some (eJ (v14)), none, some (eJ (v24)), none, some (eJ (v30)), none, some (eJ (v36)), none, some (eJ (v42)), none], []), f :: F, m45)
  refine w_t (np := 80) (l2 := [some (eR a0), some (eJ (a1)), none, some (eJ (a3)), none, some (eJ (a5)), none, some (eJ (a7)), none, some (eJ (v5)), none, some (eJ (v8)), none, some (eJ (v11)), none, some (eJ (v14)), none, some (eJ (v24)), none, some (eJ (v30)), none, some (eJ (v36)), none, some (eJ (v42)), none]) (s2 := [eJ (v24)]) rfl rfl rfl ?_
  refine w_t (np := 82) (l2 := [some (eR a0), some (eJ (a1)), none, some (eJ (a3)), none, some (eJ (a5)), none, some (eJ (a7)), none, some (eJ (v5)), none, some (eJ (v8)), none, some (eJ (v11)), none, some (eJ (v14)), none, some (eJ (v24)), none, some (eJ (v30)), none, some (eJ (v36)), none, some (eJ (v42)), none]) (s2 := [eJ (v8), eJ (v24)]) rfl rfl rfl ?_
  refine w_t (np := 83) (l2 := [some (eR a0), some (eJ (a1)), none, some (eJ (a3)), none, some (eJ (a5)), none, some (eJ (a7)), none, some (eJ (v5)), none, some (eJ (v8)), none, some (eJ (v11)), none, some (eJ (v14)), none, some (eJ (v24)), none, some (eJ (v30)), none, some (eJ (v36)), none, some (eJ (v42)), none]) (s2 := [eR a0, eJ (v8), eJ (v24)]) rfl (s_an rfl (pos_g I46 gA0 (by decide))) rfl ?_
  refine j_gj (np := 86) rfl rfl I46 gA0 (by decide) (n := 69) rfl rfl (lo := -9223372036854775808) (hi := 9223372036854775807) rfl ?_
  intro v49 e50 b51
  obtain ⟨v52, e53, b54⟩ : ∃ zz : Int, ev_W ((v8) * (v49)) = zz ∧ (-9223372036854775808 ≤ zz ∧ zz ≤ 9223372036854775807) := ⟨_, rfl, hW_bd _⟩
  refine w_t (np := 87) (l2 := [some (eR a0), some (eJ (a1)), none, some (eJ (a3)), none, some (eJ (a5)), none, some (eJ (a7)), none, some (eJ (v5)), none, some (eJ (v8)), none, some (eJ (v11)), none, some (eJ (v14)), none, some (eJ (v24)), none, some (eJ (v30)), none, some (eJ (v36)), none, some (eJ (v42)), none]) (s2 := [eJ (v52), eJ (v24)]) rfl (b_lmul e53) rfl ?_
  obtain ⟨v55, e56, b57⟩ : ∃ zz : Int, ev_W ((v24) + (v52)) = zz ∧ (-9223372036854775808 ≤ zz ∧ zz ≤ 9223372036854775807) := ⟨_, rfl, hW_bd _⟩
  refine w_t (np := 88) (l2 := [some (eR a0), some (eJ (a1)), none, some (eJ (a3)), none, some (eJ (a5)), none, some (eJ (a7)), none, some (eJ (v5)), none, some (eJ (v8)), none, some (eJ (v11)), none, some (eJ (v14)), none, some (eJ (v24)), none, some (eJ (v30)), none, some (eJ (v36)), none, some (eJ (v42)), none]) (s2 := [eJ (v55)]) rfl (b_ladd e56) rfl ?_
  refine w_t (np := 90) (l2 := [some (eR a0), some (eJ (a1)), none, some (eJ (a3)), none, some (eJ (a5)), none, some (eJ (a7)), none, some (eJ (v5)), none, some (eJ (v8)), none, some (eJ (v11)), none, some (eJ (v14)), none, some (eJ (v55)), none, some (eJ (v30)), none, some (eJ (v36)), none, some (eJ (v42)), none]) (s2 := []) rfl rfl rfl ?_
  refine w_t (np := 92) (l2 := [some (eR a0), some (eJ (a1)), none, some (eJ (a3)), none, some (eJ (a5)), none, some (eJ (a7)), none, some (eJ (v5)), none, some (eJ (v8)), none, some (eJ (v11)), none, some (eJ (v14)), none, some (eJ (v55)), none, some (eJ (v30)), none, some (eJ (v36)), none, some (eJ (v42)), none]) (s2 := [eJ (v30)]) rfl rfl rfl ?_
  refine w_t (np := 94) (l2 := [some (eR a0), some (eJ (a1)), none, some (eJ (a3)), none, some (eJ (a5)), none, some (eJ (a7)), none, some (eJ (v5)), none, some (eJ (v8)), none, some (eJ (v11)), none, some (eJ (v14)), none, some (eJ (v55)), none, some (eJ (v30)), none, some (eJ (v36)), none, some (eJ (v42)), none]) (s2 := [eJ (v8), eJ (v30)]) rfl rfl rfl ?_
  refine w_t (np := 95) (l2 := [some (eR a0), some (eJ (a1)), none, some (eJ (a3)), none, some (eJ (a5)), none, some (eJ (a7)), none, some (eJ (v5)), none, some (eJ (v8)), none, some (eJ (v11)), none, some (eJ (v14)), none, some (eJ (v55)), none, some (eJ (v30)), none, some (eJ (v36)), none, some (eJ (v42)), none]) (s2 := [eR a0, eJ (v8), eJ (v30)]) rfl (s_an rfl (pos_g I46 gA0 (by decide))) rfl ?_
  refine j_gj (np := 98) rfl rfl I46 gA0 (by decide) (n := 69) rfl rfl (lo := -9223372036854775808) (hi := 9223372036854775807) rfl ?_
  intro v58 e59 b60
  obtain ⟨v61, e62, b63⟩ : ∃ zz : Int, ev_W ((v8) * (v58)) = zz ∧ (-9223372036854775808 ≤ zz ∧ zz ≤ 9223372036854775807) := ⟨_, rfl, hW_bd _⟩
  refine w_t (np := 99) (l2 := [some (eR a0), some (eJ (a1)), none, some (eJ (a3)), none, some (eJ (a5)), none, some (eJ (a7)), none, some (eJ (v5)), none, some (eJ (v8)), none, some (eJ (v11)), none, some (eJ (v14)), none, some (eJ (v55)), none, some (eJ (v30)), none, some (eJ (v36)), none, some (eJ (v42)), none]) (s2 := [eJ (v61), eJ (v30)]) rfl (b_lmul e62) rfl ?_
  obtain ⟨v64, e65, b66⟩ : ∃ zz : Int, ev_W ((v30) + (v61)) = zz ∧ (-9223372036854775808 ≤ zz ∧ zz ≤ 9223372036854775807) := ⟨_, rfl, hW_bd _⟩
  refine w_t (np := 100) (l2 := [some (eR a0), some (eJ (a1)), none, some (eJ (a3)), none, some (eJ (a5)), none, some (eJ (a7)), none, some (eJ (v5)), none, some (eJ (v8)), none, some (eJ (v11)), none, some (eJ (v14)), none, some (eJ (v55)), none, some (eJ (v30)), none, some (eJ (v36)), none, some (eJ (v42)), none]) (s2 := [eJ (v64)]) rfl (b_ladd e65) rfl ?_
  refine w_t (np := 102) (l2 := [some (eR a0), some (eJ (a1)), none, some (eJ (a3)), none, some (eJ (a5)), none, some (eJ (a7)), none, some (eJ (v5)), none, some (eJ (v8)), none, some (eJ (v11)), none, some (eJ (v14)), none, some (eJ (v55)), none, some (eJ (v64)), none, some (eJ (v36)), none, some (eJ (v42)), none]) (s2 := []) rfl rfl rfl ?_
  refine w_t (np := 104) (l2 := [some (eR a0), some (eJ (a1)), none, some (eJ (a3)), none, some (eJ (a5)), none, some (eJ (a7)), none, some (eJ (v5)), none, some (eJ (v8)), none, some (eJ (v11)), none, some (eJ (v14)), none, some (eJ (v55)), none, some (eJ (v64)), none, some (eJ (v36)), none, some (eJ (v42)), none]) (s2 := [eJ (v36)]) rfl rfl rfl ?_
  refine w_t (np := 106) (l2 := [some (eR a0), some (eJ (a1)), none, some (eJ (a3)), none, some (eJ (a5)), none, some (eJ (a7)), none, some (eJ (v5)), none, some (eJ (v8)), none, some (eJ (v11)), none, some (eJ (v14)), none, some (eJ (v55)), none, some (eJ (v64)), none, some (eJ (v36)), none, some (eJ (v42)), none]) (s2 := [eJ (v8), eJ (v36)]) rfl rfl rfl ?_
  refine w_t (np := 107) (l2 := [some (eR a0), some (eJ (a1)), none, some (eJ (a3)), none, some (eJ (a5)), none, some (eJ (a7)), none, some (eJ (v5)), none, some (eJ (v8)), none, some (eJ (v11)), none, some (eJ (v14)), none, some (eJ (v55)), none, some (eJ (v64)), none, some (eJ (v36)), none, some (eJ (v42)), none]) (s2 := [eR a0, eJ (v8), eJ (v36)]) rfl (s_an rfl (pos_g I46 gA0 (by decide))) rfl ?_
  refine j_gj (np := 110) rfl rfl I46 gA0 (by decide) (n := 69) rfl rfl (lo := -9223372036854775808) (hi := 9223372036854775807) rfl ?_
  intro v67 e68 b69
  obtain ⟨v70, e71, b72⟩ : ∃ zz : Int, ev_W ((v8) * (v67)) = zz ∧ (-9223372036854775808 ≤ zz ∧ zz ≤ 9223372036854775807) := ⟨_, rfl, hW_bd _⟩
  refine w_t (np := 111) (l2 := [some (eR a0), some (eJ (a1)), none, some (eJ (a3)), none, some (eJ (a5)), none, some (eJ (a7)), none, some (eJ (v5)), none, some (eJ (v8)), none, some (eJ (v11)), none, some (eJ (v14)), none, some (eJ (v55)), none, some (eJ (v64)), none, some (eJ (v36)), none, some (eJ (v42)), none]) (s2 := [eJ (v70), eJ (v36)]) rfl (b_lmul e71) rfl ?_
  obtain ⟨v73, e74, b75⟩ : ∃ zz : Int, ev_W ((v36) + (v70)) = zz ∧ (-9223372036854775808 ≤ zz ∧ zz ≤ 9223372036854775807) := ⟨_, rfl, hW_bd _⟩
  refine w_t (np := 112) (l2 := [some (eR a0), some (eJ (a1)), none, some (eJ (a3)), none, some (eJ (a5)), none, some (eJ (a7)), none, some (eJ (v5)), none, some (eJ (v8)), none, some (eJ (v11)), none, some (eJ (v14)), none, some (eJ (v55)), none, some (eJ (v64)), none, some (eJ (v36)), none, some (eJ (v42)), none]) (s2 := [eJ (v73)]) rfl (b_ladd e74) rfl ?_
  refine w_t (np := 114) (l2 := [some (eR a0), some (eJ (a1)), none, some (eJ (a3)), none, some (eJ (a5)), none, some (eJ (a7)), none, some (eJ (v5)), none, some (eJ (v8)), none, some (eJ (v11)), none, some (eJ (v14)), none, some (eJ (v55)), none, some (eJ (v64)), none, some (eJ (v73)), none, some (eJ (v42)), none]) (s2 := []) rfl rfl rfl ?_
  refine w_t (np := 116) (l2 := [some (eR a0), some (eJ (a1)), none, some (eJ (a3)), none, some (eJ (a5)), none, some (eJ (a7)), none, some (eJ (v5)), none, some (eJ (v8)), none, some (eJ (v11)), none, some (eJ (v14)), none, some (eJ (v55)), none, some (eJ (v64)), none, some (eJ (v73)), none, some (eJ (v42)), none]) (s2 := [eJ (v42)]) rfl rfl rfl ?_
  refine w_t (np := 118) (l2 := [some (eR a0), some (eJ (a1)), none, some (eJ (a3)), none, some (eJ (a5)), none, some (eJ (a7)), none, some (eJ (v5)), none, some (eJ (v8)), none, some (eJ (v11)), none, some (eJ (v14)), none, some (eJ (v55)), none, some (eJ (v64)), none, some (eJ (v73)), none, some (eJ (v42)), none]) (s2 := [eJ (v8), eJ (v42)]) rfl rfl rfl ?_
  refine w_t (np := 119) (l2 := [some (eR a0), some (eJ (a1)), none, some (eJ (a3)), none, some (eJ (a5)), none, some (eJ (a7)), none, some (eJ (v5)), none, some (eJ (v8)), none, some (eJ (v11)), none, some (eJ (v14)), none, some (eJ (v55)), none, some (eJ (v64)), none, some (eJ (v73)), none, some (eJ (v42)), none]) (s2 := [eR a0, eJ (v8), eJ (v42)]) rfl (s_an rfl (pos_g I46 gA0 (by decide))) rfl ?_
  refine j_gj (np := 122) rfl rfl I46 gA0 (by decide) (n := 69) rfl rfl (lo := -9223372036854775808) (hi := 9223372036854775807) rfl ?_
  intro v76 e77 b78
  obtain ⟨v79, e80, b81⟩ : ∃ zz : Int, ev_W ((v8) * (v76)) = zz ∧ (-9223372036854775808 ≤ zz ∧ zz ≤ 9223372036854775807) := ⟨_, rfl, hW_bd _⟩
  refine w_t (np := 123) (l2 := [some (eR a0), some (eJ (a1)), none, some (eJ (a3)), none, some (eJ (a5)), none, some (eJ (a7)), none, some (eJ (v5)), none, some (eJ (v8)), none, some (eJ (v11)), none, some (eJ (v14)), none, some (eJ (v55)), none, some (eJ (v64)), none, some (eJ (v73)), none, some (eJ (v42)), none]) (s2 := [eJ (v79), eJ (v42)]) rfl (b_lmul e80) rfl ?_
  obtain ⟨v82, e83, b84⟩ : ∃ zz : Int, ev_W ((v42) + (v79)) = zz ∧ (-9223372036854775808 ≤ zz ∧ zz ≤ 9223372036854775807) := ⟨_, rfl, hW_bd _⟩
  refine w_t (np := 124) (l2 := [some (eR a0), some (eJ (a1)), none, some (eJ (a3)), none, some (eJ (a5)), none, some (eJ (a7)), none, some (eJ (v5)), none, some (eJ (v8)), none, some (eJ (v11)), none, some (eJ (v14)), none, some (eJ (v55)), none, some (eJ (v64)), none, some (eJ (v73)), none, some (eJ (v42)), none]) (s2 := [eJ (v82)]) rfl (b_ladd e83) rfl ?_
  refine w_t (np := 126) (l2 := [some (eR a0), some (eJ (a1)), none, some (eJ (a3)), none, some (eJ (a5)), none, some (eJ (a7)), none, some (eJ (v5)), none, some (eJ (v8)), none, some (eJ (v11)), none, some (eJ (v14)), none, some (eJ (v55)), none, some (eJ (v64)), none, some (eJ (v73)), none, some (eJ (v82)), none]) (s2 := []) rfl rfl rfl ?_
  refine w_t (np := 127) (l2 := [some (eR a0), some (eJ (a1)), none, some (eJ (a3)), none, some (eJ (a5)), none, some (eJ (a7)), none, some (eJ (v5)), none, some (eJ (v8)), none, some (eJ (v11)), none, some (eJ (v14)), none, some (eJ (v55)), none, some (eJ (v64)), none, some (eJ (v73)), none, some (eJ (v82)), none]) (s2 := [eR a0]) rfl (s_an rfl (pos_g I46 gA0 (by decide))) rfl ?_
  refine w_cw (np := 130) (as := []) (l2 := [some (eR a0)]) (rest := []) rfl rfl rfl (Nat.ble_eq.mp rfl) rfl rfl rfl (I46.kd gA0 (by decide) (n := 69) rfl) rfl ?_
  refine s_220 I46 gA0 ?_
  intro m85 I86 F87
  have F88 : Fr l_223 0 0 g μ m85 := F48.t F87 rfl
  show ex_q (dt_fg L ρ) rc (d + 2, (223, 130, [some (eR a0), some (eJ (a1)), none, some (eJ (a3)), none, some (eJ (a5)), none, some (eJ (a7)), none, some (eJ (v5)), none, some (eJ (v8)), none, some (eJ (v11)), none, some (eJ (v14)), none, some (eJ (v55)), none, some (eJ (v64)), none, some (eJ (v73)), none, some (eJ (v82)), none], []), f :: F, m85)
  refine w_t (np := 132) (l2 := [some (eR a0), some (eJ (a1)), none, some (eJ (a3)), none, some (eJ (a5)), none, some (eJ (a7)), none, some (eJ (v5)), none, some (eJ (v8)), none, some (eJ (v11)), none, some (eJ (v14)), none, some (eJ (v55)), none, some (eJ (v64)), none, some (eJ (v73)), none, some (eJ (v82)), none]) (s2 := [eJ (v55)]) rfl rfl rfl ?_
  refine w_t (np := 134) (l2 := [some (eR a0), some (eJ (a1)), none, some (eJ (a3)), none, some (eJ (a5)), none, some (eJ (a7)), none, some (eJ (v5)), none, some (eJ (v8)), none, some (eJ (v11)), none, some (eJ (v14)), none, some (eJ (v55)), none, some (eJ (v64)), none, some (eJ (v73)), none, some (eJ (v82)), none]) (s2 := [eJ (v11), eJ (v55)]) rfl rfl rfl ?_
  refine w_t (np := 135) (l2 := [some (eR a0), some (eJ (a1)), none, some (eJ (a3)), none, some (eJ (a5)), none, some (eJ (a7)), none, some (eJ (v5)), none, some (eJ (v8)), none, some (eJ (v11)), none, some (eJ (v14)), none, some (eJ (v55)), none, some (eJ (v64)), none, some (eJ (v73)), none, some (eJ (v82)), none]) (s2 := [eR a0, eJ (v11), eJ (v55)]) rfl (s_an rfl (pos_g I86 gA0 (by decide))) rfl ?_
  refine j_gj (np := 138) rfl rfl I86 gA0 (by decide) (n := 69) rfl rfl (lo := -9223372036854775808) (hi := 9223372036854775807) rfl ?_
  intro v89 e90 b91
  obtain ⟨v92, e93, b94⟩ : ∃ zz : Int, ev_W ((v11) * (v89)) = zz ∧ (-9223372036854775808 ≤ zz ∧ zz ≤ 9223372036854775807) := ⟨_, rfl, hW_bd _⟩
  refine w_t (np := 139) (l2 := [some (eR a0), some (eJ (a1)), none, some (eJ (a3)), none, some (eJ (a5)), none, some (eJ (a7)), none, some (eJ (v5)), none, some (eJ (v8)), none, some (eJ (v11)), none, some (eJ (v14)), none, some (eJ (v55)), none, some (eJ (v64)), none, some (eJ (v73)), none, some (eJ (v82)), none]) (s2 := [eJ (v92), eJ (v55)]) rfl (b_lmul e93) rfl ?_
  obtain ⟨v95, e96, b97⟩ : ∃ zz : Int, ev_W ((v55) + (v92)) = zz ∧ (-9223372036854775808 ≤ zz ∧ zz ≤ 9223372036854775807) := ⟨_, rfl, hW_bd _⟩
  refine w_t (np := 140) (l2 := [some (eR a0), some (eJ (a1)), none, some (eJ (a3)), none, some (eJ (a5)), none, some (eJ (a7)), none, some (eJ (v5)), none, some (eJ (v8)), none, some (eJ (v11)), none, some (eJ (v14)), none, some (eJ (v55)), none, some (eJ (v64)), none, some (eJ (v73)), none, some (eJ (v82)), none]) (s2 := [eJ (v95)]) rfl (b_ladd e96) rfl ?_
  refine w_t (np := 142) (l2 := [some (eR a0), some (eJ (a1)), none, some (eJ (a3)), none, some (eJ (a5)), none, some (eJ (a7)), none, some (eJ (v5)), none, some (eJ (v8)), none, some (eJ (v11)), none, some (eJ (v14)), none, some (eJ (v95)), none, some (eJ (v64)), none, some (eJ (v73)), none, some (eJ (v82)), none]) (s2 := []) rfl rfl rfl ?_
  refine w_t (np := 144) (l2 := [some (eR a0), some (eJ (a1)), none, some (eJ (a3)), none, some (eJ (a5)), none, some (eJ (a7)), none, some (eJ (v5)), none, some (eJ (v8)), none, some (eJ (v11)), none, some (eJ (v14)), none, some (eJ (v95)), none, some (eJ (v64)), none, some (eJ (v73)), none, some (eJ (v82)), none]) (s2 := [eJ (v64)]) rfl rfl rfl ?_
  refine w_t (np := 146) (l2 := [some (eR a0), some (eJ (a1)), none, some (eJ (a3)), none, some (eJ (a5)), none, some (eJ (a7)), none, some (eJ (v5)), none, some (eJ (v8)), none, some (eJ (v11)), none, some (eJ (v14)), none, some (eJ (v95)), none, some (eJ (v64)), none, some (eJ (v73)), none, some (eJ (v82)), none]) (s2 := [eJ (v11), eJ (v64)]) rfl rfl rfl ?_
  refine w_t (np := 147) (l2 := [some (eR a0), some (eJ (a1)), none, some (eJ (a3)), none, some (eJ (a5)), none, some (eJ (a7)), none, some (eJ (v5)), none, some (eJ (v8)), none, some (eJ (v11)), none, some (eJ (v14)), none, some (eJ (v95)), none, some (eJ (v64)), none, some (eJ (v73)), none, some (eJ (v82)), none]) (s2 := [eR a0, eJ (v11), eJ (v64)]) rfl (s_an rfl (pos_g I86 gA0 (by decide))) rfl ?_
  refine j_gj (np := 150) rfl rfl I86 gA0 (by decide) (n := 69) rfl rfl (lo := -9223372036854775808) (hi := 9223372036854775807) rfl ?_
  intro v98 e99 b100
  obtain ⟨v101, e102, b103⟩ : ∃ zz : Int, ev_W ((v11) * (v98)) = zz ∧ (-9223372036854775808 ≤ zz ∧ zz ≤ 9223372036854775807) := ⟨_, rfl, hW_bd _⟩
  refine w_t (np := 151) (l2 := [some (eR a0), some (eJ (a1)), none, some (eJ (a3)), none, some (eJ (a5)), none, some (eJ (a7)), none, some (eJ (v5)), none, some (eJ (v8)), none, some (eJ (v11)), none, some (eJ (v14)), none, some (eJ (v95)), none, some (eJ (v64)), none, some (eJ (v73)), none, some (eJ (v82)), none]) (s2 := [eJ (v101), eJ (v64)]) rfl (b_lmul e102) rfl ?_
  obtain ⟨v104, e105, b106⟩ : ∃ zz : Int, ev_W ((v64) + (v101)) = zz ∧ (-9223372036854775808 ≤ zz ∧ zz ≤ 9223372036854775807) := ⟨_, rfl, hW_bd _⟩
  refine w_t (np := 152) (l2 := [some (eR a0), some (eJ (a1)), none, some (eJ (a3)), none, some (eJ (a5)), none, some (eJ (a7)), none, some (eJ (v5)), none, some (eJ (v8)), none, some (eJ (v11)), none, some (eJ (v14)), none, some (eJ (v95)), none, some (eJ (v64)), none, some (eJ (v73)), none, some (eJ (v82)), none]) (s2 := [eJ (v104)]) rfl (b_ladd e105) rfl ?_
  refine w_t (np := 154) (l2 := [some (eR a0), some (eJ (a1)), none, some (eJ (a3)), none, some (eJ (a5)), none, some (eJ (a7)), none, some (eJ (v5)), none, some (eJ (v8)), none, some (eJ (v11)), none, some (eJ (v14)), none, some (eJ (v95)), none, some (eJ (v104)), none, some (eJ (v73)), none, some (eJ (v82)), none]) (s2 := []) rfl rfl rfl ?_
  refine w_t (np := 156) (l2 := [some (eR a0), some (eJ (a1)), none, some (eJ (a3)), none, some (eJ (a5)), none, some (eJ (a7)), none, some (eJ (v5)), none, some (eJ (v8)), none, some (eJ (v11)), none, some (eJ (v14)), none, some (eJ (v95)), none, some (eJ (v104)), none, some (eJ (v73)), none, some (eJ (v82)), none]) (s2 := [eJ (v73)]) rfl rfl rfl ?_
  refine w_t (np := 158) (l2 := [some (eR a0), some (eJ (a1)), none, some (eJ (a3)), none, some (eJ (a5)), none, some (eJ (a7)), none, some (eJ (v5)), none, some (eJ (v8)), none, some (eJ (v11)), none, some (eJ (v14)), none, some (eJ (v95)), none, some (eJ (v104)), none, some (eJ (v73)), none, some (eJ (v82)), none]) (s2 := [eJ (v11), eJ (v73)]) rfl rfl rfl ?_
  refine w_t (np := 159) (l2 := [some (eR a0), some (eJ (a1)), none, some (eJ (a3)), none, some (eJ (a5)), none, some (eJ (a7)), none, some (eJ (v5)), none, some (eJ (v8)), none, some (eJ (v11)), none, some (eJ (v14)), none, some (eJ (v95)), none, some (eJ (v104)), none, some (eJ (v73)), none, some (eJ (v82)), none]) (s2 := [eR a0, eJ (v11), eJ (v73)]) rfl (s_an rfl (pos_g I86 gA0 (by decide))) rfl ?_
  refine j_gj (np := 162) rfl rfl I86 gA0 (by decide) (n := 69) rfl rfl (lo := -9223372036854775808) (hi := 9223372036854775807) rfl ?_
  intro v107 e108 b109
  obtain ⟨v110, e111, b112⟩ : ∃ zz : Int, ev_W ((v11) * (v107)) = zz ∧ (-9223372036854775808 ≤ zz ∧ zz ≤ 9223372036854775807) := ⟨_, rfl, hW_bd _⟩
  refine w_t (np := 163) (l2 := [some (eR a0), some (eJ (a1)), none, some (eJ (a3)), none, some (eJ (a5)), none, some (eJ (a7)), none, some (eJ (v5)), none, some (eJ (v8)), none, some (eJ (v11)), none, some (eJ (v14)), none, some (eJ (v95)), none, some (eJ (v104)), none, some (eJ (v73)), none, some (eJ (v82)), none]) (s2 := [eJ (v110), eJ (v73)]) rfl (b_lmul e111) rfl ?_
  obtain ⟨v113, e114, b115⟩ : ∃ zz : Int, ev_W ((v73) + (v110)) = zz ∧ (-9223372036854775808 ≤ zz ∧ zz ≤ 9223372036854775807) := ⟨_, rfl, hW_bd _⟩
  refine w_t (np := 164) (l2 := [some (eR a0), some (eJ (a1)), none, some (eJ (a3)), none, some (eJ (a5)), none, some (eJ (a7)), none, some (eJ (v5)), none, some (eJ (v8)), none, some (eJ (v11)), none, some (eJ (v14)), none, some (eJ (v95)), none, some (eJ (v104)), none, some (eJ (v73)), none, some (eJ (v82)), none]) (s2 := [eJ (v113)]) rfl (b_ladd e114) rfl ?_
  refine w_t (np := 166) (l2 := [some (eR a0), some (eJ (a1)), none, some (eJ (a3)), none, some (eJ (a5)), none, some (eJ (a7)), none, some (eJ (v5)), none, some (eJ (v8)), none, some (eJ (v11)), none, some (eJ (v14)), none, some (eJ (v95)), none, some (eJ (v104)), none, some (eJ (v113)), none, some (eJ (v82)), none]) (s2 := []) rfl rfl rfl ?_
  refine w_t (np := 168) (l2 := [some (eR a0), some (eJ (a1)), none, some (eJ (a3)), none, some (eJ (a5)), none, some (eJ (a7)), none, some (eJ (v5)), none, some (eJ (v8)), none, some (eJ (v11)), none, some (eJ (v14)), none, some (eJ (v95)), none, some (eJ (v104)), none, some (eJ (v113)), none, some (eJ (v82)), none]) (s2 := [eJ (v82)]) rfl rfl rfl ?_
  refine w_t (np := 170) (l2 := [some (eR a0), some (eJ (a1)), none, some (eJ (a3)), none, some (eJ (a5)), none, some (eJ (a7)), none, some (eJ (v5)), none, some (eJ (v8)), none, some (eJ (v11)), none, some (eJ (v14)), none, some (eJ (v95)), none, some (eJ (v104)), none, some (eJ (v113)), none, some (eJ (v82)), none]) (s2 := [eJ (v11), eJ (v82)]) rfl rfl rfl ?_
  refine w_t (np := 171) (l2 := [some (eR a0), some (eJ (a1)), none, some (eJ (a3)), none, some (eJ (a5)), none, some (eJ (a7)), none, some (eJ (v5)), none, some (eJ (v8)), none, some (eJ (v11)), none, some (eJ (v14)), none, some (eJ (v95)), none, some (eJ (v104)), none, some (eJ (v113)), none, some (eJ (v82)), none]) (s2 := [eR a0, eJ (v11), eJ (v82)]) rfl (s_an rfl (pos_g I86 gA0 (by decide))) rfl ?_
  refine j_gj (np := 174) rfl rfl I86 gA0 (by decide) (n := 69) rfl rfl (lo := -9223372036854775808) (hi := 9223372036854775807) rfl ?_
  intro v116 e117 b118
  obtain ⟨v119, e120, b121⟩ : ∃ zz : Int, ev_W ((v11) * (v116)) = zz ∧ (-9223372036854775808 ≤ zz ∧ zz ≤ 9223372036854775807) := ⟨_, rfl, hW_bd _⟩
  refine w_t (np := 175) (l2 := [some (eR a0), some (eJ (a1)), none, some (eJ (a3)), none, some (eJ (a5)), none, some (eJ (a7)), none, some (eJ (v5)), none, some (eJ (v8)), none, some (eJ (v11)), none, some (eJ (v14)), none, some (eJ (v95)), none, some (eJ (v104)), none, some (eJ (v113)), none, some (eJ (v82)), none]) (s2 := [eJ (v119), eJ (v82)]) rfl (b_lmul e120) rfl ?_
  obtain ⟨v122, e123, b124⟩ : ∃ zz : Int, ev_W ((v82) + (v119)) = zz ∧ (-9223372036854775808 ≤ zz ∧ zz ≤ 9223372036854775807) := ⟨_, rfl, hW_bd _⟩
  refine w_t (np := 176) (l2 := [some (eR a0), some (eJ (a1)), none, some (eJ (a3)), none, some (eJ (a5)), none, some (eJ (a7)), none, some (eJ (v5)), none, some (eJ (v8)), none, some (eJ (v11)), none, some (eJ (v14)), none, some (eJ (v95)), none, some (eJ (v104)), none, some (eJ (v113)), none, some (eJ (v82)), none]) (s2 := [eJ (v122)]) rfl (b_ladd e123) rfl ?_
  refine w_t (np := 178) (l2 := [some (eR a0), some (eJ (a1)), none, some (eJ (a3)), none, some (eJ (a5)), none, some (eJ (a7)), none, some (eJ (v5)), none, some (eJ (v8)), none, some (eJ (v11)), none, some (eJ (v14)), none, some (eJ (v95)), none, some (eJ (v104)), none, some (eJ (v113)), none, some (eJ (v122)), none]) (s2 := []) rfl rfl rfl ?_
  refine w_t (np := 179) (l2 := [some (eR a0), some (eJ (a1)), none, some (eJ (a3)), none, some (eJ (a5)), none, some (eJ (a7)), none, some (eJ (v5)), none, some (eJ (v8)), none, some (eJ (v11)), none, some (eJ (v14)), none, some (eJ (v95)), none, some (eJ (v104)), none, some (eJ (v113)), none, some (eJ (v122)), none]) (s2 := [eR a0]) rfl (s_an rfl (pos_g I86 gA0 (by decide))) rfl ?_
  refine w_cw (np := 182) (as := []) (l2 := [some (eR a0)]) (rest := []) rfl rfl rfl (Nat.ble_eq.mp rfl) rfl rfl rfl (I86.kd gA0 (by decide) (n := 69) rfl) rfl ?_
  refine s_220 I86 gA0 ?_
  intro m125 I126 F127
  have F128 : Fr l_223 0 0 g μ m125 := F88.t F127 rfl
  show ex_q (dt_fg L ρ) rc (d + 2, (223, 182, [some (eR a0), some (eJ (a1)), none, some (eJ (a3)), none, some (eJ (a5)), none, some (eJ (a7)), none, some (eJ (v5)), none, some (eJ (v8)), none, some (eJ (v11)), none, some (eJ (v14)), none, some (eJ (v95)), none, some (eJ (v104)), none, some (eJ (v113)), none, some (eJ (v122)), none], []), f :: F, m125)
  refine w_t (np := 183) (l2 := [some (eR a0), some (eJ (a1)), none, some (eJ (a3)), none, some (eJ (a5)), none, some (eJ (a7)), none, some (eJ (v5)), none, some (eJ (v8)), none, some (eJ (v11)), none, some (eJ (v14)), none, some (eJ (v95)), none, some (eJ (v104)), none, some (eJ (v113)), none, some (eJ (v122)), none]) (s2 := [eR a0]) rfl (s_an rfl (pos_g I126 gA0 (by decide))) rfl ?_
  refine w_t (np := 185) (l2 := [some (eR a0), some (eJ (a1)), none, some (eJ (a3)), none, some (eJ (a5)), none, some (eJ (a7)), none, some (eJ (v5)), none, some (eJ (v8)), none, some (eJ (v11)), none, some (eJ (v14)), none, some (eJ (v95)), none, some (eJ (v104)), none, some (eJ (v113)), none, some (eJ (v122)), none]) (s2 := [eJ (v95), eR a0]) rfl rfl rfl ?_
  refine w_t (np := 187) (l2 := [some (eR a0), some (eJ (a1)), none, some (eJ (a3)), none, some (eJ (a5)), none, some (eJ (a7)), none, some (eJ (v5)), none, some (eJ (v8)), none, some (eJ (v11)), none, some (eJ (v14)), none, some (eJ (v95)), none, some (eJ (v104)), none, some (eJ (v113)), none, some (eJ (v122)), none]) (s2 := [eJ (v14), eJ (v95), eR a0]) rfl rfl rfl ?_
  refine w_t (np := 188) (l2 := [some (eR a0), some (eJ (a1)), none, some (eJ (a3)), none, some (eJ (a5)), none, some (eJ (a7)), none, some (eJ (v5)), none, some (eJ (v8)), none, some (eJ (v11)), none, some (eJ (v14)), none, some (eJ (v95)), none, some (eJ (v104)), none, some (eJ (v113)), none, some (eJ (v122)), none]) (s2 := [eR a0, eJ (v14), eJ (v95), eR a0]) rfl (s_an rfl (pos_g I126 gA0 (by decide))) rfl ?_
  refine j_gj (np := 191) rfl rfl I126 gA0 (by decide) (n := 69) rfl rfl (lo := -9223372036854775808) (hi := 9223372036854775807) rfl ?_
  intro v129 e130 b131
  obtain ⟨v132, e133, b134⟩ : ∃ zz : Int, ev_W ((v14) * (v129)) = zz ∧ (-9223372036854775808 ≤ zz ∧ zz ≤ 9223372036854775807) := ⟨_, rfl, hW_bd _⟩
  refine w_t (np := 192) (l2 := [some (eR a0), some (eJ (a1)), none, some (eJ (a3)), none, some (eJ (a5)), none, some (eJ (a7)), none, some (eJ (v5)), none, some (eJ (v8)), none, some (eJ (v11)), none, some (eJ (v14)), none, some (eJ (v95)), none, some (eJ (v104)), none, some (eJ (v113)), none, some (eJ (v122)), none]) (s2 := [eJ (v132), eJ (v95), eR a0]) rfl (b_lmul e133) rfl ?_
  obtain ⟨v135, e136, b137⟩ : ∃ zz : Int, ev_W ((v95) + (v132)) = zz ∧ (-9223372036854775808 ≤ zz ∧ zz ≤ 9223372036854775807) := ⟨_, rfl, hW_bd _⟩
  refine w_t (np := 193) (l2 := [some (eR a0), some (eJ (a1)), none, some (eJ (a3)), none, some (eJ (a5)), none, some (eJ (a7)), none, some (eJ (v5)), none, some (eJ (v8)), none, some (eJ (v11)), none, some (eJ (v14)), none, some (eJ (v95)), none, some (eJ (v104)), none, some (eJ (v113)), none, some (eJ (v122)), none]) (s2 := [eJ (v135), eR a0]) rfl (b_ladd e136) rfl ?_
  refine w_t (np := 195) (l2 := [some (eR a0), some (eJ (a1)), none, some (eJ (a3)), none, some (eJ (a5)), none, some (eJ (a7)), none, some (eJ (v5)), none, some (eJ (v8)), none, some (eJ (v11)), none, some (eJ (v14)), none, some (eJ (v95)), none, some (eJ (v104)), none, some (eJ (v113)), none, some (eJ (v122)), none]) (s2 := [eJ (v104), eJ (v135), eR a0]) rfl rfl rfl ?_
  refine w_t (np := 197) (l2 := [some (eR a0), some (eJ (a1)), none, some (eJ (a3)), none, some (eJ (a5)), none, some (eJ (a7)), none, some (eJ (v5)), none, some (eJ (v8)), none, some (eJ (v11)), none, some (eJ (v14)), none, some (eJ (v95)), none, some (eJ (v104)), none, some (eJ (v113)), none, some (eJ (v122)), none]) (s2 := [eJ (v14), eJ (v104), eJ (v135), eR a0]) rfl rfl rfl ?_
  refine w_t (np := 198) (l2 := [some (eR a0), some (eJ (a1)), none, some (eJ (a3)), none, some (eJ (a5)), none, some (eJ (a7)), none, some (eJ (v5)), none, some (eJ (v8)), none, some (eJ (v11)), none, some (eJ (v14)), none, some (eJ (v95)), none, some (eJ (v104)), none, some (eJ (v113)), none, some (eJ (v122)), none]) (s2 := [eR a0, eJ (v14), eJ (v104), eJ (v135), eR a0]) rfl (s_an rfl (pos_g I126 gA0 (by decide))) rfl ?_
  refine j_gj (np := 201) rfl rfl I126 gA0 (by decide) (n := 69) rfl rfl (lo := -9223372036854775808) (hi := 9223372036854775807) rfl ?_
  intro v138 e139 b140
  obtain ⟨v141, e142, b143⟩ : ∃ zz : Int, ev_W ((v14) * (v138)) = zz ∧ (-9223372036854775808 ≤ zz ∧ zz ≤ 9223372036854775807) := ⟨_, rfl, hW_bd _⟩
  refine w_t (np := 202) (l2 := [some (eR a0), some (eJ (a1)), none, some (eJ (a3)), none, some (eJ (a5)), none, some (eJ (a7)), none, some (eJ (v5)), none, some (eJ (v8)), none, some (eJ (v11)), none, some (eJ (v14)), none, some (eJ (v95)), none, some (eJ (v104)), none, some (eJ (v113)), none, some (eJ (v122)), none]) (s2 := [eJ (v141), eJ (v104), eJ (v135), eR a0]) rfl (b_lmul e142) rfl ?_
  obtain ⟨v144, e145, b146⟩ : ∃ zz : Int, ev_W ((v104) + (v141)) = zz ∧ (-9223372036854775808 ≤ zz ∧ zz ≤ 9223372036854775807) := ⟨_, rfl, hW_bd _⟩
  refine w_t (np := 203) (l2 := [some (eR a0), some (eJ (a1)), none, some (eJ (a3)), none, some (eJ (a5)), none, some (eJ (a7)), none, some (eJ (v5)), none, some (eJ (v8)), none, some (eJ (v11)), none, some (eJ (v14)), none, some (eJ (v95)), none, some (eJ (v104)), none, some (eJ (v113)), none, some (eJ (v122)), none]) (s2 := [eJ (v144), eJ (v135), eR a0]) rfl (b_ladd e145) rfl ?_
  refine w_t (np := 205) (l2 := [some (eR a0), some (eJ (a1)), none, some (eJ (a3)), none, some (eJ (a5)), none, some (eJ (a7)), none, some (eJ (v5)), none, some (eJ (v8)), none, some (eJ (v11)), none, some (eJ (v14)), none, some (eJ (v95)), none, some (eJ (v104)), none, some (eJ (v113)), none, some (eJ (v122)), none]) (s2 := [eJ (v113), eJ (v144), eJ (v135), eR a0]) rfl rfl rfl ?_
  refine w_t (np := 207) (l2 := [some (eR a0), some (eJ (a1)), none, some (eJ (a3)), none, some (eJ (a5)), none, some (eJ (a7)), none, some (eJ (v5)), none, some (eJ (v8)), none, some (eJ (v11)), none, some (eJ (v14)), none, some (eJ (v95)), none, some (eJ (v104)), none, some (eJ (v113)), none, some (eJ (v122)), none]) (s2 := [eJ (v14), eJ (v113), eJ (v144), eJ (v135), eR a0]) rfl rfl rfl ?_
  refine w_t (np := 208) (l2 := [some (eR a0), some (eJ (a1)), none, some (eJ (a3)), none, some (eJ (a5)), none, some (eJ (a7)), none, some (eJ (v5)), none, some (eJ (v8)), none, some (eJ (v11)), none, some (eJ (v14)), none, some (eJ (v95)), none, some (eJ (v104)), none, some (eJ (v113)), none, some (eJ (v122)), none]) (s2 := [eR a0, eJ (v14), eJ (v113), eJ (v144), eJ (v135), eR a0]) rfl (s_an rfl (pos_g I126 gA0 (by decide))) rfl ?_
  refine j_gj (np := 211) rfl rfl I126 gA0 (by decide) (n := 69) rfl rfl (lo := -9223372036854775808) (hi := 9223372036854775807) rfl ?_
  intro v147 e148 b149
  obtain ⟨v150, e151, b152⟩ : ∃ zz : Int, ev_W ((v14) * (v147)) = zz ∧ (-9223372036854775808 ≤ zz ∧ zz ≤ 9223372036854775807) := ⟨_, rfl, hW_bd _⟩
  refine w_t (np := 212) (l2 := [some (eR a0), some (eJ (a1)), none, some (eJ (a3)), none, some (eJ (a5)), none, some (eJ (a7)), none, some (eJ (v5)), none, some (eJ (v8)), none, some (eJ (v11)), none, some (eJ (v14)), none, some (eJ (v95)), none, some (eJ (v104)), none, some (eJ (v113)), none, some (eJ (v122)), none]) (s2 := [eJ (v150), eJ (v113), eJ (v144), eJ (v135), eR a0]) rfl (b_lmul e151) rfl ?_
  obtain ⟨v153, e154, b155⟩ : ∃ zz : Int, ev_W ((v113) + (v150)) = zz ∧ (-9223372036854775808 ≤ zz ∧ zz ≤ 9223372036854775807) := ⟨_, rfl, hW_bd _⟩
  refine w_t (np := 213) (l2 := [some (eR a0), some (eJ (a1)), none, some (eJ (a3)), none, some (eJ (a5)), none, some (eJ (a7)), none, some (eJ (v5)), none, some (eJ (v8)), none, some (eJ (v11)), none, some (eJ (v14)), none, some (eJ (v95)), none, some (eJ (v104)), none, some (eJ (v113)), none, some (eJ (v122)), none]) (s2 := [eJ (v153), eJ (v144), eJ (v135), eR a0]) rfl (b_ladd e154) rfl ?_
  refine w_t (np := 215) (l2 := [some (eR a0), some (eJ (a1)), none, some (eJ (a3)), none, some (eJ (a5)), none, some (eJ (a7)), none, some (eJ (v5)), none, some (eJ (v8)), none, some (eJ (v11)), none, some (eJ (v14)), none, some (eJ (v95)), none, some (eJ (v104)), none, some (eJ (v113)), none, some (eJ (v122)), none]) (s2 := [eJ (v122), eJ (v153), eJ (v144), eJ (v135), eR a0]) rfl rfl rfl ?_
  refine w_t (np := 217) (l2 := [some (eR a0), some (eJ (a1)), none, some (eJ (a3)), none, some (eJ (a5)), none, some (eJ (a7)), none, some (eJ (v5)), none, some (eJ (v8)), none, some (eJ (v11)), none, some (eJ (v14)), none, some (eJ (v95)), none, some (eJ (v104)), none, some (eJ (v113)), none, some (eJ (v122)), none]) (s2 := [eJ (v14), eJ (v122), eJ (v153), eJ (v144), eJ (v135), eR a0]) rfl rfl rfl ?_
  refine w_t (np := 218) (l2 := [some (eR a0), some (eJ (a1)), none, some (eJ (a3)), none, some (eJ (a5)), none, some (eJ (a7)), none, some (eJ (v5)), none, some (eJ (v8)), none, some (eJ (v11)), none, some (eJ (v14)), none, some (eJ (v95)), none, some (eJ (v104)), none, some (eJ (v113)), none, some (eJ (v122)), none]) (s2 := [eR a0, eJ (v14), eJ (v122), eJ (v153), eJ (v144), eJ (v135), eR a0]) rfl (s_an rfl (pos_g I126 gA0 (by decide))) rfl ?_
  refine j_gj (np := 221) rfl rfl I126 gA0 (by decide) (n := 69) rfl rfl (lo := -9223372036854775808) (hi := 9223372036854775807) rfl ?_
  intro v156 e157 b158
  obtain ⟨v159, e160, b161⟩ : ∃ zz : Int, ev_W ((v14) * (v156)) = zz ∧ (-9223372036854775808 ≤ zz ∧ zz ≤ 9223372036854775807) := ⟨_, rfl, hW_bd _⟩
  refine w_t (np := 222) (l2 := [some (eR a0), some (eJ (a1)), none, some (eJ (a3)), none, some (eJ (a5)), none, some (eJ (a7)), none, some (eJ (v5)), none, some (eJ (v8)), none, some (eJ (v11)), none, some (eJ (v14)), none, some (eJ (v95)), none, some (eJ (v104)), none, some (eJ (v113)), none, some (eJ (v122)), none]) (s2 := [eJ (v159), eJ (v122), eJ (v153), eJ (v144), eJ (v135), eR a0]) rfl (b_lmul e160) rfl ?_
  obtain ⟨v162, e163, b164⟩ : ∃ zz : Int, ev_W ((v122) + (v159)) = zz ∧ (-9223372036854775808 ≤ zz ∧ zz ≤ 9223372036854775807) := ⟨_, rfl, hW_bd _⟩
  refine w_t (np := 223) (l2 := [some (eR a0), some (eJ (a1)), none, some (eJ (a3)), none, some (eJ (a5)), none, some (eJ (a7)), none, some (eJ (v5)), none, some (eJ (v8)), none, some (eJ (v11)), none, some (eJ (v14)), none, some (eJ (v95)), none, some (eJ (v104)), none, some (eJ (v113)), none, some (eJ (v122)), none]) (s2 := [eJ (v162), eJ (v153), eJ (v144), eJ (v135), eR a0]) rfl (b_ladd e163) rfl ?_
  refine w_cw (np := 226) (as := [eJ (v135), eJ (v144), eJ (v153), eJ (v162)]) (l2 := [some (eR a0), some (eJ (v135)), none, some (eJ (v144)), none, some (eJ (v153)), none, some (eJ (v162)), none]) (rest := []) rfl rfl rfl (Nat.ble_eq.mp rfl) rfl rfl rfl (I126.kd gA0 (by decide) (n := 69) rfl) rfl ?_
  refine s_219 I126 gA0 b137 b146 b155 b164 ?_
  intro m165 I166 F167
  have F168 : Fr l_223 0 0 g μ m165 := F128.t F167 rfl
  show ex_q (dt_fg L ρ) rc (d + 2, (223, 226, [some (eR a0), some (eJ (a1)), none, some (eJ (a3)), none, some (eJ (a5)), none, some (eJ (a7)), none, some (eJ (v5)), none, some (eJ (v8)), none, some (eJ (v11)), none, some (eJ (v14)), none, some (eJ (v95)), none, some (eJ (v104)), none, some (eJ (v113)), none, some (eJ (v122)), none], []), f :: F, m165)
  exact v_rv rfl rfl (K m165 I166 F168)
def l_224 : List Nat := [13315, 13316, 13317, 13318]
theorem s_224 {L : Nat} {ρ : Nat → Int} {rc : eQ} {d : Nat} {f : eFr} {F : List eFr} {μ : eM} {g : Nat → Nat} {a0 : Nat} {a1 : Int} {a3 : Int} {a5 : Int} {a7 : Int} {a9 : Int} {a11 : Int} {a13 : Int} {a15 : Int} (hI : SI g μ) (gA0 : g a0 = 52) (bA1 : -9223372036854775808 ≤ a1 ∧ a1 ≤ 9223372036854775807) (bA3 : -9223372036854775808 ≤ a3 ∧ a3 ≤ 9223372036854775807) (bA5 : -9223372036854775808 ≤ a5 ∧ a5 ≤ 9223372036854775807) (bA7 : -9223372036854775808 ≤ a7 ∧ a7 ≤ 9223372036854775807) (bA9 : -9223372036854775808 ≤ a9 ∧ a9 ≤ 9223372036854775807) (bA11 : -9223372036854775808 ≤ a11 ∧ a11 ≤ 9223372036854775807) (bA13 : -9223372036854775808 ≤ a13 ∧ a13 ≤ 9223372036854775807) (bA15 : -9223372036854775808 ≤ a15 ∧ a15 ≤ 9223372036854775807) (K : ∀ (μ2 : eM) (v : Int), SI g μ2 → Fr l_224 0 0 g μ μ2 → (-1 ≤ v ∧ v ≤ 1) → ex_q (dt_fg L ρ) rc (d + 4, (f.1, f.2.1, f.2.2.1, eI v :: f.2.2.2), F, μ2)) : ex_q (dt_fg L ρ) rc (d + 3, (224, 0, [some (eR a0), some (eJ (a1)), none, some (eJ (a3)), none, some (eJ (a5)), none, some (eJ (a7)), none, some (eJ (a9)), none, some (eJ (a11)), none, some (eJ (a13)), none, some (eJ (a15)), none], []), f :: F, μ) := by
  have F0 : Fr l_224 0 0 g μ μ := Fr.r
  refine w_t (np := 1) (l2 := [some (eR a0), some (eJ (a1)), none, some (eJ (a3)), none, some (eJ (a5)), none, some (eJ (a7)), none, some (eJ (a9)), none, some (eJ (a11)), none, some (eJ (a13)), none, some (eJ (a15)), none]) (s2 := [eR a0]) rfl (s_an rfl (pos_g hI gA0 (by decide))) rfl ?_
  refine w_t (np := 2) (l2 := [some (eR a0), some (eJ (a1)), none, some (eJ (a3)), none, some (eJ (a5)), none, some (eJ (a7)), none, some (eJ (a9)), none, some (eJ (a11)), none, some (eJ (a13)), none, some (eJ (a15)), none]) (s2 := [eJ (a1), eR a0]) rfl rfl rfl ?_
  refine w_t (np := 3) (l2 := [some (eR a0), some (eJ (a1)), none, some (eJ (a3)), none, some (eJ (a5)), none, some (eJ (a7)), none, some (eJ (a9)), none, some (eJ (a11)), none, some (eJ (a13)), none, some (eJ (a15)), none]) (s2 := [eJ (a3), eJ (a1), eR a0]) rfl rfl rfl ?_
  refine w_t (np := 5) (l2 := [some (eR a0), some (eJ (a1)), none, some (eJ (a3)), none, some (eJ (a5)), none, some (eJ (a7)), none, some (eJ (a9)), none, some (eJ (a11)), none, some (eJ (a13)), none, some (eJ (a15)), none]) (s2 := [eJ (a5), eJ (a3), eJ (a1), eR a0]) rfl rfl rfl ?_
  refine w_t (np := 7) (l2 := [some (eR a0), some (eJ (a1)), none, some (eJ (a3)), none, some (eJ (a5)), none, some (eJ (a7)), none, some (eJ (a9)), none, some (eJ (a11)), none, some (eJ (a13)), none, some (eJ (a15)), none]) (s2 := [eJ (a7), eJ (a5), eJ (a3), eJ (a1), eR a0]) rfl rfl rfl ?_
  refine w_cw (np := 10) (as := [eJ (a1), eJ (a3), eJ (a5), eJ (a7)]) (l2 := [some (eR a0), some (eJ (a1)), none, some (eJ (a3)), none, some (eJ (a5)), none, some (eJ (a7)), none]) (rest := []) rfl rfl rfl (Nat.ble_eq.mp rfl) rfl rfl rfl (hI.kd gA0 (by decide) (n := 69) rfl) rfl ?_
  refine s_219 hI gA0 bA1 bA3 bA5 bA7 ?_
  intro m1 I2 F3
  have F4 : Fr l_224 0 0 g μ m1 := F0.t F3 rfl
  show ex_q (dt_fg L ρ) rc (d + 3, (224, 10, [some (eR a0), some (eJ (a1)), none, some (eJ (a3)), none, some (eJ (a5)), none, some (eJ (a7)), none, some (eJ (a9)), none, some (eJ (a11)), none, some (eJ (a13)), none, some (eJ (a15)), none], []), f :: F, m1)
  refine w_t (np := 11) (l2 := [some (eR a0), some (eJ (a1)), none, some (eJ (a3)), none, some (eJ (a5)), none, some (eJ (a7)), none, some (eJ (a9)), none, some (eJ (a11)), none, some (eJ (a13)), none, some (eJ (a15)), none]) (s2 := [eR a0]) rfl (s_an rfl (pos_g I2 gA0 (by decide))) rfl ?_
  refine w_t (np := 13) (l2 := [some (eR a0), some (eJ (a1)), none, some (eJ (a3)), none, some (eJ (a5)), none, some (eJ (a7)), none, some (eJ (a9)), none, some (eJ (a11)), none, some (eJ (a13)), none, some (eJ (a15)), none]) (s2 := [eJ (a9), eR a0]) rfl rfl rfl ?_
  refine w_t (np := 15) (l2 := [some (eR a0), some (eJ (a1)), none, some (eJ (a3)), none, some (eJ (a5)), none, some (eJ (a7)), none, some (eJ (a9)), none, some (eJ (a11)), none, some (eJ (a13)), none, some (eJ (a15)), none]) (s2 := [eJ (a11), eJ (a9), eR a0]) rfl rfl rfl ?_
  refine w_t (np := 17) (l2 := [some (eR a0), some (eJ (a1)), none, some (eJ (a3)), none, some (eJ (a5)), none, some (eJ (a7)), none, some (eJ (a9)), none, some (eJ (a11)), none, some (eJ (a13)), none, some (eJ (a15)), none]) (s2 := [eJ (a13), eJ (a11), eJ (a9), eR a0]) rfl rfl rfl ?_
  refine w_t (np := 19) (l2 := [some (eR a0), some (eJ (a1)), none, some (eJ (a3)), none, some (eJ (a5)), none, some (eJ (a7)), none, some (eJ (a9)), none, some (eJ (a11)), none, some (eJ (a13)), none, some (eJ (a15)), none]) (s2 := [eJ (a15), eJ (a13), eJ (a11), eJ (a9), eR a0]) rfl rfl rfl ?_
  refine w_cw (np := 22) (as := [eJ (a9), eJ (a11), eJ (a13), eJ (a15)]) (l2 := [some (eR a0), some (eJ (a9)), none, some (eJ (a11)), none, some (eJ (a13)), none, some (eJ (a15)), none, none, none, none, none, none, none, none, none, none, none, none, none, none, none, none, none]) (rest := []) rfl rfl rfl (Nat.ble_eq.mp rfl) rfl rfl rfl (I2.kd gA0 (by decide) (n := 69) rfl) rfl ?_
  refine s_223 I2 gA0 bA9 bA11 bA13 bA15 ?_
  intro m5 I6 F7
  have F8 : Fr l_224 0 0 g μ m5 := F4.t F7 rfl
  show ex_q (dt_fg L ρ) rc (d + 3, (224, 22, [some (eR a0), some (eJ (a1)), none, some (eJ (a3)), none, some (eJ (a5)), none, some (eJ (a7)), none, some (eJ (a9)), none, some (eJ (a11)), none, some (eJ (a13)), none, some (eJ (a15)), none], []), f :: F, m5)
  refine w_t (np := 23) (l2 := [some (eR a0), some (eJ (a1)), none, some (eJ (a3)), none, some (eJ (a5)), none, some (eJ (a7)), none, some (eJ (a9)), none, some (eJ (a11)), none, some (eJ (a13)), none, some (eJ (a15)), none]) (s2 := [eR a0]) rfl (s_an rfl (pos_g I6 gA0 (by decide))) rfl ?_
  refine j_gj (np := 26) rfl rfl I6 gA0 (by decide) (n := 69) rfl rfl (lo := -9223372036854775808) (hi := 9223372036854775807) rfl ?_
  intro v9 e10 b11
  refine w_t (np := 27) (l2 := [some (eR a0), some (eJ (a1)), none, some (eJ (a3)), none, some (eJ (a5)), none, some (eJ (a7)), none, some (eJ (a9)), none, some (eJ (a11)), none, some (eJ (a13)), none, some (eJ (a15)), none]) (s2 := [eR a0, eJ (v9)]) rfl (s_an rfl (pos_g I6 gA0 (by decide))) rfl ?_
  refine j_gj (np := 30) rfl rfl I6 gA0 (by decide) (n := 69) rfl rfl (lo := -9223372036854775808) (hi := 9223372036854775807) rfl ?_
  intro v12 e13 b14
  refine w_t (np := 31) (l2 := [some (eR a0), some (eJ (a1)), none, some (eJ (a3)), none, some (eJ (a5)), none, some (eJ (a7)), none, some (eJ (a9)), none, some (eJ (a11)), none, some (eJ (a13)), none, some (eJ (a15)), none]) (s2 := [eR a0, eJ (v12), eJ (v9)]) rfl (s_an rfl (pos_g I6 gA0 (by decide))) rfl ?_
  refine j_gj (np := 34) rfl rfl I6 gA0 (by decide) (n := 69) rfl rfl (lo := -9223372036854775808) (hi := 9223372036854775807) rfl ?_
  intro v15 e16 b17
  obtain ⟨v18, e19, b20⟩ : ∃ zz : Int, ev_W ((v12) + (v15)) = zz ∧ (-9223372036854775808 ≤ zz ∧ zz ≤ 9223372036854775807) := ⟨_, rfl, hW_bd _⟩
  refine w_t (np := 35) (l2 := [some (eR a0), some (eJ (a1)), none, some (eJ (a3)), none, some (eJ (a5)), none, some (eJ (a7)), none, some (eJ (a9)), none, some (eJ (a11)), none, some (eJ (a13)), none, some (eJ (a15)), none]) (s2 := [eJ (v18), eJ (v9)]) rfl (b_ladd e19) rfl ?_
  refine w_cu (np := 38) (as := [eJ (v9), eJ (v18)]) (l2 := [some (eJ (v9)), none, some (eJ (v18)), none, none, none, none, none, none, none]) (rest := []) rfl rfl rfl (Nat.ble_eq.mp rfl) rfl rfl rfl rfl ?_
  refine s_222 I6 b11 b20 ?_
  intro v21 b22
  show ex_q (dt_fg L ρ) rc (d + 3, (224, 38, [some (eR a0), some (eJ (a1)), none, some (eJ (a3)), none, some (eJ (a5)), none, some (eJ (a7)), none, some (eJ (a9)), none, some (eJ (a11)), none, some (eJ (a13)), none, some (eJ (a15)), none], [eI (v21)]), f :: F, m5)
  exact b_ri rfl rfl (K m5 (v21) I6 F8 (by omega))
def l_225 : List Nat := [13315, 13316, 13317, 13318]
theorem s_225 {L : Nat} {ρ : Nat → Int} {rc : eQ} {d : Nat} {f : eFr} {F : List eFr} {μ : eM} {g : Nat → Nat} {a0 : Nat} {a1 : Int} {a3 : Int} {a5 : Int} {a7 : Int} {a9 : Int} {a11 : Int} {a13 : Int} {a15 : Int} (hI : SI g μ) (gA0 : g a0 = 52) (bA1 : -9223372036854775808 ≤ a1 ∧ a1 ≤ 9223372036854775807) (bA3 : -9223372036854775808 ≤ a3 ∧ a3 ≤ 9223372036854775807) (bA5 : -9223372036854775808 ≤ a5 ∧ a5 ≤ 9223372036854775807) (bA7 : -9223372036854775808 ≤ a7 ∧ a7 ≤ 9223372036854775807) (bA9 : -9223372036854775808 ≤ a9 ∧ a9 ≤ 9223372036854775807) (bA11 : -9223372036854775808 ≤ a11 ∧ a11 ≤ 9223372036854775807) (bA13 : -9223372036854775808 ≤ a13 ∧ a13 ≤ 9223372036854775807) (bA15 : -9223372036854775808 ≤ a15 ∧ a15 ≤ 9223372036854775807) (K : ∀ (μ2 : eM) (v : Int), SI g μ2 → Fr l_225 0 0 g μ μ2 → (-1 ≤ v ∧ v ≤ 1) → ex_q (dt_fg L ρ) rc (d + 4, (f.1, f.2.1, f.2.2.1, eI v :: f.2.2.2), F, μ2)) : ex_q (dt_fg L ρ) rc (d + 3, (225, 0, [some (eR a0), some (eJ (a1)), none, some (eJ (a3)), none, some (eJ (a5)), none, some (eJ (a7)), none, some (eJ (a9)), none, some (eJ (a11)), none, some (eJ (a13)), none, some (eJ (a15)), none], []), f :: F, μ) := by
  have F0 : Fr l_225 0 0 g μ μ := Fr.r
  refine w_t (np := 1) (l2 := [some (eR a0), some (eJ (a1)), none, some (eJ (a3)), none, some (eJ (a5)), none, some (eJ (a7)), none, some (eJ (a9)), none, some (eJ (a11)), none, some (eJ (a13)), none, some (eJ (a15)), none]) (s2 := [eR a0]) rfl (s_an rfl (pos_g hI gA0 (by decide))) rfl ?_
  refine w_t (np := 2) (l2 := [some (eR a0), some (eJ (a1)), none, some (eJ (a3)), none, some (eJ (a5)), none, some (eJ (a7)), none, some (eJ (a9)), none, some (eJ (a11)), none, some (eJ (a13)), none, some (eJ (a15)), none]) (s2 := [eJ (a1), eR a0]) rfl rfl rfl ?_
  refine w_t (np := 3) (l2 := [some (eR a0), some (eJ (a1)), none, some (eJ (a3)), none, some (eJ (a5)), none, some (eJ (a7)), none, some (eJ (a9)), none, some (eJ (a11)), none, some (eJ (a13)), none, some (eJ (a15)), none]) (s2 := [eJ (a3), eJ (a1), eR a0]) rfl rfl rfl ?_
  refine w_t (np := 5) (l2 := [some (eR a0), some (eJ (a1)), none, some (eJ (a3)), none, some (eJ (a5)), none, some (eJ (a7)), none, some (eJ (a9)), none, some (eJ (a11)), none, some (eJ (a13)), none, some (eJ (a15)), none]) (s2 := [eJ (a5), eJ (a3), eJ (a1), eR a0]) rfl rfl rfl ?_
  refine w_t (np := 7) (l2 := [some (eR a0), some (eJ (a1)), none, some (eJ (a3)), none, some (eJ (a5)), none, some (eJ (a7)), none, some (eJ (a9)), none, some (eJ (a11)), none, some (eJ (a13)), none, some (eJ (a15)), none]) (s2 := [eJ (a7), eJ (a5), eJ (a3), eJ (a1), eR a0]) rfl rfl rfl ?_
  refine w_cw (np := 10) (as := [eJ (a1), eJ (a3), eJ (a5), eJ (a7)]) (l2 := [some (eR a0), some (eJ (a1)), none, some (eJ (a3)), none, some (eJ (a5)), none, some (eJ (a7)), none]) (rest := []) rfl rfl rfl (Nat.ble_eq.mp rfl) rfl rfl rfl (hI.kd gA0 (by decide) (n := 69) rfl) rfl ?_
  refine s_219 hI gA0 bA1 bA3 bA5 bA7 ?_
  intro m1 I2 F3
  have F4 : Fr l_225 0 0 g μ m1 := F0.t F3 rfl
  show ex_q (dt_fg L ρ) rc (d + 3, (225, 10, [some (eR a0), some (eJ (a1)), none, some (eJ (a3)), none, some (eJ (a5)), none, some (eJ (a7)), none, some (eJ (a9)), none, some (eJ (a11)), none, some (eJ (a13)), none, some (eJ (a15)), none], []), f :: F, m1)
  refine w_t (np := 11) (l2 := [some (eR a0), some (eJ (a1)), none, some (eJ (a3)), none, some (eJ (a5)), none, some (eJ (a7)), none, some (eJ (a9)), none, some (eJ (a11)), none, some (eJ (a13)), none, some (eJ (a15)), none]) (s2 := [eR a0]) rfl (s_an rfl (pos_g I2 gA0 (by decide))) rfl ?_
  refine w_t (np := 13) (l2 := [some (eR a0), some (eJ (a1)), none, some (eJ (a3)), none, some (eJ (a5)), none, some (eJ (a7)), none, some (eJ (a9)), none, some (eJ (a11)), none, some (eJ (a13)), none, some (eJ (a15)), none]) (s2 := [eJ (a9), eR a0]) rfl rfl rfl ?_
  refine w_t (np := 15) (l2 := [some (eR a0), some (eJ (a1)), none, some (eJ (a3)), none, some (eJ (a5)), none, some (eJ (a7)), none, some (eJ (a9)), none, some (eJ (a11)), none, some (eJ (a13)), none, some (eJ (a15)), none]) (s2 := [eJ (a11), eJ (a9), eR a0]) rfl rfl rfl ?_
  refine w_t (np := 17) (l2 := [some (eR a0), some (eJ (a1)), none, some (eJ (a3)), none, some (eJ (a5)), none, some (eJ (a7)), none, some (eJ (a9)), none, some (eJ (a11)), none, some (eJ (a13)), none, some (eJ (a15)), none]) (s2 := [eJ (a13), eJ (a11), eJ (a9), eR a0]) rfl rfl rfl ?_
  refine w_t (np := 19) (l2 := [some (eR a0), some (eJ (a1)), none, some (eJ (a3)), none, some (eJ (a5)), none, some (eJ (a7)), none, some (eJ (a9)), none, some (eJ (a11)), none, some (eJ (a13)), none, some (eJ (a15)), none]) (s2 := [eJ (a15), eJ (a13), eJ (a11), eJ (a9), eR a0]) rfl rfl rfl ?_
  refine w_cw (np := 22) (as := [eJ (a9), eJ (a11), eJ (a13), eJ (a15)]) (l2 := [some (eR a0), some (eJ (a9)), none, some (eJ (a11)), none, some (eJ (a13)), none, some (eJ (a15)), none, none, none, none, none, none, none, none, none, none, none, none, none, none, none, none, none]) (rest := []) rfl rfl rfl (Nat.ble_eq.mp rfl) rfl rfl rfl (I2.kd gA0 (by decide) (n := 69) rfl) rfl ?_
  refine s_223 I2 gA0 bA9 bA11 bA13 bA15 ?_
  intro m5 I6 F7
  have F8 : Fr l_225 0 0 g μ m5 := F4.t F7 rfl
  show ex_q (dt_fg L ρ) rc (d + 3, (225, 22, [some (eR a0), some (eJ (a1)), none, some (eJ (a3)), none, some (eJ (a5)), none, some (eJ (a7)), none, some (eJ (a9)), none, some (eJ (a11)), none, some (eJ (a13)), none, some (eJ (a15)), none], []), f :: F, m5)
  refine v_l2 (np := 25) (c := 2) rfl rfl (by decide) ?_
  rw [show zJ 2 = 2 by decide]
  refine w_t (np := 26) (l2 := [some (eR a0), some (eJ (a1)), none, some (eJ (a3)), none, some (eJ (a5)), none, some (eJ (a7)), none, some (eJ (a9)), none, some (eJ (a11)), none, some (eJ (a13)), none, some (eJ (a15)), none]) (s2 := [eR a0, eJ (2)]) rfl (s_an rfl (pos_g I6 gA0 (by decide))) rfl ?_
  refine j_gj (np := 29) rfl rfl I6 gA0 (by decide) (n := 69) rfl rfl (lo := -9223372036854775808) (hi := 9223372036854775807) rfl ?_
  intro v9 e10 b11
  obtain ⟨v12, e13, b14⟩ : ∃ zz : Int, ev_W ((2) * (v9)) = zz ∧ (-9223372036854775808 ≤ zz ∧ zz ≤ 9223372036854775807) := ⟨_, rfl, hW_bd _⟩
  refine w_t (np := 30) (l2 := [some (eR a0), some (eJ (a1)), none, some (eJ (a3)), none, some (eJ (a5)), none, some (eJ (a7)), none, some (eJ (a9)), none, some (eJ (a11)), none, some (eJ (a13)), none, some (eJ (a15)), none]) (s2 := [eJ (v12)]) rfl (b_lmul e13) rfl ?_
  refine w_t (np := 31) (l2 := [some (eR a0), some (eJ (a1)), none, some (eJ (a3)), none, some (eJ (a5)), none, some (eJ (a7)), none, some (eJ (a9)), none, some (eJ (a11)), none, some (eJ (a13)), none, some (eJ (a15)), none]) (s2 := [eR a0, eJ (v12)]) rfl (s_an rfl (pos_g I6 gA0 (by decide))) rfl ?_
  refine j_gj (np := 34) rfl rfl I6 gA0 (by decide) (n := 69) rfl rfl (lo := -9223372036854775808) (hi := 9223372036854775807) rfl ?_
  intro v15 e16 b17
  obtain ⟨v18, e19, b20⟩ : ∃ zz : Int, ev_W ((v12) - (v15)) = zz ∧ (-9223372036854775808 ≤ zz ∧ zz ≤ 9223372036854775807) := ⟨_, rfl, hW_bd _⟩
  refine w_t (np := 35) (l2 := [some (eR a0), some (eJ (a1)), none, some (eJ (a3)), none, some (eJ (a5)), none, some (eJ (a7)), none, some (eJ (a9)), none, some (eJ (a11)), none, some (eJ (a13)), none, some (eJ (a15)), none]) (s2 := [eJ (v18)]) rfl (b_lsub e19) rfl ?_
  refine w_t (np := 36) (l2 := [some (eR a0), some (eJ (a1)), none, some (eJ (a3)), none, some (eJ (a5)), none, some (eJ (a7)), none, some (eJ (a9)), none, some (eJ (a11)), none, some (eJ (a13)), none, some (eJ (a15)), none]) (s2 := [eR a0, eJ (v18)]) rfl (s_an rfl (pos_g I6 gA0 (by decide))) rfl ?_
  refine j_gj (np := 39) rfl rfl I6 gA0 (by decide) (n := 69) rfl rfl (lo := -9223372036854775808) (hi := 9223372036854775807) rfl ?_
  intro v21 e22 b23
  obtain ⟨v24, e25, b26⟩ : ∃ zz : Int, ev_W ((v18) + (v21)) = zz ∧ (-9223372036854775808 ≤ zz ∧ zz ≤ 9223372036854775807) := ⟨_, rfl, hW_bd _⟩
  refine w_t (np := 40) (l2 := [some (eR a0), some (eJ (a1)), none, some (eJ (a3)), none, some (eJ (a5)), none, some (eJ (a7)), none, some (eJ (a9)), none, some (eJ (a11)), none, some (eJ (a13)), none, some (eJ (a15)), none]) (s2 := [eJ (v24)]) rfl (b_ladd e25) rfl ?_
  refine w_t (np := 41) (l2 := [some (eR a0), some (eJ (a1)), none, some (eJ (a3)), none, some (eJ (a5)), none, some (eJ (a7)), none, some (eJ (a9)), none, some (eJ (a11)), none, some (eJ (a13)), none, some (eJ (a15)), none]) (s2 := [eR a0, eJ (v24)]) rfl (s_an rfl (pos_g I6 gA0 (by decide))) rfl ?_
  refine j_gj (np := 44) rfl rfl I6 gA0 (by decide) (n := 69) rfl rfl (lo := -9223372036854775808) (hi := 9223372036854775807) rfl ?_
  intro v27 e28 b29
  refine w_t (np := 45) (l2 := [some (eR a0), some (eJ (a1)), none, some (eJ (a3)), none, some (eJ (a5)), none, some (eJ (a7)), none, some (eJ (a9)), none, some (eJ (a11)), none, some (eJ (a13)), none, some (eJ (a15)), none]) (s2 := [eR a0, eJ (v27), eJ (v24)]) rfl (s_an rfl (pos_g I6 gA0 (by decide))) rfl ?_
  refine w_gf (np := 48) (v := eJ (v15)) rfl rfl (I6.kd gA0 (by decide) (n := 69) rfl) (by rw [e16]; rfl) ?_
  obtain ⟨v30, e31, b32⟩ : ∃ zz : Int, ev_W ((v27) + (v15)) = zz ∧ (-9223372036854775808 ≤ zz ∧ zz ≤ 9223372036854775807) := ⟨_, rfl, hW_bd _⟩
  refine w_t (np := 49) (l2 := [some (eR a0), some (eJ (a1)), none, some (eJ (a3)), none, some (eJ (a5)), none, some (eJ (a7)), none, some (eJ (a9)), none, some (eJ (a11)), none, some (eJ (a13)), none, some (eJ (a15)), none]) (s2 := [eJ (v30), eJ (v24)]) rfl (b_ladd e31) rfl ?_
  refine w_t (np := 50) (l2 := [some (eR a0), some (eJ (a1)), none, some (eJ (a3)), none, some (eJ (a5)), none, some (eJ (a7)), none, some (eJ (a9)), none, some (eJ (a11)), none, some (eJ (a13)), none, some (eJ (a15)), none]) (s2 := [eR a0, eJ (v30), eJ (v24)]) rfl (s_an rfl (pos_g I6 gA0 (by decide))) rfl ?_
  refine w_gf (np := 53) (v := eJ (v21)) rfl rfl (I6.kd gA0 (by decide) (n := 69) rfl) (by rw [e22]; rfl) ?_
  obtain ⟨v33, e34, b35⟩ : ∃ zz : Int, ev_W ((v30) - (v21)) = zz ∧ (-9223372036854775808 ≤ zz ∧ zz ≤ 9223372036854775807) := ⟨_, rfl, hW_bd _⟩
  refine w_t (np := 54) (l2 := [some (eR a0), some (eJ (a1)), none, some (eJ (a3)), none, some (eJ (a5)), none, some (eJ (a7)), none, some (eJ (a9)), none, some (eJ (a11)), none, some (eJ (a13)), none, some (eJ (a15)), none]) (s2 := [eJ (v33), eJ (v24)]) rfl (b_lsub e34) rfl ?_
  refine w_cu (np := 57) (as := [eJ (v24), eJ (v33)]) (l2 := [some (eJ (v24)), none, some (eJ (v33)), none, none, none, none, none, none, none]) (rest := []) rfl rfl rfl (Nat.ble_eq.mp rfl) rfl rfl rfl rfl ?_
  refine s_222 I6 b26 b35 ?_
  intro v36 b37
  show ex_q (dt_fg L ρ) rc (d + 3, (225, 57, [some (eR a0), some (eJ (a1)), none, some (eJ (a3)), none, some (eJ (a5)), none, some (eJ (a7)), none, some (eJ (a9)), none, some (eJ (a11)), none, some (eJ (a13)), none, some (eJ (a15)), none], [eI (v36)]), f :: F, m5)
  exact b_ri rfl rfl (K m5 (v36) I6 F8 (by omega))
theorem s_240 {L : Nat} {ρ : Nat → Int} {rc : eQ} {d : Nat} {f : eFr} {F : List eFr} {μ : eM} {g : Nat → Nat} {a0 : Int} {a1 : Int} {a2 : Int} {a3 : Int} (hI : SI g μ) (bA0 : -2147483648 ≤ a0 ∧ a0 ≤ 2147483647) (bA1 : -2147483648 ≤ a1 ∧ a1 ≤ 2147483647) (bA2 : -2147483648 ≤ a2 ∧ a2 ≤ 2147483647) (bA3 : -2147483648 ≤ a3 ∧ a3 ≤ 2147483647) (K : ∀ (v : Int), (0 ≤ v ∧ v ≤ 1) → ex_q (dt_fg L ρ) rc (d + 1, (f.1, f.2.1, f.2.2.1, eI v :: f.2.2.2), F, μ)) : ex_q (dt_fg L ρ) rc (d, (240, 0, [some (eI (a0)), some (eI (a1)), some (eI (a2)), some (eI (a3))], []), f :: F, μ) := by
  refine w_t (np := 1) (l2 := [some (eI (a0)), some (eI (a1)), some (eI (a2)), some (eI (a3))]) (s2 := [eI (a0)]) rfl rfl rfl ?_
  refine w_t (np := 2) (l2 := [some (eI (a0)), some (eI (a1)), some (eI (a2)), some (eI (a3))]) (s2 := [eI (a2), eI (a0)]) rfl rfl rfl ?_
  refine b_cne (t1 := 10) (t2 := 5) rfl rfl rfl (ev_w_in (by omega) (by omega)) (ev_w_in (by omega) (by omega)) (fun g1 => ?_) (fun g1 => ?_)
  · refine w_t (np := 11) (l2 := [some (eI (a0)), some (eI (a1)), some (eI (a2)), some (eI (a3))]) (s2 := [eI (a0)]) rfl rfl rfl ?_
    refine w_t (np := 12) (l2 := [some (eI (a0)), some (eI (a1)), some (eI (a2)), some (eI (a3))]) (s2 := [eI (a3), eI (a0)]) rfl rfl rfl ?_
    refine b_cne (t1 := 24) (t2 := 15) rfl rfl rfl (ev_w_in (by omega) (by omega)) (ev_w_in (by omega) (by omega)) (fun g2 => ?_) (fun g2 => ?_)
    · refine w_t (np := 25) (l2 := [some (eI (a0)), some (eI (a1)), some (eI (a2)), some (eI (a3))]) (s2 := [eI (0)]) rfl rfl rfl ?_
      exact b_rz rfl rfl (Or.inl rfl) (K (0) (by decide))
    · refine w_t (np := 16) (l2 := [some (eI (a0)), some (eI (a1)), some (eI (a2)), some (eI (a3))]) (s2 := [eI (a1)]) rfl rfl rfl ?_
      refine w_t (np := 17) (l2 := [some (eI (a0)), some (eI (a1)), some (eI (a2)), some (eI (a3))]) (s2 := [eI (a2), eI (a1)]) rfl rfl rfl ?_
      refine b_cne (t1 := 24) (t2 := 20) rfl rfl rfl (ev_w_in (by omega) (by omega)) (ev_w_in (by omega) (by omega)) (fun g3 => ?_) (fun g3 => ?_)
      · refine w_t (np := 25) (l2 := [some (eI (a0)), some (eI (a1)), some (eI (a2)), some (eI (a3))]) (s2 := [eI (0)]) rfl rfl rfl ?_
        exact b_rz rfl rfl (Or.inl rfl) (K (0) (by decide))
      · refine w_t (np := 21) (l2 := [some (eI (a0)), some (eI (a1)), some (eI (a2)), some (eI (a3))]) (s2 := [eI (1)]) rfl rfl rfl ?_
        refine w_go (t1 := 25) rfl rfl ?_
        exact b_rz rfl rfl (Or.inr rfl) (K (1) (by decide))
  · refine w_t (np := 6) (l2 := [some (eI (a0)), some (eI (a1)), some (eI (a2)), some (eI (a3))]) (s2 := [eI (a1)]) rfl rfl rfl ?_
    refine w_t (np := 7) (l2 := [some (eI (a0)), some (eI (a1)), some (eI (a2)), some (eI (a3))]) (s2 := [eI (a3), eI (a1)]) rfl rfl rfl ?_
    refine b_ceq (t1 := 20) (t2 := 10) rfl rfl rfl (ev_w_in (by omega) (by omega)) (ev_w_in (by omega) (by omega)) (fun g2 => ?_) (fun g2 => ?_)
    · refine w_t (np := 21) (l2 := [some (eI (a0)), some (eI (a1)), some (eI (a2)), some (eI (a3))]) (s2 := [eI (1)]) rfl rfl rfl ?_
      refine w_go (t1 := 25) rfl rfl ?_
      exact b_rz rfl rfl (Or.inr rfl) (K (1) (by decide))
    · refine w_t (np := 11) (l2 := [some (eI (a0)), some (eI (a1)), some (eI (a2)), some (eI (a3))]) (s2 := [eI (a0)]) rfl rfl rfl ?_
      refine w_t (np := 12) (l2 := [some (eI (a0)), some (eI (a1)), some (eI (a2)), some (eI (a3))]) (s2 := [eI (a3), eI (a0)]) rfl rfl rfl ?_
      refine b_cne (t1 := 24) (t2 := 15) rfl rfl rfl (ev_w_in (by omega) (by omega)) (ev_w_in (by omega) (by omega)) (fun g3 => ?_) (fun g3 => ?_)
      · refine w_t (np := 25) (l2 := [some (eI (a0)), some (eI (a1)), some (eI (a2)), some (eI (a3))]) (s2 := [eI (0)]) rfl rfl rfl ?_
        exact b_rz rfl rfl (Or.inl rfl) (K (0) (by decide))
      · refine w_t (np := 16) (l2 := [some (eI (a0)), some (eI (a1)), some (eI (a2)), some (eI (a3))]) (s2 := [eI (a1)]) rfl rfl rfl ?_
        refine w_t (np := 17) (l2 := [some (eI (a0)), some (eI (a1)), some (eI (a2)), some (eI (a3))]) (s2 := [eI (a2), eI (a1)]) rfl rfl rfl ?_
        refine b_cne (t1 := 24) (t2 := 20) rfl rfl rfl (ev_w_in (by omega) (by omega)) (ev_w_in (by omega) (by omega)) (fun g4 => ?_) (fun g4 => ?_)
        · refine w_t (np := 25) (l2 := [some (eI (a0)), some (eI (a1)), some (eI (a2)), some (eI (a3))]) (s2 := [eI (0)]) rfl rfl rfl ?_
          exact b_rz rfl rfl (Or.inl rfl) (K (0) (by decide))
        · refine w_t (np := 21) (l2 := [some (eI (a0)), some (eI (a1)), some (eI (a2)), some (eI (a3))]) (s2 := [eI (1)]) rfl rfl rfl ?_
          refine w_go (t1 := 25) rfl rfl ?_
          exact b_rz rfl rfl (Or.inr rfl) (K (1) (by decide))
theorem s_241 {L : Nat} {ρ : Nat → Int} {rc : eQ} {d : Nat} {f : eFr} {F : List eFr} {μ : eM} {g : Nat → Nat} {a0 : Nat} {a1 : Int} {a2 : Int} {a3 : Int} (hI : SI g μ) (gA0 : g a0 = 52) (bA1 : 0 ≤ a1 ∧ a1 ≤ 889) (bA2 : -2147483648 ≤ a2 ∧ a2 ≤ 2147483647) (bA3 : -2147483648 ≤ a3 ∧ a3 ≤ 2147483647) (K : ∀ (v : Int), (0 ≤ v ∧ v ≤ 1) → ex_q (dt_fg L ρ) rc (d + 2, (f.1, f.2.1, f.2.2.1, eI v :: f.2.2.2), F, μ)) : ex_q (dt_fg L ρ) rc (d + 1, (241, 0, [some (eR a0), some (eI (a1)), some (eI (a2)), some (eI (a3))], []), f :: F, μ) := by
  refine w_t (np := 1) (l2 := [some (eR a0), some (eI (a1)), some (eI (a2)), some (eI (a3))]) (s2 := [eR a0]) rfl (s_an rfl (pos_g hI gA0 (by decide))) rfl ?_
  refine w_t (np := 2) (l2 := [some (eR a0), some (eI (a1)), some (eI (a2)), some (eI (a3))]) (s2 := [eI (a1), eR a0]) rfl rfl rfl ?_
  refine w_t (np := 3) (l2 := [some (eR a0), some (eI (a1)), some (eI (a2)), some (eI (a3))]) (s2 := [eI (0), eI (a1), eR a0]) rfl rfl rfl ?_
  refine w_cw (np := 6) (as := [eI (a1), eI (0)]) (l2 := [some (eR a0), some (eI (a1)), some (eI (0))]) (rest := []) rfl rfl rfl (Nat.ble_eq.mp rfl) rfl rfl rfl (hI.kd gA0 (by decide) (n := 69) rfl) rfl ?_
  refine w_t (np := 1) (l2 := [some (eR a0), some (eI (a1)), some (eI (0))]) (s2 := [eR a0]) rfl (s_an rfl (pos_g hI gA0 (by decide))) rfl ?_
  refine j_gr (np := 4) rfl rfl hI gA0 (by decide) (n := 69) rfl rfl rfl ?_
  intro v1 e2 b3 z4
  have b3 : g v1 = 64 := Nat.eq_of_beq_eq_true b3
  refine w_t (np := 5) (l2 := [some (eR a0), some (eI (a1)), some (eI (0))]) (s2 := [eI (3), eR v1]) rfl rfl rfl ?_
  refine w_t (np := 6) (l2 := [some (eR a0), some (eI (a1)), some (eI (0))]) (s2 := [eI (a1), eI (3), eR v1]) rfl rfl rfl ?_
  obtain ⟨v5, e6⟩ : ∃ zz : Int, zz = (3) * (a1) := ⟨_, rfl⟩
  have b7 : 0 ≤ v5 ∧ v5 ≤ 2667 := by omega
  refine w_t (np := 7) (l2 := [some (eR a0), some (eI (a1)), some (eI (0))]) (s2 := [eI (v5), eR v1]) rfl (b_imul (by rw [← e6]; exact ev_w_in (by omega) (by omega))) rfl ?_
  refine w_t (np := 8) (l2 := [some (eR a0), some (eI (a1)), some (eI (0))]) (s2 := [eI (0), eI (v5), eR v1]) rfl rfl rfl ?_
  refine w_t (np := 9) (l2 := [some (eR a0), some (eI (a1)), some (eI (0))]) (s2 := [eI (v5), eR v1]) rfl (b_iadd (by rw [Int.add_zero]; exact ev_w_in (by omega) (by omega))) rfl ?_
  refine j_al (np := 10) rfl rfl hI b3 (by decide) (n := 2670) rfl rfl (lo := 0) (hi := 2669) (fun _ => rfl) (by omega) (by omega) ?_
  intro v8 e9 b10
  refine b_ri rfl rfl ?_
  show ex_q (dt_fg L ρ) rc (d + 1, (241, 6, [some (eR a0), some (eI (a1)), some (eI (a2)), some (eI (a3))], [eI (v8)]), f :: F, μ)
  refine w_t (np := 7) (l2 := [some (eR a0), some (eI (a1)), some (eI (a2)), some (eI (a3))]) (s2 := [eR a0, eI (v8)]) rfl (s_an rfl (pos_g hI gA0 (by decide))) rfl ?_
  refine w_t (np := 8) (l2 := [some (eR a0), some (eI (a1)), some (eI (a2)), some (eI (a3))]) (s2 := [eI (a1), eR a0, eI (v8)]) rfl rfl rfl ?_
  refine w_t (np := 9) (l2 := [some (eR a0), some (eI (a1)), some (eI (a2)), some (eI (a3))]) (s2 := [eI (1), eI (a1), eR a0, eI (v8)]) rfl rfl rfl ?_
  refine w_cw (np := 12) (as := [eI (a1), eI (1)]) (l2 := [some (eR a0), some (eI (a1)), some (eI (1))]) (rest := [eI (v8)]) rfl rfl rfl (Nat.ble_eq.mp rfl) rfl rfl rfl (hI.kd gA0 (by decide) (n := 69) rfl) rfl ?_
  refine w_t (np := 1) (l2 := [some (eR a0), some (eI (a1)), some (eI (1))]) (s2 := [eR a0]) rfl (s_an rfl (pos_g hI gA0 (by decide))) rfl ?_
  refine w_gf (np := 4) (v := eR v1) rfl rfl (hI.kd gA0 (by decide) (n := 69) rfl) (by rw [e2]; rfl) ?_
  refine w_t (np := 5) (l2 := [some (eR a0), some (eI (a1)), some (eI (1))]) (s2 := [eI (3), eR v1]) rfl rfl rfl ?_
  refine w_t (np := 6) (l2 := [some (eR a0), some (eI (a1)), some (eI (1))]) (s2 := [eI (a1), eI (3), eR v1]) rfl rfl rfl ?_
  obtain ⟨v11, e12⟩ : ∃ zz : Int, zz = (3) * (a1) := ⟨_, rfl⟩
  have b13 : 0 ≤ v11 ∧ v11 ≤ 2667 := by omega
  refine w_t (np := 7) (l2 := [some (eR a0), some (eI (a1)), some (eI (1))]) (s2 := [eI (v11), eR v1]) rfl (b_imul (by rw [← e12]; exact ev_w_in (by omega) (by omega))) rfl ?_
  refine w_t (np := 8) (l2 := [some (eR a0), some (eI (a1)), some (eI (1))]) (s2 := [eI (1), eI (v11), eR v1]) rfl rfl rfl ?_
  obtain ⟨v14, e15⟩ : ∃ zz : Int, zz = (v11) + (1) := ⟨_, rfl⟩
  have b16 : 1 ≤ v14 ∧ v14 ≤ 2668 := by omega
  refine w_t (np := 9) (l2 := [some (eR a0), some (eI (a1)), some (eI (1))]) (s2 := [eI (v14), eR v1]) rfl (b_iadd (by rw [← e15]; exact ev_w_in (by omega) (by omega))) rfl ?_
  refine j_al (np := 10) rfl rfl hI b3 (by decide) (n := 2670) rfl rfl (lo := 0) (hi := 2669) (fun _ => rfl) (by omega) (by omega) ?_
  intro v17 e18 b19
  refine b_ri rfl rfl ?_
  show ex_q (dt_fg L ρ) rc (d + 1, (241, 12, [some (eR a0), some (eI (a1)), some (eI (a2)), some (eI (a3))], [eI (v17), eI (v8)]), f :: F, μ)
  refine w_t (np := 13) (l2 := [some (eR a0), some (eI (a1)), some (eI (a2)), some (eI (a3))]) (s2 := [eI (a2), eI (v17), eI (v8)]) rfl rfl rfl ?_
  refine w_t (np := 14) (l2 := [some (eR a0), some (eI (a1)), some (eI (a2)), some (eI (a3))]) (s2 := [eI (a3), eI (a2), eI (v17), eI (v8)]) rfl rfl rfl ?_
  refine w_cu (np := 17) (as := [eI (v8), eI (v17), eI (a2), eI (a3)]) (l2 := [some (eI (v8)), some (eI (v17)), some (eI (a2)), some (eI (a3))]) (rest := []) rfl rfl rfl (Nat.ble_eq.mp rfl) rfl rfl rfl rfl ?_
  refine s_240 (a0 := v8) (a1 := v17) (a2 := a2) (a3 := a3) hI (by omega) (by omega) (by omega) (by omega) ?_
  intro v20 b21
  show ex_q (dt_fg L ρ) rc (d + 1, (241, 17, [some (eR a0), some (eI (a1)), some (eI (a2)), some (eI (a3))], [eI (v20)]), f :: F, μ)
  refine b_ine (t1 := 40) (t2 := 20) rfl rfl rfl (ev_w_in (by omega) (by omega)) (fun g22 => ?_) (fun g22 => ?_)
  · have b23 : 1 ≤ v20 ∧ v20 ≤ 1 := by omega
    refine w_t (np := 41) (l2 := [some (eR a0), some (eI (a1)), some (eI (a2)), some (eI (a3))]) (s2 := [eI (1)]) rfl rfl rfl ?_
    refine w_go (t1 := 45) rfl rfl ?_
    exact b_rz rfl rfl (Or.inr rfl) (K (1) (by decide))
  · have b23 : 0 ≤ v20 ∧ v20 ≤ 0 := by omega
    refine w_t (np := 21) (l2 := [some (eR a0), some (eI (a1)), some (eI (a2)), some (eI (a3))]) (s2 := [eR a0]) rfl (s_an rfl (pos_g hI gA0 (by decide))) rfl ?_
    refine w_t (np := 22) (l2 := [some (eR a0), some (eI (a1)), some (eI (a2)), some (eI (a3))]) (s2 := [eI (a1), eR a0]) rfl rfl rfl ?_
    refine w_t (np := 23) (l2 := [some (eR a0), some (eI (a1)), some (eI (a2)), some (eI (a3))]) (s2 := [eI (0), eI (a1), eR a0]) rfl rfl rfl ?_
    refine w_cw (np := 26) (as := [eI (a1), eI (0)]) (l2 := [some (eR a0), some (eI (a1)), some (eI (0))]) (rest := []) rfl rfl rfl (Nat.ble_eq.mp rfl) rfl rfl rfl (hI.kd gA0 (by decide) (n := 69) rfl) rfl ?_
    refine w_t (np := 1) (l2 := [some (eR a0), some (eI (a1)), some (eI (0))]) (s2 := [eR a0]) rfl (s_an rfl (pos_g hI gA0 (by decide))) rfl ?_
    refine w_gf (np := 4) (v := eR v1) rfl rfl (hI.kd gA0 (by decide) (n := 69) rfl) (by rw [e2]; rfl) ?_
    refine w_t (np := 5) (l2 := [some (eR a0), some (eI (a1)), some (eI (0))]) (s2 := [eI (3), eR v1]) rfl rfl rfl ?_
    refine w_t (np := 6) (l2 := [some (eR a0), some (eI (a1)), some (eI (0))]) (s2 := [eI (a1), eI (3), eR v1]) rfl rfl rfl ?_
    obtain ⟨v23, e24⟩ : ∃ zz : Int, zz = (3) * (a1) := ⟨_, rfl⟩
    have b25 : 0 ≤ v23 ∧ v23 ≤ 2667 := by omega
    refine w_t (np := 7) (l2 := [some (eR a0), some (eI (a1)), some (eI (0))]) (s2 := [eI (v23), eR v1]) rfl (b_imul (by rw [← e24]; exact ev_w_in (by omega) (by omega))) rfl ?_
    refine w_t (np := 8) (l2 := [some (eR a0), some (eI (a1)), some (eI (0))]) (s2 := [eI (0), eI (v23), eR v1]) rfl rfl rfl ?_
    refine w_t (np := 9) (l2 := [some (eR a0), some (eI (a1)), some (eI (0))]) (s2 := [eI (v23), eR v1]) rfl (b_iadd (by rw [Int.add_zero]; exact ev_w_in (by omega) (by omega))) rfl ?_
    refine j_al (np := 10) rfl rfl hI b3 (by decide) (n := 2670) rfl rfl (lo := 0) (hi := 2669) (fun _ => rfl) (by omega) (by omega) ?_
    intro v26 e27 b28
    refine b_ri rfl rfl ?_
    show ex_q (dt_fg L ρ) rc (d + 1, (241, 26, [some (eR a0), some (eI (a1)), some (eI (a2)), some (eI (a3))], [eI (v26)]), f :: F, μ)
    refine w_t (np := 27) (l2 := [some (eR a0), some (eI (a1)), some (eI (a2)), some (eI (a3))]) (s2 := [eR a0, eI (v26)]) rfl (s_an rfl (pos_g hI gA0 (by decide))) rfl ?_
    refine w_t (np := 28) (l2 := [some (eR a0), some (eI (a1)), some (eI (a2)), some (eI (a3))]) (s2 := [eI (a1), eR a0, eI (v26)]) rfl rfl rfl ?_
    refine w_t (np := 29) (l2 := [some (eR a0), some (eI (a1)), some (eI (a2)), some (eI (a3))]) (s2 := [eI (2), eI (a1), eR a0, eI (v26)]) rfl rfl rfl ?_
    refine w_cw (np := 32) (as := [eI (a1), eI (2)]) (l2 := [some (eR a0), some (eI (a1)), some (eI (2))]) (rest := [eI (v26)]) rfl rfl rfl (Nat.ble_eq.mp rfl) rfl rfl rfl (hI.kd gA0 (by decide) (n := 69) rfl) rfl ?_
    refine w_t (np := 1) (l2 := [some (eR a0), some (eI (a1)), some (eI (2))]) (s2 := [eR a0]) rfl (s_an rfl (pos_g hI gA0 (by decide))) rfl ?_
    refine w_gf (np := 4) (v := eR v1) rfl rfl (hI.kd gA0 (by decide) (n := 69) rfl) (by rw [e2]; rfl) ?_
    refine w_t (np := 5) (l2 := [some (eR a0), some (eI (a1)), some (eI (2))]) (s2 := [eI (3), eR v1]) rfl rfl rfl ?_
    refine w_t (np := 6) (l2 := [some (eR a0), some (eI (a1)), some (eI (2))]) (s2 := [eI (a1), eI (3), eR v1]) rfl rfl rfl ?_
    obtain ⟨v29, e30⟩ : ∃ zz : Int, zz = (3) * (a1) := ⟨_, rfl⟩
    have b31 : 0 ≤ v29 ∧ v29 ≤ 2667 := by omega
    refine w_t (np := 7) (l2 := [some (eR a0), some (eI (a1)), some (eI (2))]) (s2 := [eI (v29), eR v1]) rfl (b_imul (by rw [← e30]; exact ev_w_in (by omega) (by omega))) rfl ?_
    refine w_t (np := 8) (l2 := [some (eR a0), some (eI (a1)), some (eI (2))]) (s2 := [eI (2), eI (v29), eR v1]) rfl rfl rfl ?_
    obtain ⟨v32, e33⟩ : ∃ zz : Int, zz = (v29) + (2) := ⟨_, rfl⟩
    have b34 : 2 ≤ v32 ∧ v32 ≤ 2669 := by omega
    refine w_t (np := 9) (l2 := [some (eR a0), some (eI (a1)), some (eI (2))]) (s2 := [eI (v32), eR v1]) rfl (b_iadd (by rw [← e33]; exact ev_w_in (by omega) (by omega))) rfl ?_
    refine j_al (np := 10) rfl rfl hI b3 (by decide) (n := 2670) rfl rfl (lo := 0) (hi := 2669) (fun _ => rfl) (by omega) (by omega) ?_
    intro v35 e36 b37
    refine b_ri rfl rfl ?_
    show ex_q (dt_fg L ρ) rc (d + 1, (241, 32, [some (eR a0), some (eI (a1)), some (eI (a2)), some (eI (a3))], [eI (v35), eI (v26)]), f :: F, μ)
    refine w_t (np := 33) (l2 := [some (eR a0), some (eI (a1)), some (eI (a2)), some (eI (a3))]) (s2 := [eI (a2), eI (v35), eI (v26)]) rfl rfl rfl ?_
    refine w_t (np := 34) (l2 := [some (eR a0), some (eI (a1)), some (eI (a2)), some (eI (a3))]) (s2 := [eI (a3), eI (a2), eI (v35), eI (v26)]) rfl rfl rfl ?_
    refine w_cu (np := 37) (as := [eI (v26), eI (v35), eI (a2), eI (a3)]) (l2 := [some (eI (v26)), some (eI (v35)), some (eI (a2)), some (eI (a3))]) (rest := []) rfl rfl rfl (Nat.ble_eq.mp rfl) rfl rfl rfl rfl ?_
    refine s_240 (a0 := v26) (a1 := v35) (a2 := a2) (a3 := a3) hI (by omega) (by omega) (by omega) (by omega) ?_
    intro v38 b39
    show ex_q (dt_fg L ρ) rc (d + 1, (241, 37, [some (eR a0), some (eI (a1)), some (eI (a2)), some (eI (a3))], [eI (v38)]), f :: F, μ)
    refine b_ieq (t1 := 44) (t2 := 40) rfl rfl rfl (ev_w_in (by omega) (by omega)) (fun g40 => ?_) (fun g40 => ?_)
    · have b41 : 0 ≤ v38 ∧ v38 ≤ 0 := by omega
      refine w_t (np := 45) (l2 := [some (eR a0), some (eI (a1)), some (eI (a2)), some (eI (a3))]) (s2 := [eI (0)]) rfl rfl rfl ?_
      exact b_rz rfl rfl (Or.inl rfl) (K (0) (by decide))
    · have b41 : 1 ≤ v38 ∧ v38 ≤ 1 := by omega
      refine w_t (np := 41) (l2 := [some (eR a0), some (eI (a1)), some (eI (a2)), some (eI (a3))]) (s2 := [eI (1)]) rfl rfl rfl ?_
      refine w_go (t1 := 45) rfl rfl ?_
      exact b_rz rfl rfl (Or.inr rfl) (K (1) (by decide))
def l_242 : List Nat := [17408, 17664, 17152]
theorem s_242 {L : Nat} {ρ : Nat → Int} {rc : eQ} {d : Nat} {f : eFr} {F : List eFr} {μ : eM} {g : Nat → Nat} {a0 : Nat} {a1 : Int} {a2 : Int} (hI : SI g μ) (gA0 : g a0 = 52) (bA1 : 0 ≤ a1 ∧ a1 ≤ 889) (bA2 : 0 ≤ a2 ∧ a2 ≤ 889) (K : ∀ (μ2 : eM), SI g μ2 → Fr l_242 0 0 g μ μ2 → ex_q (dt_fg L ρ) rc (d + 3, (f.1, f.2.1, f.2.2.1, f.2.2.2), F, μ2)) : ex_q (dt_fg L ρ) rc (d + 2, (242, 0, [some (eR a0), some (eI (a1)), some (eI (a2))], []), f :: F, μ) := by
  have F0 : Fr l_242 0 0 g μ μ := Fr.r
  refine w_t (np := 1) (l2 := [some (eR a0), some (eI (a1)), some (eI (a2))]) (s2 := [eR a0]) rfl (s_an rfl (pos_g hI gA0 (by decide))) rfl ?_
  refine j_gr (np := 4) rfl rfl hI gA0 (by decide) (n := 69) rfl rfl rfl ?_
  intro v1 e2 b3 z4
  have b3 : g v1 = 67 := Nat.eq_of_beq_eq_true b3
  refine w_t (np := 5) (l2 := [some (eR a0), some (eI (a1)), some (eI (a2))]) (s2 := [eI (a1), eR v1]) rfl rfl rfl ?_
  refine j_al (np := 6) rfl rfl hI b3 (by decide) (n := 890) rfl rfl (lo := -1) (hi := 889) (fun _ => rfl) (by omega) (by omega) ?_
  intro v5 e6 b7
  refine b_ige (t1 := 61) (t2 := 9) rfl rfl rfl (ev_w_in (by omega) (by omega)) (fun g8 => ?_) (fun g8 => ?_)
  · have b9 : 0 ≤ v5 ∧ v5 ≤ 889 := by omega
    refine w_t (np := 62) (l2 := [some (eR a0), some (eI (a1)), some (eI (a2))]) (s2 := [eR a0]) rfl (s_an rfl (pos_g hI gA0 (by decide))) rfl ?_
    refine j_gr (np := 65) rfl rfl hI gA0 (by decide) (n := 69) rfl rfl rfl ?_
    intro v9 e10 b11 z12
    have b11 : g v9 = 68 := Nat.eq_of_beq_eq_true b11
    refine w_t (np := 66) (l2 := [some (eR a0), some (eI (a1)), some (eI (a2))]) (s2 := [eI (a1), eR v9]) rfl rfl rfl ?_
    refine j_al (np := 67) rfl rfl hI b11 (by decide) (n := 890) rfl rfl (lo := -1) (hi := 889) (fun _ => rfl) (by omega) (by omega) ?_
    intro v13 e14 b15
    refine b_ige (t1 := 97) (t2 := 70) rfl rfl rfl (ev_w_in (by omega) (by omega)) (fun g16 => ?_) (fun g16 => ?_)
    · have b17 : 0 ≤ v13 ∧ v13 ≤ 889 := by omega
      refine w_t (np := 98) (l2 := [some (eR a0), some (eI (a1)), some (eI (a2))]) (s2 := [eR a0]) rfl (s_an rfl (pos_g hI gA0 (by decide))) rfl ?_
      refine j_gr (np := 101) rfl rfl hI gA0 (by decide) (n := 69) rfl rfl rfl ?_
      intro v17 e18 b19 z20
      have b19 : g v17 = 69 := Nat.eq_of_beq_eq_true b19
      refine w_t (np := 102) (l2 := [some (eR a0), some (eI (a1)), some (eI (a2))]) (s2 := [eI (a1), eR v17]) rfl rfl rfl ?_
      refine j_al (np := 103) rfl rfl hI b19 (by decide) (n := 890) rfl rfl (lo := -1) (hi := 889) (fun _ => rfl) (by omega) (by omega) ?_
      intro v21 e22 b23
      refine b_ige (t1 := 133) (t2 := 106) rfl rfl rfl (ev_w_in (by omega) (by omega)) (fun g24 => ?_) (fun g24 => ?_)
      · have b25 : 0 ≤ v21 ∧ v21 ≤ 889 := by omega
        exact v_rv rfl rfl (K μ hI F0)
      · have b25 : -1 ≤ v21 ∧ v21 ≤ -1 := by omega
        refine w_t (np := 107) (l2 := [some (eR a0), some (eI (a1)), some (eI (a2))]) (s2 := [eR a0]) rfl (s_an rfl (pos_g hI gA0 (by decide))) rfl ?_
        refine w_t (np := 108) (l2 := [some (eR a0), some (eI (a1)), some (eI (a2))]) (s2 := [eI (a2), eR a0]) rfl rfl rfl ?_
        refine w_t (np := 109) (l2 := [some (eR a0), some (eI (a1)), some (eI (a2))]) (s2 := [eR a0, eI (a2), eR a0]) rfl (s_an rfl (pos_g hI gA0 (by decide))) rfl ?_
        refine w_t (np := 110) (l2 := [some (eR a0), some (eI (a1)), some (eI (a2))]) (s2 := [eI (a1), eR a0, eI (a2), eR a0]) rfl rfl rfl ?_
        refine w_t (np := 111) (l2 := [some (eR a0), some (eI (a1)), some (eI (a2))]) (s2 := [eI (0), eI (a1), eR a0, eI (a2), eR a0]) rfl rfl rfl ?_
        refine w_cw (np := 114) (as := [eI (a1), eI (0)]) (l2 := [some (eR a0), some (eI (a1)), some (eI (0))]) (rest := [eI (a2), eR a0]) rfl rfl rfl (Nat.ble_eq.mp rfl) rfl rfl rfl (hI.kd gA0 (by decide) (n := 69) rfl) rfl ?_
        refine w_t (np := 1) (l2 := [some (eR a0), some (eI (a1)), some (eI (0))]) (s2 := [eR a0]) rfl (s_an rfl (pos_g hI gA0 (by decide))) rfl ?_
        refine j_gr (np := 4) rfl rfl hI gA0 (by decide) (n := 69) rfl rfl rfl ?_
        intro v25 e26 b27 z28
        have b27 : g v25 = 64 := Nat.eq_of_beq_eq_true b27
        refine w_t (np := 5) (l2 := [some (eR a0), some (eI (a1)), some (eI (0))]) (s2 := [eI (3), eR v25]) rfl rfl rfl ?_
        refine w_t (np := 6) (l2 := [some (eR a0), some (eI (a1)), some (eI (0))]) (s2 := [eI (a1), eI (3), eR v25]) rfl rfl rfl ?_
        obtain ⟨v29, e30⟩ : ∃ zz : Int, zz = (3) * (a1) := ⟨_, rfl⟩
        have b31 : 0 ≤ v29 ∧ v29 ≤ 2667 := by omega
        refine w_t (np := 7) (l2 := [some (eR a0), some (eI (a1)), some (eI (0))]) (s2 := [eI (v29), eR v25]) rfl (b_imul (by rw [← e30]; exact ev_w_in (by omega) (by omega))) rfl ?_
        refine w_t (np := 8) (l2 := [some (eR a0), some (eI (a1)), some (eI (0))]) (s2 := [eI (0), eI (v29), eR v25]) rfl rfl rfl ?_
        refine w_t (np := 9) (l2 := [some (eR a0), some (eI (a1)), some (eI (0))]) (s2 := [eI (v29), eR v25]) rfl (b_iadd (by rw [Int.add_zero]; exact ev_w_in (by omega) (by omega))) rfl ?_
        refine j_al (np := 10) rfl rfl hI b27 (by decide) (n := 2670) rfl rfl (lo := 0) (hi := 2669) (fun _ => rfl) (by omega) (by omega) ?_
        intro v32 e33 b34
        refine b_ri rfl rfl ?_
        show ex_q (dt_fg L ρ) rc (d + 2, (242, 114, [some (eR a0), some (eI (a1)), some (eI (a2))], [eI (v32), eI (a2), eR a0]), f :: F, μ)
        refine w_t (np := 115) (l2 := [some (eR a0), some (eI (a1)), some (eI (a2))]) (s2 := [eR a0, eI (v32), eI (a2), eR a0]) rfl (s_an rfl (pos_g hI gA0 (by decide))) rfl ?_
        refine w_t (np := 116) (l2 := [some (eR a0), some (eI (a1)), some (eI (a2))]) (s2 := [eI (a1), eR a0, eI (v32), eI (a2), eR a0]) rfl rfl rfl ?_
        refine w_t (np := 117) (l2 := [some (eR a0), some (eI (a1)), some (eI (a2))]) (s2 := [eI (2), eI (a1), eR a0, eI (v32), eI (a2), eR a0]) rfl rfl rfl ?_
        refine w_cw (np := 120) (as := [eI (a1), eI (2)]) (l2 := [some (eR a0), some (eI (a1)), some (eI (2))]) (rest := [eI (v32), eI (a2), eR a0]) rfl rfl rfl (Nat.ble_eq.mp rfl) rfl rfl rfl (hI.kd gA0 (by decide) (n := 69) rfl) rfl ?_
        refine w_t (np := 1) (l2 := [some (eR a0), some (eI (a1)), some (eI (2))]) (s2 := [eR a0]) rfl (s_an rfl (pos_g hI gA0 (by decide))) rfl ?_
        refine w_gf (np := 4) (v := eR v25) rfl rfl (hI.kd gA0 (by decide) (n := 69) rfl) (by rw [e26]; rfl) ?_
        refine w_t (np := 5) (l2 := [some (eR a0), some (eI (a1)), some (eI (2))]) (s2 := [eI (3), eR v25]) rfl rfl rfl ?_
        refine w_t (np := 6) (l2 := [some (eR a0), some (eI (a1)), some (eI (2))]) (s2 := [eI (a1), eI (3), eR v25]) rfl rfl rfl ?_
        obtain ⟨v35, e36⟩ : ∃ zz : Int, zz = (3) * (a1) := ⟨_, rfl⟩
        have b37 : 0 ≤ v35 ∧ v35 ≤ 2667 := by omega
        refine w_t (np := 7) (l2 := [some (eR a0), some (eI (a1)), some (eI (2))]) (s2 := [eI (v35), eR v25]) rfl (b_imul (by rw [← e36]; exact ev_w_in (by omega) (by omega))) rfl ?_
        refine w_t (np := 8) (l2 := [some (eR a0), some (eI (a1)), some (eI (2))]) (s2 := [eI (2), eI (v35), eR v25]) rfl rfl rfl ?_
        obtain ⟨v38, e39⟩ : ∃ zz : Int, zz = (v35) + (2) := ⟨_, rfl⟩
        have b40 : 2 ≤ v38 ∧ v38 ≤ 2669 := by omega
        refine w_t (np := 9) (l2 := [some (eR a0), some (eI (a1)), some (eI (2))]) (s2 := [eI (v38), eR v25]) rfl (b_iadd (by rw [← e39]; exact ev_w_in (by omega) (by omega))) rfl ?_
        refine j_al (np := 10) rfl rfl hI b27 (by decide) (n := 2670) rfl rfl (lo := 0) (hi := 2669) (fun _ => rfl) (by omega) (by omega) ?_
        intro v41 e42 b43
        refine b_ri rfl rfl ?_
        show ex_q (dt_fg L ρ) rc (d + 2, (242, 120, [some (eR a0), some (eI (a1)), some (eI (a2))], [eI (v41), eI (v32), eI (a2), eR a0]), f :: F, μ)
        refine w_cw (np := 123) (as := [eI (a2), eI (v32), eI (v41)]) (l2 := [some (eR a0), some (eI (a2)), some (eI (v32)), some (eI (v41))]) (rest := []) rfl rfl rfl (Nat.ble_eq.mp rfl) rfl rfl rfl (hI.kd gA0 (by decide) (n := 69) rfl) rfl ?_
        refine s_241 (a1 := a2) (a2 := v32) (a3 := v41) hI gA0 (by omega) (by omega) (by omega) ?_
        intro v44 b45
        show ex_q (dt_fg L ρ) rc (d + 2, (242, 123, [some (eR a0), some (eI (a1)), some (eI (a2))], [eI (v44)]), f :: F, μ)
        refine b_ieq (t1 := 133) (t2 := 126) rfl rfl rfl (ev_w_in (by omega) (by omega)) (fun g46 => ?_) (fun g46 => ?_)
        · have b47 : 0 ≤ v44 ∧ v44 ≤ 0 := by omega
          exact v_rv rfl rfl (K μ hI F0)
        · have b47 : 1 ≤ v44 ∧ v44 ≤ 1 := by omega
          refine w_t (np := 127) (l2 := [some (eR a0), some (eI (a1)), some (eI (a2))]) (s2 := [eR a0]) rfl (s_an rfl (pos_g hI gA0 (by decide))) rfl ?_
          refine w_gf (np := 130) (v := eR v17) rfl rfl (hI.kd gA0 (by decide) (n := 69) rfl) (by rw [e18]; rfl) ?_
          refine w_t (np := 131) (l2 := [some (eR a0), some (eI (a1)), some (eI (a2))]) (s2 := [eI (a1), eR v17]) rfl rfl rfl ?_
          refine w_t (np := 132) (l2 := [some (eR a0), some (eI (a1)), some (eI (a2))]) (s2 := [eI (a2), eI (a1), eR v17]) rfl rfl rfl ?_
          refine j_as (np := 133) rfl rfl hI b19 (by decide) (n := 890) rfl rfl (lo := -1) (hi := 889) (fun _ => rfl) (by omega) (by omega) (by omega) ?_
          intro m47 I48 W49
          have F50 : Fr l_242 0 0 g μ m47 := F0.v W49 b19 rfl rfl
          exact v_rv rfl rfl (K m47 I48 F50)
    · have b17 : -1 ≤ v13 ∧ v13 ≤ -1 := by omega
      refine w_t (np := 71) (l2 := [some (eR a0), some (eI (a1)), some (eI (a2))]) (s2 := [eR a0]) rfl (s_an rfl (pos_g hI gA0 (by decide))) rfl ?_
      refine w_t (np := 72) (l2 := [some (eR a0), some (eI (a1)), some (eI (a2))]) (s2 := [eI (a2), eR a0]) rfl rfl rfl ?_
      refine w_t (np := 73) (l2 := [some (eR a0), some (eI (a1)), some (eI (a2))]) (s2 := [eR a0, eI (a2), eR a0]) rfl (s_an rfl (pos_g hI gA0 (by decide))) rfl ?_
      refine w_t (np := 74) (l2 := [some (eR a0), some (eI (a1)), some (eI (a2))]) (s2 := [eI (a1), eR a0, eI (a2), eR a0]) rfl rfl rfl ?_
      refine w_t (np := 75) (l2 := [some (eR a0), some (eI (a1)), some (eI (a2))]) (s2 := [eI (0), eI (a1), eR a0, eI (a2), eR a0]) rfl rfl rfl ?_
      refine w_cw (np := 78) (as := [eI (a1), eI (0)]) (l2 := [some (eR a0), some (eI (a1)), some (eI (0))]) (rest := [eI (a2), eR a0]) rfl rfl rfl (Nat.ble_eq.mp rfl) rfl rfl rfl (hI.kd gA0 (by decide) (n := 69) rfl) rfl ?_
      refine w_t (np := 1) (l2 := [some (eR a0), some (eI (a1)), some (eI (0))]) (s2 := [eR a0]) rfl (s_an rfl (pos_g hI gA0 (by decide))) rfl ?_
      refine j_gr (np := 4) rfl rfl hI gA0 (by decide) (n := 69) rfl rfl rfl ?_
      intro v17 e18 b19 z20
      have b19 : g v17 = 64 := Nat.eq_of_beq_eq_true b19
      refine w_t (np := 5) (l2 := [some (eR a0), some (eI (a1)), some (eI (0))]) (s2 := [eI (3), eR v17]) rfl rfl rfl ?_
      refine w_t (np := 6) (l2 := [some (eR a0), some (eI (a1)), some (eI (0))]) (s2 := [eI (a1), eI (3), eR v17]) rfl rfl rfl ?_
      obtain ⟨v21, e22⟩ : ∃ zz : Int, zz = (3) * (a1) := ⟨_, rfl⟩
      have b23 : 0 ≤ v21 ∧ v21 ≤ 2667 := by omega
      refine w_t (np := 7) (l2 := [some (eR a0), some (eI (a1)), some (eI (0))]) (s2 := [eI (v21), eR v17]) rfl (b_imul (by rw [← e22]; exact ev_w_in (by omega) (by omega))) rfl ?_
      refine w_t (np := 8) (l2 := [some (eR a0), some (eI (a1)), some (eI (0))]) (s2 := [eI (0), eI (v21), eR v17]) rfl rfl rfl ?_
      refine w_t (np := 9) (l2 := [some (eR a0), some (eI (a1)), some (eI (0))]) (s2 := [eI (v21), eR v17]) rfl (b_iadd (by rw [Int.add_zero]; exact ev_w_in (by omega) (by omega))) rfl ?_
      refine j_al (np := 10) rfl rfl hI b19 (by decide) (n := 2670) rfl rfl (lo := 0) (hi := 2669) (fun _ => rfl) (by omega) (by omega) ?_
      intro v24 e25 b26
      refine b_ri rfl rfl ?_
      show ex_q (dt_fg L ρ) rc (d + 2, (242, 78, [some (eR a0), some (eI (a1)), some (eI (a2))], [eI (v24), eI (a2), eR a0]), f :: F, μ)
      refine w_t (np := 79) (l2 := [some (eR a0), some (eI (a1)), some (eI (a2))]) (s2 := [eR a0, eI (v24), eI (a2), eR a0]) rfl (s_an rfl (pos_g hI gA0 (by decide))) rfl ?_
      refine w_t (np := 80) (l2 := [some (eR a0), some (eI (a1)), some (eI (a2))]) (s2 := [eI (a1), eR a0, eI (v24), eI (a2), eR a0]) rfl rfl rfl ?_
      refine w_t (np := 81) (l2 := [some (eR a0), some (eI (a1)), some (eI (a2))]) (s2 := [eI (1), eI (a1), eR a0, eI (v24), eI (a2), eR a0]) rfl rfl rfl ?_
      refine w_cw (np := 84) (as := [eI (a1), eI (1)]) (l2 := [some (eR a0), some (eI (a1)), some (eI (1))]) (rest := [eI (v24), eI (a2), eR a0]) rfl rfl rfl (Nat.ble_eq.mp rfl) rfl rfl rfl (hI.kd gA0 (by decide) (n := 69) rfl) rfl ?_
      refine w_t (np := 1) (l2 := [some (eR a0), some (eI (a1)), some (eI (1))]) (s2 := [eR a0]) rfl (s_an rfl (pos_g hI gA0 (by decide))) rfl ?_
      refine w_gf (np := 4) (v := eR v17) rfl rfl (hI.kd gA0 (by decide) (n := 69) rfl) (by rw [e18]; rfl) ?_
      refine w_t (np := 5) (l2 := [some (eR a0), some (eI (a1)), some (eI (1))]) (s2 := [eI (3), eR v17]) rfl rfl rfl ?_
      refine w_t (np := 6) (l2 := [some (eR a0), some (eI (a1)), some (eI (1))]) (s2 := [eI (a1), eI (3), eR v17]) rfl rfl rfl ?_
      obtain ⟨v27, e28⟩ : ∃ zz : Int, zz = (3) * (a1) := ⟨_, rfl⟩
      have b29 : 0 ≤ v27 ∧ v27 ≤ 2667 := by omega
      refine w_t (np := 7) (l2 := [some (eR a0), some (eI (a1)), some (eI (1))]) (s2 := [eI (v27), eR v17]) rfl (b_imul (by rw [← e28]; exact ev_w_in (by omega) (by omega))) rfl ?_
      refine w_t (np := 8) (l2 := [some (eR a0), some (eI (a1)), some (eI (1))]) (s2 := [eI (1), eI (v27), eR v17]) rfl rfl rfl ?_
      obtain ⟨v30, e31⟩ : ∃ zz : Int, zz = (v27) + (1) := ⟨_, rfl⟩
      have b32 : 1 ≤ v30 ∧ v30 ≤ 2668 := by omega
      refine w_t (np := 9) (l2 := [some (eR a0), some (eI (a1)), some (eI (1))]) (s2 := [eI (v30), eR v17]) rfl (b_iadd (by rw [← e31]; exact ev_w_in (by omega) (by omega))) rfl ?_
      refine j_al (np := 10) rfl rfl hI b19 (by decide) (n := 2670) rfl rfl (lo := 0) (hi := 2669) (fun _ => rfl) (by omega) (by omega) ?_
      intro v33 e34 b35
      refine b_ri rfl rfl ?_
      show ex_q (dt_fg L ρ) rc (d + 2, (242, 84, [some (eR a0), some (eI (a1)), some (eI (a2))], [eI (v33), eI (v24), eI (a2), eR a0]), f :: F, μ)
      refine w_cw (np := 87) (as := [eI (a2), eI (v24), eI (v33)]) (l2 := [some (eR a0), some (eI (a2)), some (eI (v24)), some (eI (v33))]) (rest := []) rfl rfl rfl (Nat.ble_eq.mp rfl) rfl rfl rfl (hI.kd gA0 (by decide) (n := 69) rfl) rfl ?_
      refine s_241 (a1 := a2) (a2 := v24) (a3 := v33) hI gA0 (by omega) (by omega) (by omega) ?_
      intro v36 b37
      show ex_q (dt_fg L ρ) rc (d + 2, (242, 87, [some (eR a0), some (eI (a1)), some (eI (a2))], [eI (v36)]), f :: F, μ)
      refine b_ieq (t1 := 97) (t2 := 90) rfl rfl rfl (ev_w_in (by omega) (by omega)) (fun g38 => ?_) (fun g38 => ?_)
      · have b39 : 0 ≤ v36 ∧ v36 ≤ 0 := by omega
        refine w_t (np := 98) (l2 := [some (eR a0), some (eI (a1)), some (eI (a2))]) (s2 := [eR a0]) rfl (s_an rfl (pos_g hI gA0 (by decide))) rfl ?_
        refine j_gr (np := 101) rfl rfl hI gA0 (by decide) (n := 69) rfl rfl rfl ?_
        intro v39 e40 b41 z42
        have b41 : g v39 = 69 := Nat.eq_of_beq_eq_true b41
        refine w_t (np := 102) (l2 := [some (eR a0), some (eI (a1)), some (eI (a2))]) (s2 := [eI (a1), eR v39]) rfl rfl rfl ?_
        refine j_al (np := 103) rfl rfl hI b41 (by decide) (n := 890) rfl rfl (lo := -1) (hi := 889) (fun _ => rfl) (by omega) (by omega) ?_
        intro v43 e44 b45
        refine b_ige (t1 := 133) (t2 := 106) rfl rfl rfl (ev_w_in (by omega) (by omega)) (fun g46 => ?_) (fun g46 => ?_)
        · have b47 : 0 ≤ v43 ∧ v43 ≤ 889 := by omega
          exact v_rv rfl rfl (K μ hI F0)
        · have b47 : -1 ≤ v43 ∧ v43 ≤ -1 := by omega
          refine w_t (np := 107) (l2 := [some (eR a0), some (eI (a1)), some (eI (a2))]) (s2 := [eR a0]) rfl (s_an rfl (pos_g hI gA0 (by decide))) rfl ?_
          refine w_t (np := 108) (l2 := [some (eR a0), some (eI (a1)), some (eI (a2))]) (s2 := [eI (a2), eR a0]) rfl rfl rfl ?_
          refine w_t (np := 109) (l2 := [some (eR a0), some (eI (a1)), some (eI (a2))]) (s2 := [eR a0, eI (a2), eR a0]) rfl (s_an rfl (pos_g hI gA0 (by decide))) rfl ?_
          refine w_t (np := 110) (l2 := [some (eR a0), some (eI (a1)), some (eI (a2))]) (s2 := [eI (a1), eR a0, eI (a2), eR a0]) rfl rfl rfl ?_
          refine w_t (np := 111) (l2 := [some (eR a0), some (eI (a1)), some (eI (a2))]) (s2 := [eI (0), eI (a1), eR a0, eI (a2), eR a0]) rfl rfl rfl ?_
          refine w_cw (np := 114) (as := [eI (a1), eI (0)]) (l2 := [some (eR a0), some (eI (a1)), some (eI (0))]) (rest := [eI (a2), eR a0]) rfl rfl rfl (Nat.ble_eq.mp rfl) rfl rfl rfl (hI.kd gA0 (by decide) (n := 69) rfl) rfl ?_
          refine w_t (np := 1) (l2 := [some (eR a0), some (eI (a1)), some (eI (0))]) (s2 := [eR a0]) rfl (s_an rfl (pos_g hI gA0 (by decide))) rfl ?_
          refine w_gf (np := 4) (v := eR v17) rfl rfl (hI.kd gA0 (by decide) (n := 69) rfl) (by rw [e18]; rfl) ?_
          refine w_t (np := 5) (l2 := [some (eR a0), some (eI (a1)), some (eI (0))]) (s2 := [eI (3), eR v17]) rfl rfl rfl ?_
          refine w_t (np := 6) (l2 := [some (eR a0), some (eI (a1)), some (eI (0))]) (s2 := [eI (a1), eI (3), eR v17]) rfl rfl rfl ?_
          obtain ⟨v47, e48⟩ : ∃ zz : Int, zz = (3) * (a1) := ⟨_, rfl⟩
          have b49 : 0 ≤ v47 ∧ v47 ≤ 2667 := by omega
          refine w_t (np := 7) (l2 := [some (eR a0), some (eI (a1)), some (eI (0))]) (s2 := [eI (v47), eR v17]) rfl (b_imul (by rw [← e48]; exact ev_w_in (by omega) (by omega))) rfl ?_
          refine w_t (np := 8) (l2 := [some (eR a0), some (eI (a1)), some (eI (0))]) (s2 := [eI (0), eI (v47), eR v17]) rfl rfl rfl ?_
          refine w_t (np := 9) (l2 := [some (eR a0), some (eI (a1)), some (eI (0))]) (s2 := [eI (v47), eR v17]) rfl (b_iadd (by rw [Int.add_zero]; exact ev_w_in (by omega) (by omega))) rfl ?_
          refine j_al (np := 10) rfl rfl hI b19 (by decide) (n := 2670) rfl rfl (lo := 0) (hi := 2669) (fun _ => rfl) (by omega) (by omega) ?_
          intro v50 e51 b52
          refine b_ri rfl rfl ?_
          show ex_q (dt_fg L ρ) rc (d + 2, (242, 114, [some (eR a0), some (eI (a1)), some (eI (a2))], [eI (v50), eI (a2), eR a0]), f :: F, μ)
          refine w_t (np := 115) (l2 := [some (eR a0), some (eI (a1)), some (eI (a2))]) (s2 := [eR a0, eI (v50), eI (a2), eR a0]) rfl (s_an rfl (pos_g hI gA0 (by decide))) rfl ?_
          refine w_t (np := 116) (l2 := [some (eR a0), some (eI (a1)), some (eI (a2))]) (s2 := [eI (a1), eR a0, eI (v50), eI (a2), eR a0]) rfl rfl rfl ?_
          refine w_t (np := 117) (l2 := [some (eR a0), some (eI (a1)), some (eI (a2))]) (s2 := [eI (2), eI (a1), eR a0, eI (v50), eI (a2), eR a0]) rfl rfl rfl ?_
          refine w_cw (np := 120) (as := [eI (a1), eI (2)]) (l2 := [some (eR a0), some (eI (a1)), some (eI (2))]) (rest := [eI (v50), eI (a2), eR a0]) rfl rfl rfl (Nat.ble_eq.mp rfl) rfl rfl rfl (hI.kd gA0 (by decide) (n := 69) rfl) rfl ?_
          refine w_t (np := 1) (l2 := [some (eR a0), some (eI (a1)), some (eI (2))]) (s2 := [eR a0]) rfl (s_an rfl (pos_g hI gA0 (by decide))) rfl ?_
          refine w_gf (np := 4) (v := eR v17) rfl rfl (hI.kd gA0 (by decide) (n := 69) rfl) (by rw [e18]; rfl) ?_
          refine w_t (np := 5) (l2 := [some (eR a0), some (eI (a1)), some (eI (2))]) (s2 := [eI (3), eR v17]) rfl rfl rfl ?_
          refine w_t (np := 6) (l2 := [some (eR a0), some (eI (a1)), some (eI (2))]) (s2 := [eI (a1), eI (3), eR v17]) rfl rfl rfl ?_
          obtain ⟨v53, e54⟩ : ∃ zz : Int, zz = (3) * (a1) := ⟨_, rfl⟩
          have b55 : 0 ≤ v53 ∧ v53 ≤ 2667 := by omega
          refine w_t (np := 7) (l2 := [some (eR a0), some (eI (a1)), some (eI (2))]) (s2 := [eI (v53), eR v17]) rfl (b_imul (by rw [← e54]; exact ev_w_in (by omega) (by omega))) rfl ?_
          refine w_t (np := 8) (l2 := [some (eR a0), some (eI (a1)), some (eI (2))]) (s2 := [eI (2), eI (v53), eR v17]) rfl rfl rfl ?_
          obtain ⟨v56, e57⟩ : ∃ zz : Int, zz = (v53) + (2) := ⟨_, rfl⟩
          have b58 : 2 ≤ v56 ∧ v56 ≤ 2669 := by omega
          refine w_t (np := 9) (l2 := [some (eR a0), some (eI (a1)), some (eI (2))]) (s2 := [eI (v56), eR v17]) rfl (b_iadd (by rw [← e57]; exact ev_w_in (by omega) (by omega))) rfl ?_
          refine j_al (np := 10) rfl rfl hI b19 (by decide) (n := 2670) rfl rfl (lo := 0) (hi := 2669) (fun _ => rfl) (by omega) (by omega) ?_
          intro v59 e60 b61
          refine b_ri rfl rfl ?_
          show ex_q (dt_fg L ρ) rc (d + 2, (242, 120, [some (eR a0), some (eI (a1)), some (eI (a2))], [eI (v59), eI (v50), eI (a2), eR a0]), f :: F, μ)
          refine w_cw (np := 123) (as := [eI (a2), eI (v50), eI (v59)]) (l2 := [some (eR a0), some (eI (a2)), some (eI (v50)), some (eI (v59))]) (rest := []) rfl rfl rfl (Nat.ble_eq.mp rfl) rfl rfl rfl (hI.kd gA0 (by decide) (n := 69) rfl) rfl ?_
          refine s_241 (a1 := a2) (a2 := v50) (a3 := v59) hI gA0 (by omega) (by omega) (by omega) ?_
          intro v62 b63
          show ex_q (dt_fg L ρ) rc (d + 2, (242, 123, [some (eR a0), some (eI (a1)), some (eI (a2))], [eI (v62)]), f :: F, μ)
          refine b_ieq (t1 := 133) (t2 := 126) rfl rfl rfl (ev_w_in (by omega) (by omega)) (fun g64 => ?_) (fun g64 => ?_)
          · have b65 : 0 ≤ v62 ∧ v62 ≤ 0 := by omega
            exact v_rv rfl rfl (K μ hI F0)
          · have b65 : 1 ≤ v62 ∧ v62 ≤ 1 := by omega
            refine w_t (np := 127) (l2 := [some (eR a0), some (eI (a1)), some (eI (a2))]) (s2 := [eR a0]) rfl (s_an rfl (pos_g hI gA0 (by decide))) rfl ?_
            refine w_gf (np := 130) (v := eR v39) rfl rfl (hI.kd gA0 (by decide) (n := 69) rfl) (by rw [e40]; rfl) ?_
            refine w_t (np := 131) (l2 := [some (eR a0), some (eI (a1)), some (eI (a2))]) (s2 := [eI (a1), eR v39]) rfl rfl rfl ?_
            refine w_t (np := 132) (l2 := [some (eR a0), some (eI (a1)), some (eI (a2))]) (s2 := [eI (a2), eI (a1), eR v39]) rfl rfl rfl ?_
            refine j_as (np := 133) rfl rfl hI b41 (by decide) (n := 890) rfl rfl (lo := -1) (hi := 889) (fun _ => rfl) (by omega) (by omega) (by omega) ?_
            intro m65 I66 W67
            have F68 : Fr l_242 0 0 g μ m65 := F0.v W67 b41 rfl rfl
            exact v_rv rfl rfl (K m65 I66 F68)
      · have b39 : 1 ≤ v36 ∧ v36 ≤ 1 := by omega
        refine w_t (np := 91) (l2 := [some (eR a0), some (eI (a1)), some (eI (a2))]) (s2 := [eR a0]) rfl (s_an rfl (pos_g hI gA0 (by decide))) rfl ?_
        refine w_gf (np := 94) (v := eR v9) rfl rfl (hI.kd gA0 (by decide) (n := 69) rfl) (by rw [e10]; rfl) ?_
        refine w_t (np := 95) (l2 := [some (eR a0), some (eI (a1)), some (eI (a2))]) (s2 := [eI (a1), eR v9]) rfl rfl rfl ?_
        refine w_t (np := 96) (l2 := [some (eR a0), some (eI (a1)), some (eI (a2))]) (s2 := [eI (a2), eI (a1), eR v9]) rfl rfl rfl ?_
        refine j_as (np := 97) rfl rfl hI b11 (by decide) (n := 890) rfl rfl (lo := -1) (hi := 889) (fun _ => rfl) (by omega) (by omega) (by omega) ?_
        intro m39 I40 W41
        have F42 : Fr l_242 0 0 g μ m39 := F0.v W41 b11 rfl rfl
        refine w_t (np := 98) (l2 := [some (eR a0), some (eI (a1)), some (eI (a2))]) (s2 := [eR a0]) rfl (s_an rfl (pos_g I40 gA0 (by decide))) rfl ?_
        refine j_gr (np := 101) rfl rfl I40 gA0 (by decide) (n := 69) rfl rfl rfl ?_
        intro v43 e44 b45 z46
        have b45 : g v43 = 69 := Nat.eq_of_beq_eq_true b45
        refine w_t (np := 102) (l2 := [some (eR a0), some (eI (a1)), some (eI (a2))]) (s2 := [eI (a1), eR v43]) rfl rfl rfl ?_
        refine j_al (np := 103) rfl rfl I40 b45 (by decide) (n := 890) rfl rfl (lo := -1) (hi := 889) (fun _ => rfl) (by omega) (by omega) ?_
        intro v47 e48 b49
        refine b_ige (t1 := 133) (t2 := 106) rfl rfl rfl (ev_w_in (by omega) (by omega)) (fun g50 => ?_) (fun g50 => ?_)
        · have b51 : 0 ≤ v47 ∧ v47 ≤ 889 := by omega
          exact v_rv rfl rfl (K m39 I40 F42)
        · have b51 : -1 ≤ v47 ∧ v47 ≤ -1 := by omega
          refine w_t (np := 107) (l2 := [some (eR a0), some (eI (a1)), some (eI (a2))]) (s2 := [eR a0]) rfl (s_an rfl (pos_g I40 gA0 (by decide))) rfl ?_
          refine w_t (np := 108) (l2 := [some (eR a0), some (eI (a1)), some (eI (a2))]) (s2 := [eI (a2), eR a0]) rfl rfl rfl ?_
          refine w_t (np := 109) (l2 := [some (eR a0), some (eI (a1)), some (eI (a2))]) (s2 := [eR a0, eI (a2), eR a0]) rfl (s_an rfl (pos_g I40 gA0 (by decide))) rfl ?_
          refine w_t (np := 110) (l2 := [some (eR a0), some (eI (a1)), some (eI (a2))]) (s2 := [eI (a1), eR a0, eI (a2), eR a0]) rfl rfl rfl ?_
          refine w_t (np := 111) (l2 := [some (eR a0), some (eI (a1)), some (eI (a2))]) (s2 := [eI (0), eI (a1), eR a0, eI (a2), eR a0]) rfl rfl rfl ?_
          refine w_cw (np := 114) (as := [eI (a1), eI (0)]) (l2 := [some (eR a0), some (eI (a1)), some (eI (0))]) (rest := [eI (a2), eR a0]) rfl rfl rfl (Nat.ble_eq.mp rfl) rfl rfl rfl (I40.kd gA0 (by decide) (n := 69) rfl) rfl ?_
          refine w_t (np := 1) (l2 := [some (eR a0), some (eI (a1)), some (eI (0))]) (s2 := [eR a0]) rfl (s_an rfl (pos_g I40 gA0 (by decide))) rfl ?_
          refine w_gf (np := 4) (v := eR v17) rfl rfl (I40.kd gA0 (by decide) (n := 69) rfl) (by rw [(W41.addr e18 b11 gA0 (by decide))]; rfl) ?_
          refine w_t (np := 5) (l2 := [some (eR a0), some (eI (a1)), some (eI (0))]) (s2 := [eI (3), eR v17]) rfl rfl rfl ?_
          refine w_t (np := 6) (l2 := [some (eR a0), some (eI (a1)), some (eI (0))]) (s2 := [eI (a1), eI (3), eR v17]) rfl rfl rfl ?_
          obtain ⟨v51, e52⟩ : ∃ zz : Int, zz = (3) * (a1) := ⟨_, rfl⟩
          have b53 : 0 ≤ v51 ∧ v51 ≤ 2667 := by omega
          refine w_t (np := 7) (l2 := [some (eR a0), some (eI (a1)), some (eI (0))]) (s2 := [eI (v51), eR v17]) rfl (b_imul (by rw [← e52]; exact ev_w_in (by omega) (by omega))) rfl ?_
          refine w_t (np := 8) (l2 := [some (eR a0), some (eI (a1)), some (eI (0))]) (s2 := [eI (0), eI (v51), eR v17]) rfl rfl rfl ?_
          refine w_t (np := 9) (l2 := [some (eR a0), some (eI (a1)), some (eI (0))]) (s2 := [eI (v51), eR v17]) rfl (b_iadd (by rw [Int.add_zero]; exact ev_w_in (by omega) (by omega))) rfl ?_
          refine j_al (np := 10) rfl rfl I40 b19 (by decide) (n := 2670) rfl rfl (lo := 0) (hi := 2669) (fun _ => rfl) (by omega) (by omega) ?_
          intro v54 e55 b56
          refine b_ri rfl rfl ?_
          show ex_q (dt_fg L ρ) rc (d + 2, (242, 114, [some (eR a0), some (eI (a1)), some (eI (a2))], [eI (v54), eI (a2), eR a0]), f :: F, m39)
          refine w_t (np := 115) (l2 := [some (eR a0), some (eI (a1)), some (eI (a2))]) (s2 := [eR a0, eI (v54), eI (a2), eR a0]) rfl (s_an rfl (pos_g I40 gA0 (by decide))) rfl ?_
          refine w_t (np := 116) (l2 := [some (eR a0), some (eI (a1)), some (eI (a2))]) (s2 := [eI (a1), eR a0, eI (v54), eI (a2), eR a0]) rfl rfl rfl ?_
          refine w_t (np := 117) (l2 := [some (eR a0), some (eI (a1)), some (eI (a2))]) (s2 := [eI (2), eI (a1), eR a0, eI (v54), eI (a2), eR a0]) rfl rfl rfl ?_
          refine w_cw (np := 120) (as := [eI (a1), eI (2)]) (l2 := [some (eR a0), some (eI (a1)), some (eI (2))]) (rest := [eI (v54), eI (a2), eR a0]) rfl rfl rfl (Nat.ble_eq.mp rfl) rfl rfl rfl (I40.kd gA0 (by decide) (n := 69) rfl) rfl ?_
          refine w_t (np := 1) (l2 := [some (eR a0), some (eI (a1)), some (eI (2))]) (s2 := [eR a0]) rfl (s_an rfl (pos_g I40 gA0 (by decide))) rfl ?_
          refine w_gf (np := 4) (v := eR v17) rfl rfl (I40.kd gA0 (by decide) (n := 69) rfl) (by rw [(W41.addr e18 b11 gA0 (by decide))]; rfl) ?_
          refine w_t (np := 5) (l2 := [some (eR a0), some (eI (a1)), some (eI (2))]) (s2 := [eI (3), eR v17]) rfl rfl rfl ?_
          refine w_t (np := 6) (l2 := [some (eR a0), some (eI (a1)), some (eI (2))]) (s2 := [eI (a1), eI (3), eR v17]) rfl rfl rfl ?_
          obtain ⟨v57, e58⟩ : ∃ zz : Int, zz = (3) * (a1) := ⟨_, rfl⟩
          have b59 : 0 ≤ v57 ∧ v57 ≤ 2667 := by omega
          refine w_t (np := 7) (l2 := [some (eR a0), some (eI (a1)), some (eI (2))]) (s2 := [eI (v57), eR v17]) rfl (b_imul (by rw [← e58]; exact ev_w_in (by omega) (by omega))) rfl ?_
          refine w_t (np := 8) (l2 := [some (eR a0), some (eI (a1)), some (eI (2))]) (s2 := [eI (2), eI (v57), eR v17]) rfl rfl rfl ?_
          obtain ⟨v60, e61⟩ : ∃ zz : Int, zz = (v57) + (2) := ⟨_, rfl⟩
          have b62 : 2 ≤ v60 ∧ v60 ≤ 2669 := by omega
          refine w_t (np := 9) (l2 := [some (eR a0), some (eI (a1)), some (eI (2))]) (s2 := [eI (v60), eR v17]) rfl (b_iadd (by rw [← e61]; exact ev_w_in (by omega) (by omega))) rfl ?_
          refine j_al (np := 10) rfl rfl I40 b19 (by decide) (n := 2670) rfl rfl (lo := 0) (hi := 2669) (fun _ => rfl) (by omega) (by omega) ?_
          intro v63 e64 b65
          refine b_ri rfl rfl ?_
          show ex_q (dt_fg L ρ) rc (d + 2, (242, 120, [some (eR a0), some (eI (a1)), some (eI (a2))], [eI (v63), eI (v54), eI (a2), eR a0]), f :: F, m39)
          refine w_cw (np := 123) (as := [eI (a2), eI (v54), eI (v63)]) (l2 := [some (eR a0), some (eI (a2)), some (eI (v54)), some (eI (v63))]) (rest := []) rfl rfl rfl (Nat.ble_eq.mp rfl) rfl rfl rfl (I40.kd gA0 (by decide) (n := 69) rfl) rfl ?_
          refine s_241 (a1 := a2) (a2 := v54) (a3 := v63) I40 gA0 (by omega) (by omega) (by omega) ?_
          intro v66 b67
          show ex_q (dt_fg L ρ) rc (d + 2, (242, 123, [some (eR a0), some (eI (a1)), some (eI (a2))], [eI (v66)]), f :: F, m39)
          refine b_ieq (t1 := 133) (t2 := 126) rfl rfl rfl (ev_w_in (by omega) (by omega)) (fun g68 => ?_) (fun g68 => ?_)
          · have b69 : 0 ≤ v66 ∧ v66 ≤ 0 := by omega
            exact v_rv rfl rfl (K m39 I40 F42)
          · have b69 : 1 ≤ v66 ∧ v66 ≤ 1 := by omega
            refine w_t (np := 127) (l2 := [some (eR a0), some (eI (a1)), some (eI (a2))]) (s2 := [eR a0]) rfl (s_an rfl (pos_g I40 gA0 (by decide))) rfl ?_
            refine w_gf (np := 130) (v := eR v43) rfl rfl (I40.kd gA0 (by decide) (n := 69) rfl) (by rw [e44]; rfl) ?_
            refine w_t (np := 131) (l2 := [some (eR a0), some (eI (a1)), some (eI (a2))]) (s2 := [eI (a1), eR v43]) rfl rfl rfl ?_
            refine w_t (np := 132) (l2 := [some (eR a0), some (eI (a1)), some (eI (a2))]) (s2 := [eI (a2), eI (a1), eR v43]) rfl rfl rfl ?_
            refine j_as (np := 133) rfl rfl I40 b45 (by decide) (n := 890) rfl rfl (lo := -1) (hi := 889) (fun _ => rfl) (by omega) (by omega) (by omega) ?_
            intro m69 I70 W71
            have F72 : Fr l_242 0 0 g μ m69 := F42.v W71 b45 rfl rfl
            exact v_rv rfl rfl (K m69 I70 F72)
  · have b9 : -1 ≤ v5 ∧ v5 ≤ -1 := by omega
    refine w_t (np := 10) (l2 := [some (eR a0), some (eI (a1)), some (eI (a2))]) (s2 := [eR a0]) rfl (s_an rfl (pos_g hI gA0 (by decide))) rfl ?_
    refine j_gr (np := 13) rfl rfl hI gA0 (by decide) (n := 69) rfl rfl rfl ?_
    intro v9 e10 b11 z12
    have b11 : g v9 = 56 := Nat.eq_of_beq_eq_true b11
    refine w_t (np := 14) (l2 := [some (eR a0), some (eI (a1)), some (eI (a2))]) (s2 := [eI (a1), eR v9]) rfl rfl rfl ?_
    refine j_al (np := 15) rfl rfl hI b11 (by decide) (n := 890) rfl rfl (lo := 0) (hi := 1) (fun _ => rfl) (by omega) (by omega) ?_
    intro v13 e14 b15
    refine w_t (np := 16) (l2 := [some (eR a0), some (eI (a1)), some (eI (a2))]) (s2 := [eR a0, eI (v13)]) rfl (s_an rfl (pos_g hI gA0 (by decide))) rfl ?_
    refine w_gf (np := 19) (v := eR v9) rfl rfl (hI.kd gA0 (by decide) (n := 69) rfl) (by rw [e10]; rfl) ?_
    refine w_t (np := 20) (l2 := [some (eR a0), some (eI (a1)), some (eI (a2))]) (s2 := [eI (a2), eR v9, eI (v13)]) rfl rfl rfl ?_
    refine j_al (np := 21) rfl rfl hI b11 (by decide) (n := 890) rfl rfl (lo := 0) (hi := 1) (fun _ => rfl) (by omega) (by omega) ?_
    intro v16 e17 b18
    refine b_cne (t1 := 61) (t2 := 24) rfl rfl rfl (ev_w_in (by omega) (by omega)) (ev_w_in (by omega) (by omega)) (fun g19 => ?_) (fun g19 => ?_)
    · refine w_t (np := 62) (l2 := [some (eR a0), some (eI (a1)), some (eI (a2))]) (s2 := [eR a0]) rfl (s_an rfl (pos_g hI gA0 (by decide))) rfl ?_
      refine j_gr (np := 65) rfl rfl hI gA0 (by decide) (n := 69) rfl rfl rfl ?_
      intro v20 e21 b22 z23
      have b22 : g v20 = 68 := Nat.eq_of_beq_eq_true b22
      refine w_t (np := 66) (l2 := [some (eR a0), some (eI (a1)), some (eI (a2))]) (s2 := [eI (a1), eR v20]) rfl rfl rfl ?_
      refine j_al (np := 67) rfl rfl hI b22 (by decide) (n := 890) rfl rfl (lo := -1) (hi := 889) (fun _ => rfl) (by omega) (by omega) ?_
      intro v24 e25 b26
      refine b_ige (t1 := 97) (t2 := 70) rfl rfl rfl (ev_w_in (by omega) (by omega)) (fun g27 => ?_) (fun g27 => ?_)
      · have b28 : 0 ≤ v24 ∧ v24 ≤ 889 := by omega
        refine w_t (np := 98) (l2 := [some (eR a0), some (eI (a1)), some (eI (a2))]) (s2 := [eR a0]) rfl (s_an rfl (pos_g hI gA0 (by decide))) rfl ?_
        refine j_gr (np := 101) rfl rfl hI gA0 (by decide) (n := 69) rfl rfl rfl ?_
        intro v28 e29 b30 z31
        have b30 : g v28 = 69 := Nat.eq_of_beq_eq_true b30
        refine w_t (np := 102) (l2 := [some (eR a0), some (eI (a1)), some (eI (a2))]) (s2 := [eI (a1), eR v28]) rfl rfl rfl ?_
        refine j_al (np := 103) rfl rfl hI b30 (by decide) (n := 890) rfl rfl (lo := -1) (hi := 889) (fun _ => rfl) (by omega) (by omega) ?_
        intro v32 e33 b34
        refine b_ige (t1 := 133) (t2 := 106) rfl rfl rfl (ev_w_in (by omega) (by omega)) (fun g35 => ?_) (fun g35 => ?_)
        · have b36 : 0 ≤ v32 ∧ v32 ≤ 889 := by omega
          exact v_rv rfl rfl (K μ hI F0)
        · have b36 : -1 ≤ v32 ∧ v32 ≤ -1 := by omega
          refine w_t (np := 107) (l2 := [some (eR a0), some (eI (a1)), some (eI (a2))]) (s2 := [eR a0]) rfl (s_an rfl (pos_g hI gA0 (by decide))) rfl ?_
          refine w_t (np := 108) (l2 := [some (eR a0), some (eI (a1)), some (eI (a2))]) (s2 := [eI (a2), eR a0]) rfl rfl rfl ?_
          refine w_t (np := 109) (l2 := [some (eR a0), some (eI (a1)), some (eI (a2))]) (s2 := [eR a0, eI (a2), eR a0]) rfl (s_an rfl (pos_g hI gA0 (by decide))) rfl ?_
          refine w_t (np := 110) (l2 := [some (eR a0), some (eI (a1)), some (eI (a2))]) (s2 := [eI (a1), eR a0, eI (a2), eR a0]) rfl rfl rfl ?_
          refine w_t (np := 111) (l2 := [some (eR a0), some (eI (a1)), some (eI (a2))]) (s2 := [eI (0), eI (a1), eR a0, eI (a2), eR a0]) rfl rfl rfl ?_
          refine w_cw (np := 114) (as := [eI (a1), eI (0)]) (l2 := [some (eR a0), some (eI (a1)), some (eI (0))]) (rest := [eI (a2), eR a0]) rfl rfl rfl (Nat.ble_eq.mp rfl) rfl rfl rfl (hI.kd gA0 (by decide) (n := 69) rfl) rfl ?_
          refine w_t (np := 1) (l2 := [some (eR a0), some (eI (a1)), some (eI (0))]) (s2 := [eR a0]) rfl (s_an rfl (pos_g hI gA0 (by decide))) rfl ?_
          refine j_gr (np := 4) rfl rfl hI gA0 (by decide) (n := 69) rfl rfl rfl ?_
          intro v36 e37 b38 z39
          have b38 : g v36 = 64 := Nat.eq_of_beq_eq_true b38
          refine w_t (np := 5) (l2 := [some (eR a0), some (eI (a1)), some (eI (0))]) (s2 := [eI (3), eR v36]) rfl rfl rfl ?_
          refine w_t (np := 6) (l2 := [some (eR a0), some (eI (a1)), some (eI (0))]) (s2 := [eI (a1), eI (3), eR v36]) rfl rfl rfl ?_
          obtain ⟨v40, e41⟩ : ∃ zz : Int, zz = (3) * (a1) := ⟨_, rfl⟩
          have b42 : 0 ≤ v40 ∧ v40 ≤ 2667 := by omega
          refine w_t (np := 7) (l2 := [some (eR a0), some (eI (a1)), some (eI (0))]) (s2 := [eI (v40), eR v36]) rfl (b_imul (by rw [← e41]; exact ev_w_in (by omega) (by omega))) rfl ?_
          refine w_t (np := 8) (l2 := [some (eR a0), some (eI (a1)), some (eI (0))]) (s2 := [eI (0), eI (v40), eR v36]) rfl rfl rfl ?_
          refine w_t (np := 9) (l2 := [some (eR a0), some (eI (a1)), some (eI (0))]) (s2 := [eI (v40), eR v36]) rfl (b_iadd (by rw [Int.add_zero]; exact ev_w_in (by omega) (by omega))) rfl ?_
          refine j_al (np := 10) rfl rfl hI b38 (by decide) (n := 2670) rfl rfl (lo := 0) (hi := 2669) (fun _ => rfl) (by omega) (by omega) ?_
          intro v43 e44 b45
          refine b_ri rfl rfl ?_
          show ex_q (dt_fg L ρ) rc (d + 2, (242, 114, [some (eR a0), some (eI (a1)), some (eI (a2))], [eI (v43), eI (a2), eR a0]), f :: F, μ)
          refine w_t (np := 115) (l2 := [some (eR a0), some (eI (a1)), some (eI (a2))]) (s2 := [eR a0, eI (v43), eI (a2), eR a0]) rfl (s_an rfl (pos_g hI gA0 (by decide))) rfl ?_
          refine w_t (np := 116) (l2 := [some (eR a0), some (eI (a1)), some (eI (a2))]) (s2 := [eI (a1), eR a0, eI (v43), eI (a2), eR a0]) rfl rfl rfl ?_
          refine w_t (np := 117) (l2 := [some (eR a0), some (eI (a1)), some (eI (a2))]) (s2 := [eI (2), eI (a1), eR a0, eI (v43), eI (a2), eR a0]) rfl rfl rfl ?_
          refine w_cw (np := 120) (as := [eI (a1), eI (2)]) (l2 := [some (eR a0), some (eI (a1)), some (eI (2))]) (rest := [eI (v43), eI (a2), eR a0]) rfl rfl rfl (Nat.ble_eq.mp rfl) rfl rfl rfl (hI.kd gA0 (by decide) (n := 69) rfl) rfl ?_
          refine w_t (np := 1) (l2 := [some (eR a0), some (eI (a1)), some (eI (2))]) (s2 := [eR a0]) rfl (s_an rfl (pos_g hI gA0 (by decide))) rfl ?_
          refine w_gf (np := 4) (v := eR v36) rfl rfl (hI.kd gA0 (by decide) (n := 69) rfl) (by rw [e37]; rfl) ?_
          refine w_t (np := 5) (l2 := [some (eR a0), some (eI (a1)), some (eI (2))]) (s2 := [eI (3), eR v36]) rfl rfl rfl ?_
          refine w_t (np := 6) (l2 := [some (eR a0), some (eI (a1)), some (eI (2))]) (s2 := [eI (a1), eI (3), eR v36]) rfl rfl rfl ?_
          obtain ⟨v46, e47⟩ : ∃ zz : Int, zz = (3) * (a1) := ⟨_, rfl⟩
          have b48 : 0 ≤ v46 ∧ v46 ≤ 2667 := by omega
          refine w_t (np := 7) (l2 := [some (eR a0), some (eI (a1)), some (eI (2))]) (s2 := [eI (v46), eR v36]) rfl (b_imul (by rw [← e47]; exact ev_w_in (by omega) (by omega))) rfl ?_
          refine w_t (np := 8) (l2 := [some (eR a0), some (eI (a1)), some (eI (2))]) (s2 := [eI (2), eI (v46), eR v36]) rfl rfl rfl ?_
          obtain ⟨v49, e50⟩ : ∃ zz : Int, zz = (v46) + (2) := ⟨_, rfl⟩
          have b51 : 2 ≤ v49 ∧ v49 ≤ 2669 := by omega
          refine w_t (np := 9) (l2 := [some (eR a0), some (eI (a1)), some (eI (2))]) (s2 := [eI (v49), eR v36]) rfl (b_iadd (by rw [← e50]; exact ev_w_in (by omega) (by omega))) rfl ?_
          refine j_al (np := 10) rfl rfl hI b38 (by decide) (n := 2670) rfl rfl (lo := 0) (hi := 2669) (fun _ => rfl) (by omega) (by omega) ?_
          intro v52 e53 b54
          refine b_ri rfl rfl ?_
          show ex_q (dt_fg L ρ) rc (d + 2, (242, 120, [some (eR a0), some (eI (a1)), some (eI (a2))], [eI (v52), eI (v43), eI (a2), eR a0]), f :: F, μ)
          refine w_cw (np := 123) (as := [eI (a2), eI (v43), eI (v52)]) (l2 := [some (eR a0), some (eI (a2)), some (eI (v43)), some (eI (v52))]) (rest := []) rfl rfl rfl (Nat.ble_eq.mp rfl) rfl rfl rfl (hI.kd gA0 (by decide) (n := 69) rfl) rfl ?_
          refine s_241 (a1 := a2) (a2 := v43) (a3 := v52) hI gA0 (by omega) (by omega) (by omega) ?_
          intro v55 b56
          show ex_q (dt_fg L ρ) rc (d + 2, (242, 123, [some (eR a0), some (eI (a1)), some (eI (a2))], [eI (v55)]), f :: F, μ)
          refine b_ieq (t1 := 133) (t2 := 126) rfl rfl rfl (ev_w_in (by omega) (by omega)) (fun g57 => ?_) (fun g57 => ?_)
          · have b58 : 0 ≤ v55 ∧ v55 ≤ 0 := by omega
            exact v_rv rfl rfl (K μ hI F0)
          · have b58 : 1 ≤ v55 ∧ v55 ≤ 1 := by omega
            refine w_t (np := 127) (l2 := [some (eR a0), some (eI (a1)), some (eI (a2))]) (s2 := [eR a0]) rfl (s_an rfl (pos_g hI gA0 (by decide))) rfl ?_
            refine w_gf (np := 130) (v := eR v28) rfl rfl (hI.kd gA0 (by decide) (n := 69) rfl) (by rw [e29]; rfl) ?_
            refine w_t (np := 131) (l2 := [some (eR a0), some (eI (a1)), some (eI (a2))]) (s2 := [eI (a1), eR v28]) rfl rfl rfl ?_
            refine w_t (np := 132) (l2 := [some (eR a0), some (eI (a1)), some (eI (a2))]) (s2 := [eI (a2), eI (a1), eR v28]) rfl rfl rfl ?_
            refine j_as (np := 133) rfl rfl hI b30 (by decide) (n := 890) rfl rfl (lo := -1) (hi := 889) (fun _ => rfl) (by omega) (by omega) (by omega) ?_
            intro m58 I59 W60
            have F61 : Fr l_242 0 0 g μ m58 := F0.v W60 b30 rfl rfl
            exact v_rv rfl rfl (K m58 I59 F61)
      · have b28 : -1 ≤ v24 ∧ v24 ≤ -1 := by omega
        refine w_t (np := 71) (l2 := [some (eR a0), some (eI (a1)), some (eI (a2))]) (s2 := [eR a0]) rfl (s_an rfl (pos_g hI gA0 (by decide))) rfl ?_
        refine w_t (np := 72) (l2 := [some (eR a0), some (eI (a1)), some (eI (a2))]) (s2 := [eI (a2), eR a0]) rfl rfl rfl ?_
        refine w_t (np := 73) (l2 := [some (eR a0), some (eI (a1)), some (eI (a2))]) (s2 := [eR a0, eI (a2), eR a0]) rfl (s_an rfl (pos_g hI gA0 (by decide))) rfl ?_
        refine w_t (np := 74) (l2 := [some (eR a0), some (eI (a1)), some (eI (a2))]) (s2 := [eI (a1), eR a0, eI (a2), eR a0]) rfl rfl rfl ?_
        refine w_t (np := 75) (l2 := [some (eR a0), some (eI (a1)), some (eI (a2))]) (s2 := [eI (0), eI (a1), eR a0, eI (a2), eR a0]) rfl rfl rfl ?_
        refine w_cw (np := 78) (as := [eI (a1), eI (0)]) (l2 := [some (eR a0), some (eI (a1)), some (eI (0))]) (rest := [eI (a2), eR a0]) rfl rfl rfl (Nat.ble_eq.mp rfl) rfl rfl rfl (hI.kd gA0 (by decide) (n := 69) rfl) rfl ?_
        refine w_t (np := 1) (l2 := [some (eR a0), some (eI (a1)), some (eI (0))]) (s2 := [eR a0]) rfl (s_an rfl (pos_g hI gA0 (by decide))) rfl ?_
        refine j_gr (np := 4) rfl rfl hI gA0 (by decide) (n := 69) rfl rfl rfl ?_
        intro v28 e29 b30 z31
        have b30 : g v28 = 64 := Nat.eq_of_beq_eq_true b30
        refine w_t (np := 5) (l2 := [some (eR a0), some (eI (a1)), some (eI (0))]) (s2 := [eI (3), eR v28]) rfl rfl rfl ?_
        refine w_t (np := 6) (l2 := [some (eR a0), some (eI (a1)), some (eI (0))]) (s2 := [eI (a1), eI (3), eR v28]) rfl rfl rfl ?_
        obtain ⟨v32, e33⟩ : ∃ zz : Int, zz = (3) * (a1) := ⟨_, rfl⟩
        have b34 : 0 ≤ v32 ∧ v32 ≤ 2667 := by omega
        refine w_t (np := 7) (l2 := [some (eR a0), some (eI (a1)), some (eI (0))]) (s2 := [eI (v32), eR v28]) rfl (b_imul (by rw [← e33]; exact ev_w_in (by omega) (by omega))) rfl ?_
        refine w_t (np := 8) (l2 := [some (eR a0), some (eI (a1)), some (eI (0))]) (s2 := [eI (0), eI (v32), eR v28]) rfl rfl rfl ?_
        refine w_t (np := 9) (l2 := [some (eR a0), some (eI (a1)), some (eI (0))]) (s2 := [eI (v32), eR v28]) rfl (b_iadd (by rw [Int.add_zero]; exact ev_w_in (by omega) (by omega))) rfl ?_
        refine j_al (np := 10) rfl rfl hI b30 (by decide) (n := 2670) rfl rfl (lo := 0) (hi := 2669) (fun _ => rfl) (by omega) (by omega) ?_
        intro v35 e36 b37
        refine b_ri rfl rfl ?_
        show ex_q (dt_fg L ρ) rc (d + 2, (242, 78, [some (eR a0), some (eI (a1)), some (eI (a2))], [eI (v35), eI (a2), eR a0]), f :: F, μ)
        refine w_t (np := 79) (l2 := [some (eR a0), some (eI (a1)), some (eI (a2))]) (s2 := [eR a0, eI (v35), eI (a2), eR a0]) rfl (s_an rfl (pos_g hI gA0 (by decide))) rfl ?_
        refine w_t (np := 80) (l2 := [some (eR a0), some (eI (a1)), some (eI (a2))]) (s2 := [eI (a1), eR a0, eI (v35), eI (a2), eR a0]) rfl rfl rfl ?_
        refine w_t (np := 81) (l2 := [some (eR a0), some (eI (a1)), some (eI (a2))]) (s2 := [eI (1), eI (a1), eR a0, eI (v35), eI (a2), eR a0]) rfl rfl rfl ?_
        refine w_cw (np := 84) (as := [eI (a1), eI (1)]) (l2 := [some (eR a0), some (eI (a1)), some (eI (1))]) (rest := [eI (v35), eI (a2), eR a0]) rfl rfl rfl (Nat.ble_eq.mp rfl) rfl rfl rfl (hI.kd gA0 (by decide) (n := 69) rfl) rfl ?_
        refine w_t (np := 1) (l2 := [some (eR a0), some (eI (a1)), some (eI (1))]) (s2 := [eR a0]) rfl (s_an rfl (pos_g hI gA0 (by decide))) rfl ?_
        refine w_gf (np := 4) (v := eR v28) rfl rfl (hI.kd gA0 (by decide) (n := 69) rfl) (by rw [e29]; rfl) ?_
        refine w_t (np := 5) (l2 := [some (eR a0), some (eI (a1)), some (eI (1))]) (s2 := [eI (3), eR v28]) rfl rfl rfl ?_
        refine w_t (np := 6) (l2 := [some (eR a0), some (eI (a1)), some (eI (1))]) (s2 := [eI (a1), eI (3), eR v28]) rfl rfl rfl ?_
        obtain ⟨v38, e39⟩ : ∃ zz : Int, zz = (3) * (a1) := ⟨_, rfl⟩
        have b40 : 0 ≤ v38 ∧ v38 ≤ 2667 := by omega
        refine w_t (np := 7) (l2 := [some (eR a0), some (eI (a1)), some (eI (1))]) (s2 := [eI (v38), eR v28]) rfl (b_imul (by rw [← e39]; exact ev_w_in (by omega) (by omega))) rfl ?_
        refine w_t (np := 8) (l2 := [some (eR a0), some (eI (a1)), some (eI (1))]) (s2 := [eI (1), eI (v38), eR v28]) rfl rfl rfl ?_
        obtain ⟨v41, e42⟩ : ∃ zz : Int, zz = (v38) + (1) := ⟨_, rfl⟩
        have b43 : 1 ≤ v41 ∧ v41 ≤ 2668 := by omega
        refine w_t (np := 9) (l2 := [some (eR a0), some (eI (a1)), some (eI (1))]) (s2 := [eI (v41), eR v28]) rfl (b_iadd (by rw [← e42]; exact ev_w_in (by omega) (by omega))) rfl ?_
        refine j_al (np := 10) rfl rfl hI b30 (by decide) (n := 2670) rfl rfl (lo := 0) (hi := 2669) (fun _ => rfl) (by omega) (by omega) ?_
        intro v44 e45 b46
        refine b_ri rfl rfl ?_
        show ex_q (dt_fg L ρ) rc (d + 2, (242, 84, [some (eR a0), some (eI (a1)), some (eI (a2))], [eI (v44), eI (v35), eI (a2), eR a0]), f :: F, μ)
        refine w_cw (np := 87) (as := [eI (a2), eI (v35), eI (v44)]) (l2 := [some (eR a0), some (eI (a2)), some (eI (v35)), some (eI (v44))]) (rest := []) rfl rfl rfl (Nat.ble_eq.mp rfl) rfl rfl rfl (hI.kd gA0 (by decide) (n := 69) rfl) rfl ?_
        refine s_241 (a1 := a2) (a2 := v35) (a3 := v44) hI gA0 (by omega) (by omega) (by omega) ?_
        intro v47 b48
        show ex_q (dt_fg L ρ) rc (d + 2, (242, 87, [some (eR a0), some (eI (a1)), some (eI (a2))], [eI (v47)]), f :: F, μ)
        refine b_ieq (t1 := 97) (t2 := 90) rfl rfl rfl (ev_w_in (by omega) (by omega)) (fun g49 => ?_) (fun g49 => ?_)
        · have b50 : 0 ≤ v47 ∧ v47 ≤ 0 := by omega
          refine w_t (np := 98) (l2 := [some (eR a0), some (eI (a1)), some (eI (a2))]) (s2 := [eR a0]) rfl (s_an rfl (pos_g hI gA0 (by decide))) rfl ?_
          refine j_gr (np := 101) rfl rfl hI gA0 (by decide) (n := 69) rfl rfl rfl ?_
          intro v50 e51 b52 z53
          have b52 : g v50 = 69 := Nat.eq_of_beq_eq_true b52
          refine w_t (np := 102) (l2 := [some (eR a0), some (eI (a1)), some (eI (a2))]) (s2 := [eI (a1), eR v50]) rfl rfl rfl ?_
          refine j_al (np := 103) rfl rfl hI b52 (by decide) (n := 890) rfl rfl (lo := -1) (hi := 889) (fun _ => rfl) (by omega) (by omega) ?_
          intro v54 e55 b56
          refine b_ige (t1 := 133) (t2 := 106) rfl rfl rfl (ev_w_in (by omega) (by omega)) (fun g57 => ?_) (fun g57 => ?_)
          · have b58 : 0 ≤ v54 ∧ v54 ≤ 889 := by omega
            exact v_rv rfl rfl (K μ hI F0)
          · have b58 : -1 ≤ v54 ∧ v54 ≤ -1 := by omega
            refine w_t (np := 107) (l2 := [some (eR a0), some (eI (a1)), some (eI (a2))]) (s2 := [eR a0]) rfl (s_an rfl (pos_g hI gA0 (by decide))) rfl ?_
            refine w_t (np := 108) (l2 := [some (eR a0), some (eI (a1)), some (eI (a2))]) (s2 := [eI (a2), eR a0]) rfl rfl rfl ?_
            refine w_t (np := 109) (l2 := [some (eR a0), some (eI (a1)), some (eI (a2))]) (s2 := [eR a0, eI (a2), eR a0]) rfl (s_an rfl (pos_g hI gA0 (by decide))) rfl ?_
            refine w_t (np := 110) (l2 := [some (eR a0), some (eI (a1)), some (eI (a2))]) (s2 := [eI (a1), eR a0, eI (a2), eR a0]) rfl rfl rfl ?_
            refine w_t (np := 111) (l2 := [some (eR a0), some (eI (a1)), some (eI (a2))]) (s2 := [eI (0), eI (a1), eR a0, eI (a2), eR a0]) rfl rfl rfl ?_
            refine w_cw (np := 114) (as := [eI (a1), eI (0)]) (l2 := [some (eR a0), some (eI (a1)), some (eI (0))]) (rest := [eI (a2), eR a0]) rfl rfl rfl (Nat.ble_eq.mp rfl) rfl rfl rfl (hI.kd gA0 (by decide) (n := 69) rfl) rfl ?_
            refine w_t (np := 1) (l2 := [some (eR a0), some (eI (a1)), some (eI (0))]) (s2 := [eR a0]) rfl (s_an rfl (pos_g hI gA0 (by decide))) rfl ?_
            refine w_gf (np := 4) (v := eR v28) rfl rfl (hI.kd gA0 (by decide) (n := 69) rfl) (by rw [e29]; rfl) ?_
            refine w_t (np := 5) (l2 := [some (eR a0), some (eI (a1)), some (eI (0))]) (s2 := [eI (3), eR v28]) rfl rfl rfl ?_
            refine w_t (np := 6) (l2 := [some (eR a0), some (eI (a1)), some (eI (0))]) (s2 := [eI (a1), eI (3), eR v28]) rfl rfl rfl ?_
            obtain ⟨v58, e59⟩ : ∃ zz : Int, zz = (3) * (a1) := ⟨_, rfl⟩
            have b60 : 0 ≤ v58 ∧ v58 ≤ 2667 := by omega
            refine w_t (np := 7) (l2 := [some (eR a0), some (eI (a1)), some (eI (0))]) (s2 := [eI (v58), eR v28]) rfl (b_imul (by rw [← e59]; exact ev_w_in (by omega) (by omega))) rfl ?_
            refine w_t (np := 8) (l2 := [some (eR a0), some (eI (a1)), some (eI (0))]) (s2 := [eI (0), eI (v58), eR v28]) rfl rfl rfl ?_
            refine w_t (np := 9) (l2 := [some (eR a0), some (eI (a1)), some (eI (0))]) (s2 := [eI (v58), eR v28]) rfl (b_iadd (by rw [Int.add_zero]; exact ev_w_in (by omega) (by omega))) rfl ?_
            refine j_al (np := 10) rfl rfl hI b30 (by decide) (n := 2670) rfl rfl (lo := 0) (hi := 2669) (fun _ => rfl) (by omega) (by omega) ?_
            intro v61 e62 b63
            refine b_ri rfl rfl ?_
            show ex_q (dt_fg L ρ) rc (d + 2, (242, 114, [some (eR a0), some (eI (a1)), some (eI (a2))], [eI (v61), eI (a2), eR a0]), f :: F, μ)
            refine w_t (np := 115) (l2 := [some (eR a0), some (eI (a1)), some (eI (a2))]) (s2 := [eR a0, eI (v61), eI (a2), eR a0]) rfl (s_an rfl (pos_g hI gA0 (by decide))) rfl ?_
            refine w_t (np := 116) (l2 := [some (eR a0), some (eI (a1)), some (eI (a2))]) (s2 := [eI (a1), eR a0, eI (v61), eI (a2), eR a0]) rfl rfl rfl ?_
            refine w_t (np := 117) (l2 := [some (eR a0), some (eI (a1)), some (eI (a2))]) (s2 := [eI (2), eI (a1), eR a0, eI (v61), eI (a2), eR a0]) rfl rfl rfl ?_
            refine w_cw (np := 120) (as := [eI (a1), eI (2)]) (l2 := [some (eR a0), some (eI (a1)), some (eI (2))]) (rest := [eI (v61), eI (a2), eR a0]) rfl rfl rfl (Nat.ble_eq.mp rfl) rfl rfl rfl (hI.kd gA0 (by decide) (n := 69) rfl) rfl ?_
            refine w_t (np := 1) (l2 := [some (eR a0), some (eI (a1)), some (eI (2))]) (s2 := [eR a0]) rfl (s_an rfl (pos_g hI gA0 (by decide))) rfl ?_
            refine w_gf (np := 4) (v := eR v28) rfl rfl (hI.kd gA0 (by decide) (n := 69) rfl) (by rw [e29]; rfl) ?_
            refine w_t (np := 5) (l2 := [some (eR a0), some (eI (a1)), some (eI (2))]) (s2 := [eI (3), eR v28]) rfl rfl rfl ?_
            refine w_t (np := 6) (l2 := [some (eR a0), some (eI (a1)), some (eI (2))]) (s2 := [eI (a1), eI (3), eR v28]) rfl rfl rfl ?_
            obtain ⟨v64, e65⟩ : ∃ zz : Int, zz = (3) * (a1) := ⟨_, rfl⟩
            have b66 : 0 ≤ v64 ∧ v64 ≤ 2667 := by omega
            refine w_t (np := 7) (l2 := [some (eR a0), some (eI (a1)), some (eI (2))]) (s2 := [eI (v64), eR v28]) rfl (b_imul (by rw [← e65]; exact ev_w_in (by omega) (by omega))) rfl ?_
            refine w_t (np := 8) (l2 := [some (eR a0), some (eI (a1)), some (eI (2))]) (s2 := [eI (2), eI (v64), eR v28]) rfl rfl rfl ?_
            obtain ⟨v67, e68⟩ : ∃ zz : Int, zz = (v64) + (2) := ⟨_, rfl⟩
            have b69 : 2 ≤ v67 ∧ v67 ≤ 2669 := by omega
            refine w_t (np := 9) (l2 := [some (eR a0), some (eI (a1)), some (eI (2))]) (s2 := [eI (v67), eR v28]) rfl (b_iadd (by rw [← e68]; exact ev_w_in (by omega) (by omega))) rfl ?_
            refine j_al (np := 10) rfl rfl hI b30 (by decide) (n := 2670) rfl rfl (lo := 0) (hi := 2669) (fun _ => rfl) (by omega) (by omega) ?_
            intro v70 e71 b72
            refine b_ri rfl rfl ?_
            show ex_q (dt_fg L ρ) rc (d + 2, (242, 120, [some (eR a0), some (eI (a1)), some (eI (a2))], [eI (v70), eI (v61), eI (a2), eR a0]), f :: F, μ)
            refine w_cw (np := 123) (as := [eI (a2), eI (v61), eI (v70)]) (l2 := [some (eR a0), some (eI (a2)), some (eI (v61)), some (eI (v70))]) (rest := []) rfl rfl rfl (Nat.ble_eq.mp rfl) rfl rfl rfl (hI.kd gA0 (by decide) (n := 69) rfl) rfl ?_
            refine s_241 (a1 := a2) (a2 := v61) (a3 := v70) hI gA0 (by omega) (by omega) (by omega) ?_
            intro v73 b74
            show ex_q (dt_fg L ρ) rc (d + 2, (242, 123, [some (eR a0), some (eI (a1)), some (eI (a2))], [eI (v73)]), f :: F, μ)
            refine b_ieq (t1 := 133) (t2 := 126) rfl rfl rfl (ev_w_in (by omega) (by omega)) (fun g75 => ?_) (fun g75 => ?_)
            · have b76 : 0 ≤ v73 ∧ v73 ≤ 0 := by omega
              exact v_rv rfl rfl (K μ hI F0)
            · have b76 : 1 ≤ v73 ∧ v73 ≤ 1 := by omega
              refine w_t (np := 127) (l2 := [some (eR a0), some (eI (a1)), some (eI (a2))]) (s2 := [eR a0]) rfl (s_an rfl (pos_g hI gA0 (by decide))) rfl ?_
              refine w_gf (np := 130) (v := eR v50) rfl rfl (hI.kd gA0 (by decide) (n := 69) rfl) (by rw [e51]; rfl) ?_
              refine w_t (np := 131) (l2 := [some (eR a0), some (eI (a1)), some (eI (a2))]) (s2 := [eI (a1), eR v50]) rfl rfl rfl ?_
              refine w_t (np := 132) (l2 := [some (eR a0), some (eI (a1)), some (eI (a2))]) (s2 := [eI (a2), eI (a1), eR v50]) rfl rfl rfl ?_
              refine j_as (np := 133) rfl rfl hI b52 (by decide) (n := 890) rfl rfl (lo := -1) (hi := 889) (fun _ => rfl) (by omega) (by omega) (by omega) ?_
              intro m76 I77 W78
              have F79 : Fr l_242 0 0 g μ m76 := F0.v W78 b52 rfl rfl
              exact v_rv rfl rfl (K m76 I77 F79)
        · have b50 : 1 ≤ v47 ∧ v47 ≤ 1 := by omega
          refine w_t (np := 91) (l2 := [some (eR a0), some (eI (a1)), some (eI (a2))]) (s2 := [eR a0]) rfl (s_an rfl (pos_g hI gA0 (by decide))) rfl ?_
          refine w_gf (np := 94) (v := eR v20) rfl rfl (hI.kd gA0 (by decide) (n := 69) rfl) (by rw [e21]; rfl) ?_
          refine w_t (np := 95) (l2 := [some (eR a0), some (eI (a1)), some (eI (a2))]) (s2 := [eI (a1), eR v20]) rfl rfl rfl ?_
          refine w_t (np := 96) (l2 := [some (eR a0), some (eI (a1)), some (eI (a2))]) (s2 := [eI (a2), eI (a1), eR v20]) rfl rfl rfl ?_
          refine j_as (np := 97) rfl rfl hI b22 (by decide) (n := 890) rfl rfl (lo := -1) (hi := 889) (fun _ => rfl) (by omega) (by omega) (by omega) ?_
          intro m50 I51 W52
          have F53 : Fr l_242 0 0 g μ m50 := F0.v W52 b22 rfl rfl
          refine w_t (np := 98) (l2 := [some (eR a0), some (eI (a1)), some (eI (a2))]) (s2 := [eR a0]) rfl (s_an rfl (pos_g I51 gA0 (by decide))) rfl ?_
          refine j_gr (np := 101) rfl rfl I51 gA0 (by decide) (n := 69) rfl rfl rfl ?_
          intro v54 e55 b56 z57
          have b56 : g v54 = 69 := Nat.eq_of_beq_eq_true b56
          refine w_t (np := 102) (l2 := [some (eR a0), some (eI (a1)), some (eI (a2))]) (s2 := [eI (a1), eR v54]) rfl rfl rfl ?_
          refine j_al (np := 103) rfl rfl I51 b56 (by decide) (n := 890) rfl rfl (lo := -1) (hi := 889) (fun _ => rfl) (by omega) (by omega) ?_
          intro v58 e59 b60
          refine b_ige (t1 := 133) (t2 := 106) rfl rfl rfl (ev_w_in (by omega) (by omega)) (fun g61 => ?_) (fun g61 => ?_)
          · have b62 : 0 ≤ v58 ∧ v58 ≤ 889 := by omega
            exact v_rv rfl rfl (K m50 I51 F53)
          · have b62 : -1 ≤ v58 ∧ v58 ≤ -1 := by omega
            refine w_t (np := 107) (l2 := [some (eR a0), some (eI (a1)), some (eI (a2))]) (s2 := [eR a0]) rfl (s_an rfl (pos_g I51 gA0 (by decide))) rfl ?_
            refine w_t (np := 108) (l2 := [some (eR a0), some (eI (a1)), some (eI (a2))]) (s2 := [eI (a2), eR a0]) rfl rfl rfl ?_
            refine w_t (np := 109) (l2 := [some (eR a0), some (eI (a1)), some (eI (a2))]) (s2 := [eR a0, eI (a2), eR a0]) rfl (s_an rfl (pos_g I51 gA0 (by decide))) rfl ?_
            refine w_t (np := 110) (l2 := [some (eR a0), some (eI (a1)), some (eI (a2))]) (s2 := [eI (a1), eR a0, eI (a2), eR a0]) rfl rfl rfl ?_
            refine w_t (np := 111) (l2 := [some (eR a0), some (eI (a1)), some (eI (a2))]) (s2 := [eI (0), eI (a1), eR a0, eI (a2), eR a0]) rfl rfl rfl ?_
            refine w_cw (np := 114) (as := [eI (a1), eI (0)]) (l2 := [some (eR a0), some (eI (a1)), some (eI (0))]) (rest := [eI (a2), eR a0]) rfl rfl rfl (Nat.ble_eq.mp rfl) rfl rfl rfl (I51.kd gA0 (by decide) (n := 69) rfl) rfl ?_
            refine w_t (np := 1) (l2 := [some (eR a0), some (eI (a1)), some (eI (0))]) (s2 := [eR a0]) rfl (s_an rfl (pos_g I51 gA0 (by decide))) rfl ?_
            refine w_gf (np := 4) (v := eR v28) rfl rfl (I51.kd gA0 (by decide) (n := 69) rfl) (by rw [(W52.addr e29 b22 gA0 (by decide))]; rfl) ?_
            refine w_t (np := 5) (l2 := [some (eR a0), some (eI (a1)), some (eI (0))]) (s2 := [eI (3), eR v28]) rfl rfl rfl ?_
            refine w_t (np := 6) (l2 := [some (eR a0), some (eI (a1)), some (eI (0))]) (s2 := [eI (a1), eI (3), eR v28]) rfl rfl rfl ?_
            obtain ⟨v62, e63⟩ : ∃ zz : Int, zz = (3) * (a1) := ⟨_, rfl⟩
            have b64 : 0 ≤ v62 ∧ v62 ≤ 2667 := by omega
            refine w_t (np := 7) (l2 := [some (eR a0), some (eI (a1)), some (eI (0))]) (s2 := [eI (v62), eR v28]) rfl (b_imul (by rw [← e63]; exact ev_w_in (by omega) (by omega))) rfl ?_
            refine w_t (np := 8) (l2 := [some (eR a0), some (eI (a1)), some (eI (0))]) (s2 := [eI (0), eI (v62), eR v28]) rfl rfl rfl ?_
            refine w_t (np := 9) (l2 := [some (eR a0), some (eI (a1)), some (eI (0))]) (s2 := [eI (v62), eR v28]) rfl (b_iadd (by rw [Int.add_zero]; exact ev_w_in (by omega) (by omega))) rfl ?_
            refine j_al (np := 10) rfl rfl I51 b30 (by decide) (n := 2670) rfl rfl (lo := 0) (hi := 2669) (fun _ => rfl) (by omega) (by omega) ?_
            intro v65 e66 b67
            refine b_ri rfl rfl ?_
            show ex_q (dt_fg L ρ) rc (d + 2, (242, 114, [some (eR a0), some (eI (a1)), some (eI (a2))], [eI (v65), eI (a2), eR a0]), f :: F, m50)
            refine w_t (np := 115) (l2 := [some (eR a0), some (eI (a1)), some (eI (a2))]) (s2 := [eR a0, eI (v65), eI (a2), eR a0]) rfl (s_an rfl (pos_g I51 gA0 (by decide))) rfl ?_
            refine w_t (np := 116) (l2 := [some (eR a0), some (eI (a1)), some (eI (a2))]) (s2 := [eI (a1), eR a0, eI (v65), eI (a2), eR a0]) rfl rfl rfl ?_
            refine w_t (np := 117) (l2 := [some (eR a0), some (eI (a1)), some (eI (a2))]) (s2 := [eI (2), eI (a1), eR a0, eI (v65), eI (a2), eR a0]) rfl rfl rfl ?_
            refine w_cw (np := 120) (as := [eI (a1), eI (2)]) (l2 := [some (eR a0), some (eI (a1)), some (eI (2))]) (rest := [eI (v65), eI (a2), eR a0]) rfl rfl rfl (Nat.ble_eq.mp rfl) rfl rfl rfl (I51.kd gA0 (by decide) (n := 69) rfl) rfl ?_
            refine w_t (np := 1) (l2 := [some (eR a0), some (eI (a1)), some (eI (2))]) (s2 := [eR a0]) rfl (s_an rfl (pos_g I51 gA0 (by decide))) rfl ?_
            refine w_gf (np := 4) (v := eR v28) rfl rfl (I51.kd gA0 (by decide) (n := 69) rfl) (by rw [(W52.addr e29 b22 gA0 (by decide))]; rfl) ?_
            refine w_t (np := 5) (l2 := [some (eR a0), some (eI (a1)), some (eI (2))]) (s2 := [eI (3), eR v28]) rfl rfl rfl ?_
            refine w_t (np := 6) (l2 := [some (eR a0), some (eI (a1)), some (eI (2))]) (s2 := [eI (a1), eI (3), eR v28]) rfl rfl rfl ?_
            obtain ⟨v68, e69⟩ : ∃ zz : Int, zz = (3) * (a1) := ⟨_, rfl⟩
            have b70 : 0 ≤ v68 ∧ v68 ≤ 2667 := by omega
            refine w_t (np := 7) (l2 := [some (eR a0), some (eI (a1)), some (eI (2))]) (s2 := [eI (v68), eR v28]) rfl (b_imul (by rw [← e69]; exact ev_w_in (by omega) (by omega))) rfl ?_
            refine w_t (np := 8) (l2 := [some (eR a0), some (eI (a1)), some (eI (2))]) (s2 := [eI (2), eI (v68), eR v28]) rfl rfl rfl ?_
            obtain ⟨v71, e72⟩ : ∃ zz : Int, zz = (v68) + (2) := ⟨_, rfl⟩
            have b73 : 2 ≤ v71 ∧ v71 ≤ 2669 := by omega
            refine w_t (np := 9) (l2 := [some (eR a0), some (eI (a1)), some (eI (2))]) (s2 := [eI (v71), eR v28]) rfl (b_iadd (by rw [← e72]; exact ev_w_in (by omega) (by omega))) rfl ?_
            refine j_al (np := 10) rfl rfl I51 b30 (by decide) (n := 2670) rfl rfl (lo := 0) (hi := 2669) (fun _ => rfl) (by omega) (by omega) ?_
            intro v74 e75 b76
            refine b_ri rfl rfl ?_
            show ex_q (dt_fg L ρ) rc (d + 2, (242, 120, [some (eR a0), some (eI (a1)), some (eI (a2))], [eI (v74), eI (v65), eI (a2), eR a0]), f :: F, m50)
            refine w_cw (np := 123) (as := [eI (a2), eI (v65), eI (v74)]) (l2 := [some (eR a0), some (eI (a2)), some (eI (v65)), some (eI (v74))]) (rest := []) rfl rfl rfl (Nat.ble_eq.mp rfl) rfl rfl rfl (I51.kd gA0 (by decide) (n := 69) rfl) rfl ?_
            refine s_241 (a1 := a2) (a2 := v65) (a3 := v74) I51 gA0 (by omega) (by omega) (by omega) ?_
            intro v77 b78
            show ex_q (dt_fg L ρ) rc (d + 2, (242, 123, [some (eR a0), some (eI (a1)), some (eI (a2))], [eI (v77)]), f :: F, m50)
            refine b_ieq (t1 := 133) (t2 := 126) rfl rfl rfl (ev_w_in (by omega) (by omega)) (fun g79 => ?_) (fun g79 => ?_)
            · have b80 : 0 ≤ v77 ∧ v77 ≤ 0 := by omega
              exact v_rv rfl rfl (K m50 I51 F53)
            · have b80 : 1 ≤ v77 ∧ v77 ≤ 1 := by omega
              refine w_t (np := 127) (l2 := [some (eR a0), some (eI (a1)), some (eI (a2))]) (s2 := [eR a0]) rfl (s_an rfl (pos_g I51 gA0 (by decide))) rfl ?_
              refine w_gf (np := 130) (v := eR v54) rfl rfl (I51.kd gA0 (by decide) (n := 69) rfl) (by rw [e55]; rfl) ?_
              refine w_t (np := 131) (l2 := [some (eR a0), some (eI (a1)), some (eI (a2))]) (s2 := [eI (a1), eR v54]) rfl rfl rfl ?_
              refine w_t (np := 132) (l2 := [some (eR a0), some (eI (a1)), some (eI (a2))]) (s2 := [eI (a2), eI (a1), eR v54]) rfl rfl rfl ?_
              refine j_as (np := 133) rfl rfl I51 b56 (by decide) (n := 890) rfl rfl (lo := -1) (hi := 889) (fun _ => rfl) (by omega) (by omega) (by omega) ?_
              intro m80 I81 W82
              have F83 : Fr l_242 0 0 g μ m80 := F53.v W82 b56 rfl rfl
              exact v_rv rfl rfl (K m80 I81 F83)
    · refine w_t (np := 25) (l2 := [some (eR a0), some (eI (a1)), some (eI (a2))]) (s2 := [eR a0]) rfl (s_an rfl (pos_g hI gA0 (by decide))) rfl ?_
      refine w_t (np := 26) (l2 := [some (eR a0), some (eI (a1)), some (eI (a2))]) (s2 := [eI (a1), eR a0]) rfl rfl rfl ?_
      refine w_t (np := 27) (l2 := [some (eR a0), some (eI (a1)), some (eI (a2))]) (s2 := [eI (1), eI (a1), eR a0]) rfl rfl rfl ?_
      refine w_cw (np := 30) (as := [eI (a1), eI (1)]) (l2 := [some (eR a0), some (eI (a1)), some (eI (1))]) (rest := []) rfl rfl rfl (Nat.ble_eq.mp rfl) rfl rfl rfl (hI.kd gA0 (by decide) (n := 69) rfl) rfl ?_
      refine w_t (np := 1) (l2 := [some (eR a0), some (eI (a1)), some (eI (1))]) (s2 := [eR a0]) rfl (s_an rfl (pos_g hI gA0 (by decide))) rfl ?_
      refine j_gr (np := 4) rfl rfl hI gA0 (by decide) (n := 69) rfl rfl rfl ?_
      intro v20 e21 b22 z23
      have b22 : g v20 = 64 := Nat.eq_of_beq_eq_true b22
      refine w_t (np := 5) (l2 := [some (eR a0), some (eI (a1)), some (eI (1))]) (s2 := [eI (3), eR v20]) rfl rfl rfl ?_
      refine w_t (np := 6) (l2 := [some (eR a0), some (eI (a1)), some (eI (1))]) (s2 := [eI (a1), eI (3), eR v20]) rfl rfl rfl ?_
      obtain ⟨v24, e25⟩ : ∃ zz : Int, zz = (3) * (a1) := ⟨_, rfl⟩
      have b26 : 0 ≤ v24 ∧ v24 ≤ 2667 := by omega
      refine w_t (np := 7) (l2 := [some (eR a0), some (eI (a1)), some (eI (1))]) (s2 := [eI (v24), eR v20]) rfl (b_imul (by rw [← e25]; exact ev_w_in (by omega) (by omega))) rfl ?_
      refine w_t (np := 8) (l2 := [some (eR a0), some (eI (a1)), some (eI (1))]) (s2 := [eI (1), eI (v24), eR v20]) rfl rfl rfl ?_
      obtain ⟨v27, e28⟩ : ∃ zz : Int, zz = (v24) + (1) := ⟨_, rfl⟩
      have b29 : 1 ≤ v27 ∧ v27 ≤ 2668 := by omega
      refine w_t (np := 9) (l2 := [some (eR a0), some (eI (a1)), some (eI (1))]) (s2 := [eI (v27), eR v20]) rfl (b_iadd (by rw [← e28]; exact ev_w_in (by omega) (by omega))) rfl ?_
      refine j_al (np := 10) rfl rfl hI b22 (by decide) (n := 2670) rfl rfl (lo := 0) (hi := 2669) (fun _ => rfl) (by omega) (by omega) ?_
      intro v30 e31 b32
      refine b_ri rfl rfl ?_
      show ex_q (dt_fg L ρ) rc (d + 2, (242, 30, [some (eR a0), some (eI (a1)), some (eI (a2))], [eI (v30)]), f :: F, μ)
      refine w_t (np := 31) (l2 := [some (eR a0), some (eI (a1)), some (eI (a2))]) (s2 := [eR a0, eI (v30)]) rfl (s_an rfl (pos_g hI gA0 (by decide))) rfl ?_
      refine w_t (np := 32) (l2 := [some (eR a0), some (eI (a1)), some (eI (a2))]) (s2 := [eI (a2), eR a0, eI (v30)]) rfl rfl rfl ?_
      refine w_t (np := 33) (l2 := [some (eR a0), some (eI (a1)), some (eI (a2))]) (s2 := [eI (1), eI (a2), eR a0, eI (v30)]) rfl rfl rfl ?_
      refine w_cw (np := 36) (as := [eI (a2), eI (1)]) (l2 := [some (eR a0), some (eI (a2)), some (eI (1))]) (rest := [eI (v30)]) rfl rfl rfl (Nat.ble_eq.mp rfl) rfl rfl rfl (hI.kd gA0 (by decide) (n := 69) rfl) rfl ?_
      refine w_t (np := 1) (l2 := [some (eR a0), some (eI (a2)), some (eI (1))]) (s2 := [eR a0]) rfl (s_an rfl (pos_g hI gA0 (by decide))) rfl ?_
      refine w_gf (np := 4) (v := eR v20) rfl rfl (hI.kd gA0 (by decide) (n := 69) rfl) (by rw [e21]; rfl) ?_
      refine w_t (np := 5) (l2 := [some (eR a0), some (eI (a2)), some (eI (1))]) (s2 := [eI (3), eR v20]) rfl rfl rfl ?_
      refine w_t (np := 6) (l2 := [some (eR a0), some (eI (a2)), some (eI (1))]) (s2 := [eI (a2), eI (3), eR v20]) rfl rfl rfl ?_
      obtain ⟨v33, e34⟩ : ∃ zz : Int, zz = (3) * (a2) := ⟨_, rfl⟩
      have b35 : 0 ≤ v33 ∧ v33 ≤ 2667 := by omega
      refine w_t (np := 7) (l2 := [some (eR a0), some (eI (a2)), some (eI (1))]) (s2 := [eI (v33), eR v20]) rfl (b_imul (by rw [← e34]; exact ev_w_in (by omega) (by omega))) rfl ?_
      refine w_t (np := 8) (l2 := [some (eR a0), some (eI (a2)), some (eI (1))]) (s2 := [eI (1), eI (v33), eR v20]) rfl rfl rfl ?_
      obtain ⟨v36, e37⟩ : ∃ zz : Int, zz = (v33) + (1) := ⟨_, rfl⟩
      have b38 : 1 ≤ v36 ∧ v36 ≤ 2668 := by omega
      refine w_t (np := 9) (l2 := [some (eR a0), some (eI (a2)), some (eI (1))]) (s2 := [eI (v36), eR v20]) rfl (b_iadd (by rw [← e37]; exact ev_w_in (by omega) (by omega))) rfl ?_
      refine j_al (np := 10) rfl rfl hI b22 (by decide) (n := 2670) rfl rfl (lo := 0) (hi := 2669) (fun _ => rfl) (by omega) (by omega) ?_
      intro v39 e40 b41
      refine b_ri rfl rfl ?_
      show ex_q (dt_fg L ρ) rc (d + 2, (242, 36, [some (eR a0), some (eI (a1)), some (eI (a2))], [eI (v39), eI (v30)]), f :: F, μ)
      refine b_cne (t1 := 61) (t2 := 39) rfl rfl rfl (ev_w_in (by omega) (by omega)) (ev_w_in (by omega) (by omega)) (fun g42 => ?_) (fun g42 => ?_)
      · refine w_t (np := 62) (l2 := [some (eR a0), some (eI (a1)), some (eI (a2))]) (s2 := [eR a0]) rfl (s_an rfl (pos_g hI gA0 (by decide))) rfl ?_
        refine j_gr (np := 65) rfl rfl hI gA0 (by decide) (n := 69) rfl rfl rfl ?_
        intro v43 e44 b45 z46
        have b45 : g v43 = 68 := Nat.eq_of_beq_eq_true b45
        refine w_t (np := 66) (l2 := [some (eR a0), some (eI (a1)), some (eI (a2))]) (s2 := [eI (a1), eR v43]) rfl rfl rfl ?_
        refine j_al (np := 67) rfl rfl hI b45 (by decide) (n := 890) rfl rfl (lo := -1) (hi := 889) (fun _ => rfl) (by omega) (by omega) ?_
        intro v47 e48 b49
        refine b_ige (t1 := 97) (t2 := 70) rfl rfl rfl (ev_w_in (by omega) (by omega)) (fun g50 => ?_) (fun g50 => ?_)
        · have b51 : 0 ≤ v47 ∧ v47 ≤ 889 := by omega
          refine w_t (np := 98) (l2 := [some (eR a0), some (eI (a1)), some (eI (a2))]) (s2 := [eR a0]) rfl (s_an rfl (pos_g hI gA0 (by decide))) rfl ?_
          refine j_gr (np := 101) rfl rfl hI gA0 (by decide) (n := 69) rfl rfl rfl ?_
          intro v51 e52 b53 z54
          have b53 : g v51 = 69 := Nat.eq_of_beq_eq_true b53
          refine w_t (np := 102) (l2 := [some (eR a0), some (eI (a1)), some (eI (a2))]) (s2 := [eI (a1), eR v51]) rfl rfl rfl ?_
          refine j_al (np := 103) rfl rfl hI b53 (by decide) (n := 890) rfl rfl (lo := -1) (hi := 889) (fun _ => rfl) (by omega) (by omega) ?_
          intro v55 e56 b57
          refine b_ige (t1 := 133) (t2 := 106) rfl rfl rfl (ev_w_in (by omega) (by omega)) (fun g58 => ?_) (fun g58 => ?_)
          · have b59 : 0 ≤ v55 ∧ v55 ≤ 889 := by omega
            exact v_rv rfl rfl (K μ hI F0)
          · have b59 : -1 ≤ v55 ∧ v55 ≤ -1 := by omega
            refine w_t (np := 107) (l2 := [some (eR a0), some (eI (a1)), some (eI (a2))]) (s2 := [eR a0]) rfl (s_an rfl (pos_g hI gA0 (by decide))) rfl ?_
            refine w_t (np := 108) (l2 := [some (eR a0), some (eI (a1)), some (eI (a2))]) (s2 := [eI (a2), eR a0]) rfl rfl rfl ?_
            refine w_t (np := 109) (l2 := [some (eR a0), some (eI (a1)), some (eI (a2))]) (s2 := [eR a0, eI (a2), eR a0]) rfl (s_an rfl (pos_g hI gA0 (by decide))) rfl ?_
            refine w_t (np := 110) (l2 := [some (eR a0), some (eI (a1)), some (eI (a2))]) (s2 := [eI (a1), eR a0, eI (a2), eR a0]) rfl rfl rfl ?_
            refine w_t (np := 111) (l2 := [some (eR a0), some (eI (a1)), some (eI (a2))]) (s2 := [eI (0), eI (a1), eR a0, eI (a2), eR a0]) rfl rfl rfl ?_
            refine w_cw (np := 114) (as := [eI (a1), eI (0)]) (l2 := [some (eR a0), some (eI (a1)), some (eI (0))]) (rest := [eI (a2), eR a0]) rfl rfl rfl (Nat.ble_eq.mp rfl) rfl rfl rfl (hI.kd gA0 (by decide) (n := 69) rfl) rfl ?_
            refine w_t (np := 1) (l2 := [some (eR a0), some (eI (a1)), some (eI (0))]) (s2 := [eR a0]) rfl (s_an rfl (pos_g hI gA0 (by decide))) rfl ?_
            refine w_gf (np := 4) (v := eR v20) rfl rfl (hI.kd gA0 (by decide) (n := 69) rfl) (by rw [e21]; rfl) ?_
            refine w_t (np := 5) (l2 := [some (eR a0), some (eI (a1)), some (eI (0))]) (s2 := [eI (3), eR v20]) rfl rfl rfl ?_
            refine w_t (np := 6) (l2 := [some (eR a0), some (eI (a1)), some (eI (0))]) (s2 := [eI (a1), eI (3), eR v20]) rfl rfl rfl ?_
            obtain ⟨v59, e60⟩ : ∃ zz : Int, zz = (3) * (a1) := ⟨_, rfl⟩
            have b61 : 0 ≤ v59 ∧ v59 ≤ 2667 := by omega
            refine w_t (np := 7) (l2 := [some (eR a0), some (eI (a1)), some (eI (0))]) (s2 := [eI (v59), eR v20]) rfl (b_imul (by rw [← e60]; exact ev_w_in (by omega) (by omega))) rfl ?_
            refine w_t (np := 8) (l2 := [some (eR a0), some (eI (a1)), some (eI (0))]) (s2 := [eI (0), eI (v59), eR v20]) rfl rfl rfl ?_
            refine w_t (np := 9) (l2 := [some (eR a0), some (eI (a1)), some (eI (0))]) (s2 := [eI (v59), eR v20]) rfl (b_iadd (by rw [Int.add_zero]; exact ev_w_in (by omega) (by omega))) rfl ?_
            refine j_al (np := 10) rfl rfl hI b22 (by decide) (n := 2670) rfl rfl (lo := 0) (hi := 2669) (fun _ => rfl) (by omega) (by omega) ?_
            intro v62 e63 b64
            refine b_ri rfl rfl ?_
            show ex_q (dt_fg L ρ) rc (d + 2, (242, 114, [some (eR a0), some (eI (a1)), some (eI (a2))], [eI (v62), eI (a2), eR a0]), f :: F, μ)
            refine w_t (np := 115) (l2 := [some (eR a0), some (eI (a1)), some (eI (a2))]) (s2 := [eR a0, eI (v62), eI (a2), eR a0]) rfl (s_an rfl (pos_g hI gA0 (by decide))) rfl ?_
            refine w_t (np := 116) (l2 := [some (eR a0), some (eI (a1)), some (eI (a2))]) (s2 := [eI (a1), eR a0, eI (v62), eI (a2), eR a0]) rfl rfl rfl ?_
            refine w_t (np := 117) (l2 := [some (eR a0), some (eI (a1)), some (eI (a2))]) (s2 := [eI (2), eI (a1), eR a0, eI (v62), eI (a2), eR a0]) rfl rfl rfl ?_
            refine w_cw (np := 120) (as := [eI (a1), eI (2)]) (l2 := [some (eR a0), some (eI (a1)), some (eI (2))]) (rest := [eI (v62), eI (a2), eR a0]) rfl rfl rfl (Nat.ble_eq.mp rfl) rfl rfl rfl (hI.kd gA0 (by decide) (n := 69) rfl) rfl ?_
            refine w_t (np := 1) (l2 := [some (eR a0), some (eI (a1)), some (eI (2))]) (s2 := [eR a0]) rfl (s_an rfl (pos_g hI gA0 (by decide))) rfl ?_
            refine w_gf (np := 4) (v := eR v20) rfl rfl (hI.kd gA0 (by decide) (n := 69) rfl) (by rw [e21]; rfl) ?_
            refine w_t (np := 5) (l2 := [some (eR a0), some (eI (a1)), some (eI (2))]) (s2 := [eI (3), eR v20]) rfl rfl rfl ?_
            refine w_t (np := 6) (l2 := [some (eR a0), some (eI (a1)), some (eI (2))]) (s2 := [eI (a1), eI (3), eR v20]) rfl rfl rfl ?_
            obtain ⟨v65, e66⟩ : ∃ zz : Int, zz = (3) * (a1) := ⟨_, rfl⟩
            have b67 : 0 ≤ v65 ∧ v65 ≤ 2667 := by omega
            refine w_t (np := 7) (l2 := [some (eR a0), some (eI (a1)), some (eI (2))]) (s2 := [eI (v65), eR v20]) rfl (b_imul (by rw [← e66]; exact ev_w_in (by omega) (by omega))) rfl ?_
            refine w_t (np := 8) (l2 := [some (eR a0), some (eI (a1)), some (eI (2))]) (s2 := [eI (2), eI (v65), eR v20]) rfl rfl rfl ?_
            obtain ⟨v68, e69⟩ : ∃ zz : Int, zz = (v65) + (2) := ⟨_, rfl⟩
            have b70 : 2 ≤ v68 ∧ v68 ≤ 2669 := by omega
            refine w_t (np := 9) (l2 := [some (eR a0), some (eI (a1)), some (eI (2))]) (s2 := [eI (v68), eR v20]) rfl (b_iadd (by rw [← e69]; exact ev_w_in (by omega) (by omega))) rfl ?_
            refine j_al (np := 10) rfl rfl hI b22 (by decide) (n := 2670) rfl rfl (lo := 0) (hi := 2669) (fun _ => rfl) (by omega) (by omega) ?_
            intro v71 e72 b73
            refine b_ri rfl rfl ?_
            show ex_q (dt_fg L ρ) rc (d + 2, (242, 120, [some (eR a0), some (eI (a1)), some (eI (a2))], [eI (v71), eI (v62), eI (a2), eR a0]), f :: F, μ)
            refine w_cw (np := 123) (as := [eI (a2), eI (v62), eI (v71)]) (l2 := [some (eR a0), some (eI (a2)), some (eI (v62)), some (eI (v71))]) (rest := []) rfl rfl rfl (Nat.ble_eq.mp rfl) rfl rfl rfl (hI.kd gA0 (by decide) (n := 69) rfl) rfl ?_
            refine s_241 (a1 := a2) (a2 := v62) (a3 := v71) hI gA0 (by omega) (by omega) (by omega) ?_
            intro v74 b75
            show ex_q (dt_fg L ρ) rc (d + 2, (242, 123, [some (eR a0), some (eI (a1)), some (eI (a2))], [eI (v74)]), f :: F, μ)
            refine b_ieq (t1 := 133) (t2 := 126) rfl rfl rfl (ev_w_in (by omega) (by omega)) (fun g76 => ?_) (fun g76 => ?_)
            · have b77 : 0 ≤ v74 ∧ v74 ≤ 0 := by omega
              exact v_rv rfl rfl (K μ hI F0)
            · have b77 : 1 ≤ v74 ∧ v74 ≤ 1 := by omega
              refine w_t (np := 127) (l2 := [some (eR a0), some (eI (a1)), some (eI (a2))]) (s2 := [eR a0]) rfl (s_an rfl (pos_g hI gA0 (by decide))) rfl ?_
              refine w_gf (np := 130) (v := eR v51) rfl rfl (hI.kd gA0 (by decide) (n := 69) rfl) (by rw [e52]; rfl) ?_
              refine w_t (np := 131) (l2 := [some (eR a0), some (eI (a1)), some (eI (a2))]) (s2 := [eI (a1), eR v51]) rfl rfl rfl ?_
              refine w_t (np := 132) (l2 := [some (eR a0), some (eI (a1)), some (eI (a2))]) (s2 := [eI (a2), eI (a1), eR v51]) rfl rfl rfl ?_
              refine j_as (np := 133) rfl rfl hI b53 (by decide) (n := 890) rfl rfl (lo := -1) (hi := 889) (fun _ => rfl) (by omega) (by omega) (by omega) ?_
              intro m77 I78 W79
              have F80 : Fr l_242 0 0 g μ m77 := F0.v W79 b53 rfl rfl
              exact v_rv rfl rfl (K m77 I78 F80)
        · have b51 : -1 ≤ v47 ∧ v47 ≤ -1 := by omega
          refine w_t (np := 71) (l2 := [some (eR a0), some (eI (a1)), some (eI (a2))]) (s2 := [eR a0]) rfl (s_an rfl (pos_g hI gA0 (by decide))) rfl ?_
          refine w_t (np := 72) (l2 := [some (eR a0), some (eI (a1)), some (eI (a2))]) (s2 := [eI (a2), eR a0]) rfl rfl rfl ?_
          refine w_t (np := 73) (l2 := [some (eR a0), some (eI (a1)), some (eI (a2))]) (s2 := [eR a0, eI (a2), eR a0]) rfl (s_an rfl (pos_g hI gA0 (by decide))) rfl ?_
          refine w_t (np := 74) (l2 := [some (eR a0), some (eI (a1)), some (eI (a2))]) (s2 := [eI (a1), eR a0, eI (a2), eR a0]) rfl rfl rfl ?_
          refine w_t (np := 75) (l2 := [some (eR a0), some (eI (a1)), some (eI (a2))]) (s2 := [eI (0), eI (a1), eR a0, eI (a2), eR a0]) rfl rfl rfl ?_
          refine w_cw (np := 78) (as := [eI (a1), eI (0)]) (l2 := [some (eR a0), some (eI (a1)), some (eI (0))]) (rest := [eI (a2), eR a0]) rfl rfl rfl (Nat.ble_eq.mp rfl) rfl rfl rfl (hI.kd gA0 (by decide) (n := 69) rfl) rfl ?_
          refine w_t (np := 1) (l2 := [some (eR a0), some (eI (a1)), some (eI (0))]) (s2 := [eR a0]) rfl (s_an rfl (pos_g hI gA0 (by decide))) rfl ?_
          refine w_gf (np := 4) (v := eR v20) rfl rfl (hI.kd gA0 (by decide) (n := 69) rfl) (by rw [e21]; rfl) ?_
          refine w_t (np := 5) (l2 := [some (eR a0), some (eI (a1)), some (eI (0))]) (s2 := [eI (3), eR v20]) rfl rfl rfl ?_
          refine w_t (np := 6) (l2 := [some (eR a0), some (eI (a1)), some (eI (0))]) (s2 := [eI (a1), eI (3), eR v20]) rfl rfl rfl ?_
          obtain ⟨v51, e52⟩ : ∃ zz : Int, zz = (3) * (a1) := ⟨_, rfl⟩
          have b53 : 0 ≤ v51 ∧ v51 ≤ 2667 := by omega
          refine w_t (np := 7) (l2 := [some (eR a0), some (eI (a1)), some (eI (0))]) (s2 := [eI (v51), eR v20]) rfl (b_imul (by rw [← e52]; exact ev_w_in (by omega) (by omega))) rfl ?_
          refine w_t (np := 8) (l2 := [some (eR a0), some (eI (a1)), some (eI (0))]) (s2 := [eI (0), eI (v51), eR v20]) rfl rfl rfl ?_
          refine w_t (np := 9) (l2 := [some (eR a0), some (eI (a1)), some (eI (0))]) (s2 := [eI (v51), eR v20]) rfl (b_iadd (by rw [Int.add_zero]; exact ev_w_in (by omega) (by omega))) rfl ?_
          refine j_al (np := 10) rfl rfl hI b22 (by decide) (n := 2670) rfl rfl (lo := 0) (hi := 2669) (fun _ => rfl) (by omega) (by omega) ?_
          intro v54 e55 b56
          refine b_ri rfl rfl ?_
          show ex_q (dt_fg L ρ) rc (d + 2, (242, 78, [some (eR a0), some (eI (a1)), some (eI (a2))], [eI (v54), eI (a2), eR a0]), f :: F, μ)
          refine w_t (np := 79) (l2 := [some (eR a0), some (eI (a1)), some (eI (a2))]) (s2 := [eR a0, eI (v54), eI (a2), eR a0]) rfl (s_an rfl (pos_g hI gA0 (by decide))) rfl ?_
          refine w_t (np := 80) (l2 := [some (eR a0), some (eI (a1)), some (eI (a2))]) (s2 := [eI (a1), eR a0, eI (v54), eI (a2), eR a0]) rfl rfl rfl ?_
          refine w_t (np := 81) (l2 := [some (eR a0), some (eI (a1)), some (eI (a2))]) (s2 := [eI (1), eI (a1), eR a0, eI (v54), eI (a2), eR a0]) rfl rfl rfl ?_
          refine w_cw (np := 84) (as := [eI (a1), eI (1)]) (l2 := [some (eR a0), some (eI (a1)), some (eI (1))]) (rest := [eI (v54), eI (a2), eR a0]) rfl rfl rfl (Nat.ble_eq.mp rfl) rfl rfl rfl (hI.kd gA0 (by decide) (n := 69) rfl) rfl ?_
          refine w_t (np := 1) (l2 := [some (eR a0), some (eI (a1)), some (eI (1))]) (s2 := [eR a0]) rfl (s_an rfl (pos_g hI gA0 (by decide))) rfl ?_
          refine w_gf (np := 4) (v := eR v20) rfl rfl (hI.kd gA0 (by decide) (n := 69) rfl) (by rw [e21]; rfl) ?_
          refine w_t (np := 5) (l2 := [some (eR a0), some (eI (a1)), some (eI (1))]) (s2 := [eI (3), eR v20]) rfl rfl rfl ?_
          refine w_t (np := 6) (l2 := [some (eR a0), some (eI (a1)), some (eI (1))]) (s2 := [eI (a1), eI (3), eR v20]) rfl rfl rfl ?_
          obtain ⟨v57, e58⟩ : ∃ zz : Int, zz = (3) * (a1) := ⟨_, rfl⟩
          have b59 : 0 ≤ v57 ∧ v57 ≤ 2667 := by omega
          refine w_t (np := 7) (l2 := [some (eR a0), some (eI (a1)), some (eI (1))]) (s2 := [eI (v57), eR v20]) rfl (b_imul (by rw [← e58]; exact ev_w_in (by omega) (by omega))) rfl ?_
          refine w_t (np := 8) (l2 := [some (eR a0), some (eI (a1)), some (eI (1))]) (s2 := [eI (1), eI (v57), eR v20]) rfl rfl rfl ?_
          obtain ⟨v60, e61⟩ : ∃ zz : Int, zz = (v57) + (1) := ⟨_, rfl⟩
          have b62 : 1 ≤ v60 ∧ v60 ≤ 2668 := by omega
          refine w_t (np := 9) (l2 := [some (eR a0), some (eI (a1)), some (eI (1))]) (s2 := [eI (v60), eR v20]) rfl (b_iadd (by rw [← e61]; exact ev_w_in (by omega) (by omega))) rfl ?_
          refine j_al (np := 10) rfl rfl hI b22 (by decide) (n := 2670) rfl rfl (lo := 0) (hi := 2669) (fun _ => rfl) (by omega) (by omega) ?_
          intro v63 e64 b65
          refine b_ri rfl rfl ?_
          show ex_q (dt_fg L ρ) rc (d + 2, (242, 84, [some (eR a0), some (eI (a1)), some (eI (a2))], [eI (v63), eI (v54), eI (a2), eR a0]), f :: F, μ)
          refine w_cw (np := 87) (as := [eI (a2), eI (v54), eI (v63)]) (l2 := [some (eR a0), some (eI (a2)), some (eI (v54)), some (eI (v63))]) (rest := []) rfl rfl rfl (Nat.ble_eq.mp rfl) rfl rfl rfl (hI.kd gA0 (by decide) (n := 69) rfl) rfl ?_
          refine s_241 (a1 := a2) (a2 := v54) (a3 := v63) hI gA0 (by omega) (by omega) (by omega) ?_
          intro v66 b67
          show ex_q (dt_fg L ρ) rc (d + 2, (242, 87, [some (eR a0), some (eI (a1)), some (eI (a2))], [eI (v66)]), f :: F, μ)
          refine b_ieq (t1 := 97) (t2 := 90) rfl rfl rfl (ev_w_in (by omega) (by omega)) (fun g68 => ?_) (fun g68 => ?_)
          · have b69 : 0 ≤ v66 ∧ v66 ≤ 0 := by omega
            refine w_t (np := 98) (l2 := [some (eR a0), some (eI (a1)), some (eI (a2))]) (s2 := [eR a0]) rfl (s_an rfl (pos_g hI gA0 (by decide))) rfl ?_
            refine j_gr (np := 101) rfl rfl hI gA0 (by decide) (n := 69) rfl rfl rfl ?_
            intro v69 e70 b71 z72
            have b71 : g v69 = 69 := Nat.eq_of_beq_eq_true b71
            refine w_t (np := 102) (l2 := [some (eR a0), some (eI (a1)), some (eI (a2))]) (s2 := [eI (a1), eR v69]) rfl rfl rfl ?_
            refine j_al (np := 103) rfl rfl hI b71 (by decide) (n := 890) rfl rfl (lo := -1) (hi := 889) (fun _ => rfl) (by omega) (by omega) ?_
            intro v73 e74 b75
            refine b_ige (t1 := 133) (t2 := 106) rfl rfl rfl (ev_w_in (by omega) (by omega)) (fun g76 => ?_) (fun g76 => ?_)
            · have b77 : 0 ≤ v73 ∧ v73 ≤ 889 := by omega
              exact v_rv rfl rfl (K μ hI F0)
            · have b77 : -1 ≤ v73 ∧ v73 ≤ -1 := by omega
              refine w_t (np := 107) (l2 := [some (eR a0), some (eI (a1)), some (eI (a2))]) (s2 := [eR a0]) rfl (s_an rfl (pos_g hI gA0 (by decide))) rfl ?_
              refine w_t (np := 108) (l2 := [some (eR a0), some (eI (a1)), some (eI (a2))]) (s2 := [eI (a2), eR a0]) rfl rfl rfl ?_
              refine w_t (np := 109) (l2 := [some (eR a0), some (eI (a1)), some (eI (a2))]) (s2 := [eR a0, eI (a2), eR a0]) rfl (s_an rfl (pos_g hI gA0 (by decide))) rfl ?_
              refine w_t (np := 110) (l2 := [some (eR a0), some (eI (a1)), some (eI (a2))]) (s2 := [eI (a1), eR a0, eI (a2), eR a0]) rfl rfl rfl ?_
              refine w_t (np := 111) (l2 := [some (eR a0), some (eI (a1)), some (eI (a2))]) (s2 := [eI (0), eI (a1), eR a0, eI (a2), eR a0]) rfl rfl rfl ?_
              refine w_cw (np := 114) (as := [eI (a1), eI (0)]) (l2 := [some (eR a0), some (eI (a1)), some (eI (0))]) (rest := [eI (a2), eR a0]) rfl rfl rfl (Nat.ble_eq.mp rfl) rfl rfl rfl (hI.kd gA0 (by decide) (n := 69) rfl) rfl ?_
              refine w_t (np := 1) (l2 := [some (eR a0), some (eI (a1)), some (eI (0))]) (s2 := [eR a0]) rfl (s_an rfl (pos_g hI gA0 (by decide))) rfl ?_
              refine w_gf (np := 4) (v := eR v20) rfl rfl (hI.kd gA0 (by decide) (n := 69) rfl) (by rw [e21]; rfl) ?_
              refine w_t (np := 5) (l2 := [some (eR a0), some (eI (a1)), some (eI (0))]) (s2 := [eI (3), eR v20]) rfl rfl rfl ?_
              refine w_t (np := 6) (l2 := [some (eR a0), some (eI (a1)), some (eI (0))]) (s2 := [eI (a1), eI (3), eR v20]) rfl rfl rfl ?_
              obtain ⟨v77, e78⟩ : ∃ zz : Int, zz = (3) * (a1) := ⟨_, rfl⟩
              have b79 : 0 ≤ v77 ∧ v77 ≤ 2667 := by omega
              refine w_t (np := 7) (l2 := [some (eR a0), some (eI (a1)), some (eI (0))]) (s2 := [eI (v77), eR v20]) rfl (b_imul (by rw [← e78]; exact ev_w_in (by omega) (by omega))) rfl ?_
              refine w_t (np := 8) (l2 := [some (eR a0), some (eI (a1)), some (eI (0))]) (s2 := [eI (0), eI (v77), eR v20]) rfl rfl rfl ?_
              refine w_t (np := 9) (l2 := [some (eR a0), some (eI (a1)), some (eI (0))]) (s2 := [eI (v77), eR v20]) rfl (b_iadd (by rw [Int.add_zero]; exact ev_w_in (by omega) (by omega))) rfl ?_
              refine j_al (np := 10) rfl rfl hI b22 (by decide) (n := 2670) rfl rfl (lo := 0) (hi := 2669) (fun _ => rfl) (by omega) (by omega) ?_
              intro v80 e81 b82
              refine b_ri rfl rfl ?_
              show ex_q (dt_fg L ρ) rc (d + 2, (242, 114, [some (eR a0), some (eI (a1)), some (eI (a2))], [eI (v80), eI (a2), eR a0]), f :: F, μ)
              refine w_t (np := 115) (l2 := [some (eR a0), some (eI (a1)), some (eI (a2))]) (s2 := [eR a0, eI (v80), eI (a2), eR a0]) rfl (s_an rfl (pos_g hI gA0 (by decide))) rfl ?_
              refine w_t (np := 116) (l2 := [some (eR a0), some (eI (a1)), some (eI (a2))]) (s2 := [eI (a1), eR a0, eI (v80), eI (a2), eR a0]) rfl rfl rfl ?_
              refine w_t (np := 117) (l2 := [some (eR a0), some (eI (a1)), some (eI (a2))]) (s2 := [eI (2), eI (a1), eR a0, eI (v80), eI (a2), eR a0]) rfl rfl rfl ?_
              refine w_cw (np := 120) (as := [eI (a1), eI (2)]) (l2 := [some (eR a0), some (eI (a1)), some (eI (2))]) (rest := [eI (v80), eI (a2), eR a0]) rfl rfl rfl (Nat.ble_eq.mp rfl) rfl rfl rfl (hI.kd gA0 (by decide) (n := 69) rfl) rfl ?_
              refine w_t (np := 1) (l2 := [some (eR a0), some (eI (a1)), some (eI (2))]) (s2 := [eR a0]) rfl (s_an rfl (pos_g hI gA0 (by decide))) rfl ?_
              refine w_gf (np := 4) (v := eR v20) rfl rfl (hI.kd gA0 (by decide) (n := 69) rfl) (by rw [e21]; rfl) ?_
              refine w_t (np := 5) (l2 := [some (eR a0), some (eI (a1)), some (eI (2))]) (s2 := [eI (3), eR v20]) rfl rfl rfl ?_
              refine w_t (np := 6) (l2 := [some (eR a0), some (eI (a1)), some (eI (2))]) (s2 := [eI (a1), eI (3), eR v20]) rfl rfl rfl ?_
              obtain ⟨v83, e84⟩ : ∃ zz : Int, zz = (3) * (a1) := ⟨_, rfl⟩
              have b85 : 0 ≤ v83 ∧ v83 ≤ 2667 := by omega
              refine w_t (np := 7) (l2 := [some (eR a0), some (eI (a1)), some (eI (2))]) (s2 := [eI (v83), eR v20]) rfl (b_imul (by rw [← e84]; exact ev_w_in (by omega) (by omega))) rfl ?_
              refine w_t (np := 8) (l2 := [some (eR a0), some (eI (a1)), some (eI (2))]) (s2 := [eI (2), eI (v83), eR v20]) rfl rfl rfl ?_
              obtain ⟨v86, e87⟩ : ∃ zz : Int, zz = (v83) + (2) := ⟨_, rfl⟩
              have b88 : 2 ≤ v86 ∧ v86 ≤ 2669 := by omega
              refine w_t (np := 9) (l2 := [some (eR a0), some (eI (a1)), some (eI (2))]) (s2 := [eI (v86), eR v20]) rfl (b_iadd (by rw [← e87]; exact ev_w_in (by omega) (by omega))) rfl ?_
              refine j_al (np := 10) rfl rfl hI b22 (by decide) (n := 2670) rfl rfl (lo := 0) (hi := 2669) (fun _ => rfl) (by omega) (by omega) ?_
              intro v89 e90 b91
              refine b_ri rfl rfl ?_
              show ex_q (dt_fg L ρ) rc (d + 2, (242, 120, [some (eR a0), some (eI (a1)), some (eI (a2))], [eI (v89), eI (v80), eI (a2), eR a0]), f :: F, μ)
              refine w_cw (np := 123) (as := [eI (a2), eI (v80), eI (v89)]) (l2 := [some (eR a0), some (eI (a2)), some (eI (v80)), some (eI (v89))]) (rest := []) rfl rfl rfl (Nat.ble_eq.mp rfl) rfl rfl rfl (hI.kd gA0 (by decide) (n := 69) rfl) rfl ?_
              refine s_241 (a1 := a2) (a2 := v80) (a3 := v89) hI gA0 (by omega) (by omega) (by omega) ?_
              intro v92 b93
              show ex_q (dt_fg L ρ) rc (d + 2, (242, 123, [some (eR a0), some (eI (a1)), some (eI (a2))], [eI (v92)]), f :: F, μ)
              refine b_ieq (t1 := 133) (t2 := 126) rfl rfl rfl (ev_w_in (by omega) (by omega)) (fun g94 => ?_) (fun g94 => ?_)
              · have b95 : 0 ≤ v92 ∧ v92 ≤ 0 := by omega
                exact v_rv rfl rfl (K μ hI F0)
              · have b95 : 1 ≤ v92 ∧ v92 ≤ 1 := by omega
                refine w_t (np := 127) (l2 := [some (eR a0), some (eI (a1)), some (eI (a2))]) (s2 := [eR a0]) rfl (s_an rfl (pos_g hI gA0 (by decide))) rfl ?_
                refine w_gf (np := 130) (v := eR v69) rfl rfl (hI.kd gA0 (by decide) (n := 69) rfl) (by rw [e70]; rfl) ?_
                refine w_t (np := 131) (l2 := [some (eR a0), some (eI (a1)), some (eI (a2))]) (s2 := [eI (a1), eR v69]) rfl rfl rfl ?_
                refine w_t (np := 132) (l2 := [some (eR a0), some (eI (a1)), some (eI (a2))]) (s2 := [eI (a2), eI (a1), eR v69]) rfl rfl rfl ?_
                refine j_as (np := 133) rfl rfl hI b71 (by decide) (n := 890) rfl rfl (lo := -1) (hi := 889) (fun _ => rfl) (by omega) (by omega) (by omega) ?_
                intro m95 I96 W97
                have F98 : Fr l_242 0 0 g μ m95 := F0.v W97 b71 rfl rfl
                exact v_rv rfl rfl (K m95 I96 F98)
          · have b69 : 1 ≤ v66 ∧ v66 ≤ 1 := by omega
            refine w_t (np := 91) (l2 := [some (eR a0), some (eI (a1)), some (eI (a2))]) (s2 := [eR a0]) rfl (s_an rfl (pos_g hI gA0 (by decide))) rfl ?_
            refine w_gf (np := 94) (v := eR v43) rfl rfl (hI.kd gA0 (by decide) (n := 69) rfl) (by rw [e44]; rfl) ?_
            refine w_t (np := 95) (l2 := [some (eR a0), some (eI (a1)), some (eI (a2))]) (s2 := [eI (a1), eR v43]) rfl rfl rfl ?_
            refine w_t (np := 96) (l2 := [some (eR a0), some (eI (a1)), some (eI (a2))]) (s2 := [eI (a2), eI (a1), eR v43]) rfl rfl rfl ?_
            refine j_as (np := 97) rfl rfl hI b45 (by decide) (n := 890) rfl rfl (lo := -1) (hi := 889) (fun _ => rfl) (by omega) (by omega) (by omega) ?_
            intro m69 I70 W71
            have F72 : Fr l_242 0 0 g μ m69 := F0.v W71 b45 rfl rfl
            refine w_t (np := 98) (l2 := [some (eR a0), some (eI (a1)), some (eI (a2))]) (s2 := [eR a0]) rfl (s_an rfl (pos_g I70 gA0 (by decide))) rfl ?_
            refine j_gr (np := 101) rfl rfl I70 gA0 (by decide) (n := 69) rfl rfl rfl ?_
            intro v73 e74 b75 z76
            have b75 : g v73 = 69 := Nat.eq_of_beq_eq_true b75
            refine w_t (np := 102) (l2 := [some (eR a0), some (eI (a1)), some (eI (a2))]) (s2 := [eI (a1), eR v73]) rfl rfl rfl ?_
            refine j_al (np := 103) rfl rfl I70 b75 (by decide) (n := 890) rfl rfl (lo := -1) (hi := 889) (fun _ => rfl) (by omega) (by omega) ?_
            intro v77 e78 b79
            refine b_ige (t1 := 133) (t2 := 106) rfl rfl rfl (ev_w_in (by omega) (by omega)) (fun g80 => ?_) (fun g80 => ?_)
            · have b81 : 0 ≤ v77 ∧ v77 ≤ 889 := by omega
              exact v_rv rfl rfl (K m69 I70 F72)
            · have b81 : -1 ≤ v77 ∧ v77 ≤ -1 := by omega
              refine w_t (np := 107) (l2 := [some (eR a0), some (eI (a1)), some (eI (a2))]) (s2 := [eR a0]) rfl (s_an rfl (pos_g I70 gA0 (by decide))) rfl ?_
              refine w_t (np := 108) (l2 := [some (eR a0), some (eI (a1)), some (eI (a2))]) (s2 := [eI (a2), eR a0]) rfl rfl rfl ?_
              refine w_t (np := 109) (l2 := [some (eR a0), some (eI (a1)), some (eI (a2))]) (s2 := [eR a0, eI (a2), eR a0]) rfl (s_an rfl (pos_g I70 gA0 (by decide))) rfl ?_
              refine w_t (np := 110) (l2 := [some (eR a0), some (eI (a1)), some (eI (a2))]) (s2 := [eI (a1), eR a0, eI (a2), eR a0]) rfl rfl rfl ?_
              refine w_t (np := 111) (l2 := [some (eR a0), some (eI (a1)), some (eI (a2))]) (s2 := [eI (0), eI (a1), eR a0, eI (a2), eR a0]) rfl rfl rfl ?_
              refine w_cw (np := 114) (as := [eI (a1), eI (0)]) (l2 := [some (eR a0), some (eI (a1)), some (eI (0))]) (rest := [eI (a2), eR a0]) rfl rfl rfl (Nat.ble_eq.mp rfl) rfl rfl rfl (I70.kd gA0 (by decide) (n := 69) rfl) rfl ?_
              refine w_t (np := 1) (l2 := [some (eR a0), some (eI (a1)), some (eI (0))]) (s2 := [eR a0]) rfl (s_an rfl (pos_g I70 gA0 (by decide))) rfl ?_
              refine w_gf (np := 4) (v := eR v20) rfl rfl (I70.kd gA0 (by decide) (n := 69) rfl) (by rw [(W71.addr e21 b45 gA0 (by decide))]; rfl) ?_
              refine w_t (np := 5) (l2 := [some (eR a0), some (eI (a1)), some (eI (0))]) (s2 := [eI (3), eR v20]) rfl rfl rfl ?_
              refine w_t (np := 6) (l2 := [some (eR a0), some (eI (a1)), some (eI (0))]) (s2 := [eI (a1), eI (3), eR v20]) rfl rfl rfl ?_
              obtain ⟨v81, e82⟩ : ∃ zz : Int, zz = (3) * (a1) := ⟨_, rfl⟩
              have b83 : 0 ≤ v81 ∧ v81 ≤ 2667 := by omega
              refine w_t (np := 7) (l2 := [some (eR a0), some (eI (a1)), some (eI (0))]) (s2 := [eI (v81), eR v20]) rfl (b_imul (by rw [← e82]; exact ev_w_in (by omega) (by omega))) rfl ?_
              refine w_t (np := 8) (l2 := [some (eR a0), some (eI (a1)), some (eI (0))]) (s2 := [eI (0), eI (v81), eR v20]) rfl rfl rfl ?_
              refine w_t (np := 9) (l2 := [some (eR a0), some (eI (a1)), some (eI (0))]) (s2 := [eI (v81), eR v20]) rfl (b_iadd (by rw [Int.add_zero]; exact ev_w_in (by omega) (by omega))) rfl ?_
              refine j_al (np := 10) rfl rfl I70 b22 (by decide) (n := 2670) rfl rfl (lo := 0) (hi := 2669) (fun _ => rfl) (by omega) (by omega) ?_
              intro v84 e85 b86
              refine b_ri rfl rfl ?_
              show ex_q (dt_fg L ρ) rc (d + 2, (242, 114, [some (eR a0), some (eI (a1)), some (eI (a2))], [eI (v84), eI (a2), eR a0]), f :: F, m69)
              refine w_t (np := 115) (l2 := [some (eR a0), some (eI (a1)), some (eI (a2))]) (s2 := [eR a0, eI (v84), eI (a2), eR a0]) rfl (s_an rfl (pos_g I70 gA0 (by decide))) rfl ?_
              refine w_t (np := 116) (l2 := [some (eR a0), some (eI (a1)), some (eI (a2))]) (s2 := [eI (a1), eR a0, eI (v84), eI (a2), eR a0]) rfl rfl rfl ?_
              refine w_t (np := 117) (l2 := [some (eR a0), some (eI (a1)), some (eI (a2))]) (s2 := [eI (2), eI (a1), eR a0, eI (v84), eI (a2), eR a0]) rfl rfl rfl ?_
              refine w_cw (np := 120) (as := [eI (a1), eI (2)]) (l2 := [some (eR a0), some (eI (a1)), some (eI (2))]) (rest := [eI (v84), eI (a2), eR a0]) rfl rfl rfl (Nat.ble_eq.mp rfl) rfl rfl rfl (I70.kd gA0 (by decide) (n := 69) rfl) rfl ?_
              refine w_t (np := 1) (l2 := [some (eR a0), some (eI (a1)), some (eI (2))]) (s2 := [eR a0]) rfl (s_an rfl (pos_g I70 gA0 (by decide))) rfl ?_
              refine w_gf (np := 4) (v := eR v20) rfl rfl (I70.kd gA0 (by decide) (n := 69) rfl) (by rw [(W71.addr e21 b45 gA0 (by decide))]; rfl) ?_
              refine w_t (np := 5) (l2 := [some (eR a0), some (eI (a1)), some (eI (2))]) (s2 := [eI (3), eR v20]) rfl rfl rfl ?_
              refine w_t (np := 6) (l2 := [some (eR a0), some (eI (a1)), some (eI (2))]) (s2 := [eI (a1), eI (3), eR v20]) rfl rfl rfl ?_
              obtain ⟨v87, e88⟩ : ∃ zz : Int, zz = (3) * (a1) := ⟨_, rfl⟩
              have b89 : 0 ≤ v87 ∧ v87 ≤ 2667 := by omega
              refine w_t (np := 7) (l2 := [some (eR a0), some (eI (a1)), some (eI (2))]) (s2 := [eI (v87), eR v20]) rfl (b_imul (by rw [← e88]; exact ev_w_in (by omega) (by omega))) rfl ?_
              refine w_t (np := 8) (l2 := [some (eR a0), some (eI (a1)), some (eI (2))]) (s2 := [eI (2), eI (v87), eR v20]) rfl rfl rfl ?_
              obtain ⟨v90, e91⟩ : ∃ zz : Int, zz = (v87) + (2) := ⟨_, rfl⟩
              have b92 : 2 ≤ v90 ∧ v90 ≤ 2669 := by omega
              refine w_t (np := 9) (l2 := [some (eR a0), some (eI (a1)), some (eI (2))]) (s2 := [eI (v90), eR v20]) rfl (b_iadd (by rw [← e91]; exact ev_w_in (by omega) (by omega))) rfl ?_
              refine j_al (np := 10) rfl rfl I70 b22 (by decide) (n := 2670) rfl rfl (lo := 0) (hi := 2669) (fun _ => rfl) (by omega) (by omega) ?_
              intro v93 e94 b95
              refine b_ri rfl rfl ?_
              show ex_q (dt_fg L ρ) rc (d + 2, (242, 120, [some (eR a0), some (eI (a1)), some (eI (a2))], [eI (v93), eI (v84), eI (a2), eR a0]), f :: F, m69)
              refine w_cw (np := 123) (as := [eI (a2), eI (v84), eI (v93)]) (l2 := [some (eR a0), some (eI (a2)), some (eI (v84)), some (eI (v93))]) (rest := []) rfl rfl rfl (Nat.ble_eq.mp rfl) rfl rfl rfl (I70.kd gA0 (by decide) (n := 69) rfl) rfl ?_
              refine s_241 (a1 := a2) (a2 := v84) (a3 := v93) I70 gA0 (by omega) (by omega) (by omega) ?_
              intro v96 b97
              show ex_q (dt_fg L ρ) rc (d + 2, (242, 123, [some (eR a0), some (eI (a1)), some (eI (a2))], [eI (v96)]), f :: F, m69)
              refine b_ieq (t1 := 133) (t2 := 126) rfl rfl rfl (ev_w_in (by omega) (by omega)) (fun g98 => ?_) (fun g98 => ?_)
              · have b99 : 0 ≤ v96 ∧ v96 ≤ 0 := by omega
                exact v_rv rfl rfl (K m69 I70 F72)
              · have b99 : 1 ≤ v96 ∧ v96 ≤ 1 := by omega
                refine w_t (np := 127) (l2 := [some (eR a0), some (eI (a1)), some (eI (a2))]) (s2 := [eR a0]) rfl (s_an rfl (pos_g I70 gA0 (by decide))) rfl ?_
                refine w_gf (np := 130) (v := eR v73) rfl rfl (I70.kd gA0 (by decide) (n := 69) rfl) (by rw [e74]; rfl) ?_
                refine w_t (np := 131) (l2 := [some (eR a0), some (eI (a1)), some (eI (a2))]) (s2 := [eI (a1), eR v73]) rfl rfl rfl ?_
                refine w_t (np := 132) (l2 := [some (eR a0), some (eI (a1)), some (eI (a2))]) (s2 := [eI (a2), eI (a1), eR v73]) rfl rfl rfl ?_
                refine j_as (np := 133) rfl rfl I70 b75 (by decide) (n := 890) rfl rfl (lo := -1) (hi := 889) (fun _ => rfl) (by omega) (by omega) (by omega) ?_
                intro m99 I100 W101
                have F102 : Fr l_242 0 0 g μ m99 := F72.v W101 b75 rfl rfl
                exact v_rv rfl rfl (K m99 I100 F102)
      · refine w_t (np := 40) (l2 := [some (eR a0), some (eI (a1)), some (eI (a2))]) (s2 := [eR a0]) rfl (s_an rfl (pos_g hI gA0 (by decide))) rfl ?_
        refine w_t (np := 41) (l2 := [some (eR a0), some (eI (a1)), some (eI (a2))]) (s2 := [eI (a1), eR a0]) rfl rfl rfl ?_
        refine w_t (np := 42) (l2 := [some (eR a0), some (eI (a1)), some (eI (a2))]) (s2 := [eI (2), eI (a1), eR a0]) rfl rfl rfl ?_
        refine w_cw (np := 45) (as := [eI (a1), eI (2)]) (l2 := [some (eR a0), some (eI (a1)), some (eI (2))]) (rest := []) rfl rfl rfl (Nat.ble_eq.mp rfl) rfl rfl rfl (hI.kd gA0 (by decide) (n := 69) rfl) rfl ?_
        refine w_t (np := 1) (l2 := [some (eR a0), some (eI (a1)), some (eI (2))]) (s2 := [eR a0]) rfl (s_an rfl (pos_g hI gA0 (by decide))) rfl ?_
        refine w_gf (np := 4) (v := eR v20) rfl rfl (hI.kd gA0 (by decide) (n := 69) rfl) (by rw [e21]; rfl) ?_
        refine w_t (np := 5) (l2 := [some (eR a0), some (eI (a1)), some (eI (2))]) (s2 := [eI (3), eR v20]) rfl rfl rfl ?_
        refine w_t (np := 6) (l2 := [some (eR a0), some (eI (a1)), some (eI (2))]) (s2 := [eI (a1), eI (3), eR v20]) rfl rfl rfl ?_
        obtain ⟨v43, e44⟩ : ∃ zz : Int, zz = (3) * (a1) := ⟨_, rfl⟩
        have b45 : 0 ≤ v43 ∧ v43 ≤ 2667 := by omega
        refine w_t (np := 7) (l2 := [some (eR a0), some (eI (a1)), some (eI (2))]) (s2 := [eI (v43), eR v20]) rfl (b_imul (by rw [← e44]; exact ev_w_in (by omega) (by omega))) rfl ?_
        refine w_t (np := 8) (l2 := [some (eR a0), some (eI (a1)), some (eI (2))]) (s2 := [eI (2), eI (v43), eR v20]) rfl rfl rfl ?_
        obtain ⟨v46, e47⟩ : ∃ zz : Int, zz = (v43) + (2) := ⟨_, rfl⟩
        have b48 : 2 ≤ v46 ∧ v46 ≤ 2669 := by omega
        refine w_t (np := 9) (l2 := [some (eR a0), some (eI (a1)), some (eI (2))]) (s2 := [eI (v46), eR v20]) rfl (b_iadd (by rw [← e47]; exact ev_w_in (by omega) (by omega))) rfl ?_
        refine j_al (np := 10) rfl rfl hI b22 (by decide) (n := 2670) rfl rfl (lo := 0) (hi := 2669) (fun _ => rfl) (by omega) (by omega) ?_
        intro v49 e50 b51
        refine b_ri rfl rfl ?_
        show ex_q (dt_fg L ρ) rc (d + 2, (242, 45, [some (eR a0), some (eI (a1)), some (eI (a2))], [eI (v49)]), f :: F, μ)
        refine w_t (np := 46) (l2 := [some (eR a0), some (eI (a1)), some (eI (a2))]) (s2 := [eR a0, eI (v49)]) rfl (s_an rfl (pos_g hI gA0 (by decide))) rfl ?_
        refine w_t (np := 47) (l2 := [some (eR a0), some (eI (a1)), some (eI (a2))]) (s2 := [eI (a2), eR a0, eI (v49)]) rfl rfl rfl ?_
        refine w_t (np := 48) (l2 := [some (eR a0), some (eI (a1)), some (eI (a2))]) (s2 := [eI (2), eI (a2), eR a0, eI (v49)]) rfl rfl rfl ?_
        refine w_cw (np := 51) (as := [eI (a2), eI (2)]) (l2 := [some (eR a0), some (eI (a2)), some (eI (2))]) (rest := [eI (v49)]) rfl rfl rfl (Nat.ble_eq.mp rfl) rfl rfl rfl (hI.kd gA0 (by decide) (n := 69) rfl) rfl ?_
        refine w_t (np := 1) (l2 := [some (eR a0), some (eI (a2)), some (eI (2))]) (s2 := [eR a0]) rfl (s_an rfl (pos_g hI gA0 (by decide))) rfl ?_
        refine w_gf (np := 4) (v := eR v20) rfl rfl (hI.kd gA0 (by decide) (n := 69) rfl) (by rw [e21]; rfl) ?_
        refine w_t (np := 5) (l2 := [some (eR a0), some (eI (a2)), some (eI (2))]) (s2 := [eI (3), eR v20]) rfl rfl rfl ?_
        refine w_t (np := 6) (l2 := [some (eR a0), some (eI (a2)), some (eI (2))]) (s2 := [eI (a2), eI (3), eR v20]) rfl rfl rfl ?_
        obtain ⟨v52, e53⟩ : ∃ zz : Int, zz = (3) * (a2) := ⟨_, rfl⟩
        have b54 : 0 ≤ v52 ∧ v52 ≤ 2667 := by omega
        refine w_t (np := 7) (l2 := [some (eR a0), some (eI (a2)), some (eI (2))]) (s2 := [eI (v52), eR v20]) rfl (b_imul (by rw [← e53]; exact ev_w_in (by omega) (by omega))) rfl ?_
        refine w_t (np := 8) (l2 := [some (eR a0), some (eI (a2)), some (eI (2))]) (s2 := [eI (2), eI (v52), eR v20]) rfl rfl rfl ?_
        obtain ⟨v55, e56⟩ : ∃ zz : Int, zz = (v52) + (2) := ⟨_, rfl⟩
        have b57 : 2 ≤ v55 ∧ v55 ≤ 2669 := by omega
        refine w_t (np := 9) (l2 := [some (eR a0), some (eI (a2)), some (eI (2))]) (s2 := [eI (v55), eR v20]) rfl (b_iadd (by rw [← e56]; exact ev_w_in (by omega) (by omega))) rfl ?_
        refine j_al (np := 10) rfl rfl hI b22 (by decide) (n := 2670) rfl rfl (lo := 0) (hi := 2669) (fun _ => rfl) (by omega) (by omega) ?_
        intro v58 e59 b60
        refine b_ri rfl rfl ?_
        show ex_q (dt_fg L ρ) rc (d + 2, (242, 51, [some (eR a0), some (eI (a1)), some (eI (a2))], [eI (v58), eI (v49)]), f :: F, μ)
        refine b_cne (t1 := 61) (t2 := 54) rfl rfl rfl (ev_w_in (by omega) (by omega)) (ev_w_in (by omega) (by omega)) (fun g61 => ?_) (fun g61 => ?_)
        · refine w_t (np := 62) (l2 := [some (eR a0), some (eI (a1)), some (eI (a2))]) (s2 := [eR a0]) rfl (s_an rfl (pos_g hI gA0 (by decide))) rfl ?_
          refine j_gr (np := 65) rfl rfl hI gA0 (by decide) (n := 69) rfl rfl rfl ?_
          intro v62 e63 b64 z65
          have b64 : g v62 = 68 := Nat.eq_of_beq_eq_true b64
          refine w_t (np := 66) (l2 := [some (eR a0), some (eI (a1)), some (eI (a2))]) (s2 := [eI (a1), eR v62]) rfl rfl rfl ?_
          refine j_al (np := 67) rfl rfl hI b64 (by decide) (n := 890) rfl rfl (lo := -1) (hi := 889) (fun _ => rfl) (by omega) (by omega) ?_
          intro v66 e67 b68
          refine b_ige (t1 := 97) (t2 := 70) rfl rfl rfl (ev_w_in (by omega) (by omega)) (fun g69 => ?_) (fun g69 => ?_)
          · have b70 : 0 ≤ v66 ∧ v66 ≤ 889 := by omega
            refine w_t (np := 98) (l2 := [some (eR a0), some (eI (a1)), some (eI (a2))]) (s2 := [eR a0]) rfl (s_an rfl (pos_g hI gA0 (by decide))) rfl ?_
            refine j_gr (np := 101) rfl rfl hI gA0 (by decide) (n := 69) rfl rfl rfl ?_
            intro v70 e71 b72 z73
            have b72 : g v70 = 69 := Nat.eq_of_beq_eq_true b72
            refine w_t (np := 102) (l2 := [some (eR a0), some (eI (a1)), some (eI (a2))]) (s2 := [eI (a1), eR v70]) rfl rfl rfl ?_
            refine j_al (np := 103) rfl rfl hI b72 (by decide) (n := 890) rfl rfl (lo := -1) (hi := 889) (fun _ => rfl) (by omega) (by omega) ?_
            intro v74 e75 b76
            refine b_ige (t1 := 133) (t2 := 106) rfl rfl rfl (ev_w_in (by omega) (by omega)) (fun g77 => ?_) (fun g77 => ?_)
            · have b78 : 0 ≤ v74 ∧ v74 ≤ 889 := by omega
              exact v_rv rfl rfl (K μ hI F0)
            · have b78 : -1 ≤ v74 ∧ v74 ≤ -1 := by omega
              refine w_t (np := 107) (l2 := [some (eR a0), some (eI (a1)), some (eI (a2))]) (s2 := [eR a0]) rfl (s_an rfl (pos_g hI gA0 (by decide))) rfl ?_
              refine w_t (np := 108) (l2 := [some (eR a0), some (eI (a1)), some (eI (a2))]) (s2 := [eI (a2), eR a0]) rfl rfl rfl ?_
              refine w_t (np := 109) (l2 := [some (eR a0), some (eI (a1)), some (eI (a2))]) (s2 := [eR a0, eI (a2), eR a0]) rfl (s_an rfl (pos_g hI gA0 (by decide))) rfl ?_
              refine w_t (np := 110) (l2 := [some (eR a0), some (eI (a1)), some (eI (a2))]) (s2 := [eI (a1), eR a0, eI (a2), eR a0]) rfl rfl rfl ?_
              refine w_t (np := 111) (l2 := [some (eR a0), some (eI (a1)), some (eI (a2))]) (s2 := [eI (0), eI (a1), eR a0, eI (a2), eR a0]) rfl rfl rfl ?_
              refine w_cw (np := 114) (as := [eI (a1), eI (0)]) (l2 := [some (eR a0), some (eI (a1)), some (eI (0))]) (rest := [eI (a2), eR a0]) rfl rfl rfl (Nat.ble_eq.mp rfl) rfl rfl rfl (hI.kd gA0 (by decide) (n := 69) rfl) rfl ?_
              refine w_t (np := 1) (l2 := [some (eR a0), some (eI (a1)), some (eI (0))]) (s2 := [eR a0]) rfl (s_an rfl (pos_g hI gA0 (by decide))) rfl ?_
              refine w_gf (np := 4) (v := eR v20) rfl rfl (hI.kd gA0 (by decide) (n := 69) rfl) (by rw [e21]; rfl) ?_
              refine w_t (np := 5) (l2 := [some (eR a0), some (eI (a1)), some (eI (0))]) (s2 := [eI (3), eR v20]) rfl rfl rfl ?_
              refine w_t (np := 6) (l2 := [some (eR a0), some (eI (a1)), some (eI (0))]) (s2 := [eI (a1), eI (3), eR v20]) rfl rfl rfl ?_
              obtain ⟨v78, e79⟩ : ∃ zz : Int, zz = (3) * (a1) := ⟨_, rfl⟩
              have b80 : 0 ≤ v78 ∧ v78 ≤ 2667 := by omega
              refine w_t (np := 7) (l2 := [some (eR a0), some (eI (a1)), some (eI (0))]) (s2 := [eI (v78), eR v20]) rfl (b_imul (by rw [← e79]; exact ev_w_in (by omega) (by omega))) rfl ?_
              refine w_t (np := 8) (l2 := [some (eR a0), some (eI (a1)), some (eI (0))]) (s2 := [eI (0), eI (v78), eR v20]) rfl rfl rfl ?_
              refine w_t (np := 9) (l2 := [some (eR a0), some (eI (a1)), some (eI (0))]) (s2 := [eI (v78), eR v20]) rfl (b_iadd (by rw [Int.add_zero]; exact ev_w_in (by omega) (by omega))) rfl ?_
              refine j_al (np := 10) rfl rfl hI b22 (by decide) (n := 2670) rfl rfl (lo := 0) (hi := 2669) (fun _ => rfl) (by omega) (by omega) ?_
              intro v81 e82 b83
              refine b_ri rfl rfl ?_
              show ex_q (dt_fg L ρ) rc (d + 2, (242, 114, [some (eR a0), some (eI (a1)), some (eI (a2))], [eI (v81), eI (a2), eR a0]), f :: F, μ)
              refine w_t (np := 115) (l2 := [some (eR a0), some (eI (a1)), some (eI (a2))]) (s2 := [eR a0, eI (v81), eI (a2), eR a0]) rfl (s_an rfl (pos_g hI gA0 (by decide))) rfl ?_
              refine w_t (np := 116) (l2 := [some (eR a0), some (eI (a1)), some (eI (a2))]) (s2 := [eI (a1), eR a0, eI (v81), eI (a2), eR a0]) rfl rfl rfl ?_
              refine w_t (np := 117) (l2 := [some (eR a0), some (eI (a1)), some (eI (a2))]) (s2 := [eI (2), eI (a1), eR a0, eI (v81), eI (a2), eR a0]) rfl rfl rfl ?_
              refine w_cw (np := 120) (as := [eI (a1), eI (2)]) (l2 := [some (eR a0), some (eI (a1)), some (eI (2))]) (rest := [eI (v81), eI (a2), eR a0]) rfl rfl rfl (Nat.ble_eq.mp rfl) rfl rfl rfl (hI.kd gA0 (by decide) (n := 69) rfl) rfl ?_
              refine w_t (np := 1) (l2 := [some (eR a0), some (eI (a1)), some (eI (2))]) (s2 := [eR a0]) rfl (s_an rfl (pos_g hI gA0 (by decide))) rfl ?_
              refine w_gf (np := 4) (v := eR v20) rfl rfl (hI.kd gA0 (by decide) (n := 69) rfl) (by rw [e21]; rfl) ?_
              refine w_t (np := 5) (l2 := [some (eR a0), some (eI (a1)), some (eI (2))]) (s2 := [eI (3), eR v20]) rfl rfl rfl ?_
              refine w_t (np := 6) (l2 := [some (eR a0), some (eI (a1)), some (eI (2))]) (s2 := [eI (a1), eI (3), eR v20]) rfl rfl rfl ?_
              obtain ⟨v84, e85⟩ : ∃ zz : Int, zz = (3) * (a1) := ⟨_, rfl⟩
              have b86 : 0 ≤ v84 ∧ v84 ≤ 2667 := by omega
              refine w_t (np := 7) (l2 := [some (eR a0), some (eI (a1)), some (eI (2))]) (s2 := [eI (v84), eR v20]) rfl (b_imul (by rw [← e85]; exact ev_w_in (by omega) (by omega))) rfl ?_
              refine w_t (np := 8) (l2 := [some (eR a0), some (eI (a1)), some (eI (2))]) (s2 := [eI (2), eI (v84), eR v20]) rfl rfl rfl ?_
              obtain ⟨v87, e88⟩ : ∃ zz : Int, zz = (v84) + (2) := ⟨_, rfl⟩
              have b89 : 2 ≤ v87 ∧ v87 ≤ 2669 := by omega
              refine w_t (np := 9) (l2 := [some (eR a0), some (eI (a1)), some (eI (2))]) (s2 := [eI (v87), eR v20]) rfl (b_iadd (by rw [← e88]; exact ev_w_in (by omega) (by omega))) rfl ?_
              refine j_al (np := 10) rfl rfl hI b22 (by decide) (n := 2670) rfl rfl (lo := 0) (hi := 2669) (fun _ => rfl) (by omega) (by omega) ?_
              intro v90 e91 b92
              refine b_ri rfl rfl ?_
              show ex_q (dt_fg L ρ) rc (d + 2, (242, 120, [some (eR a0), some (eI (a1)), some (eI (a2))], [eI (v90), eI (v81), eI (a2), eR a0]), f :: F, μ)
              refine w_cw (np := 123) (as := [eI (a2), eI (v81), eI (v90)]) (l2 := [some (eR a0), some (eI (a2)), some (eI (v81)), some (eI (v90))]) (rest := []) rfl rfl rfl (Nat.ble_eq.mp rfl) rfl rfl rfl (hI.kd gA0 (by decide) (n := 69) rfl) rfl ?_
              refine s_241 (a1 := a2) (a2 := v81) (a3 := v90) hI gA0 (by omega) (by omega) (by omega) ?_
              intro v93 b94
              show ex_q (dt_fg L ρ) rc (d + 2, (242, 123, [some (eR a0), some (eI (a1)), some (eI (a2))], [eI (v93)]), f :: F, μ)
              refine b_ieq (t1 := 133) (t2 := 126) rfl rfl rfl (ev_w_in (by omega) (by omega)) (fun g95 => ?_) (fun g95 => ?_)
              · have b96 : 0 ≤ v93 ∧ v93 ≤ 0 := by omega
                exact v_rv rfl rfl (K μ hI F0)
              · have b96 : 1 ≤ v93 ∧ v93 ≤ 1 := by omega
                refine w_t (np := 127) (l2 := [some (eR a0), some (eI (a1)), some (eI (a2))]) (s2 := [eR a0]) rfl (s_an rfl (pos_g hI gA0 (by decide))) rfl ?_
                refine w_gf (np := 130) (v := eR v70) rfl rfl (hI.kd gA0 (by decide) (n := 69) rfl) (by rw [e71]; rfl) ?_
                refine w_t (np := 131) (l2 := [some (eR a0), some (eI (a1)), some (eI (a2))]) (s2 := [eI (a1), eR v70]) rfl rfl rfl ?_
                refine w_t (np := 132) (l2 := [some (eR a0), some (eI (a1)), some (eI (a2))]) (s2 := [eI (a2), eI (a1), eR v70]) rfl rfl rfl ?_
                refine j_as (np := 133) rfl rfl hI b72 (by decide) (n := 890) rfl rfl (lo := -1) (hi := 889) (fun _ => rfl) (by omega) (by omega) (by omega) ?_
                intro m96 I97 W98
                have F99 : Fr l_242 0 0 g μ m96 := F0.v W98 b72 rfl rfl
                exact v_rv rfl rfl (K m96 I97 F99)
          · have b70 : -1 ≤ v66 ∧ v66 ≤ -1 := by omega
            refine w_t (np := 71) (l2 := [some (eR a0), some (eI (a1)), some (eI (a2))]) (s2 := [eR a0]) rfl (s_an rfl (pos_g hI gA0 (by decide))) rfl ?_
            refine w_t (np := 72) (l2 := [some (eR a0), some (eI (a1)), some (eI (a2))]) (s2 := [eI (a2), eR a0]) rfl rfl rfl ?_
            refine w_t (np := 73) (l2 := [some (eR a0), some (eI (a1)), some (eI (a2))]) (s2 := [eR a0, eI (a2), eR a0]) rfl (s_an rfl (pos_g hI gA0 (by decide))) rfl ?_
            refine w_t (np := 74) (l2 := [some (eR a0), some (eI (a1)), some (eI (a2))]) (s2 := [eI (a1), eR a0, eI (a2), eR a0]) rfl rfl rfl ?_
            refine w_t (np := 75) (l2 := [some (eR a0), some (eI (a1)), some (eI (a2))]) (s2 := [eI (0), eI (a1), eR a0, eI (a2), eR a0]) rfl rfl rfl ?_
            refine w_cw (np := 78) (as := [eI (a1), eI (0)]) (l2 := [some (eR a0), some (eI (a1)), some (eI (0))]) (rest := [eI (a2), eR a0]) rfl rfl rfl (Nat.ble_eq.mp rfl) rfl rfl rfl (hI.kd gA0 (by decide) (n := 69) rfl) rfl ?_
            refine w_t (np := 1) (l2 := [some (eR a0), some (eI (a1)), some (eI (0))]) (s2 := [eR a0]) rfl (s_an rfl (pos_g hI gA0 (by decide))) rfl ?_
            refine w_gf (np := 4) (v := eR v20) rfl rfl (hI.kd gA0 (by decide) (n := 69) rfl) (by rw [e21]; rfl) ?_
            refine w_t (np := 5) (l2 := [some (eR a0), some (eI (a1)), some (eI (0))]) (s2 := [eI (3), eR v20]) rfl rfl rfl ?_
            refine w_t (np := 6) (l2 := [some (eR a0), some (eI (a1)), some (eI (0))]) (s2 := [eI (a1), eI (3), eR v20]) rfl rfl rfl ?_
            obtain ⟨v70, e71⟩ : ∃ zz : Int, zz = (3) * (a1) := ⟨_, rfl⟩
            have b72 : 0 ≤ v70 ∧ v70 ≤ 2667 := by omega
            refine w_t (np := 7) (l2 := [some (eR a0), some (eI (a1)), some (eI (0))]) (s2 := [eI (v70), eR v20]) rfl (b_imul (by rw [← e71]; exact ev_w_in (by omega) (by omega))) rfl ?_
            refine w_t (np := 8) (l2 := [some (eR a0), some (eI (a1)), some (eI (0))]) (s2 := [eI (0), eI (v70), eR v20]) rfl rfl rfl ?_
            refine w_t (np := 9) (l2 := [some (eR a0), some (eI (a1)), some (eI (0))]) (s2 := [eI (v70), eR v20]) rfl (b_iadd (by rw [Int.add_zero]; exact ev_w_in (by omega) (by omega))) rfl ?_
            refine j_al (np := 10) rfl rfl hI b22 (by decide) (n := 2670) rfl rfl (lo := 0) (hi := 2669) (fun _ => rfl) (by omega) (by omega) ?_
            intro v73 e74 b75
            refine b_ri rfl rfl ?_
            show ex_q (dt_fg L ρ) rc (d + 2, (242, 78, [some (eR a0), some (eI (a1)), some (eI (a2))], [eI (v73), eI (a2), eR a0]), f :: F, μ)
            refine w_t (np := 79) (l2 := [some (eR a0), some (eI (a1)), some (eI (a2))]) (s2 := [eR a0, eI (v73), eI (a2), eR a0]) rfl (s_an rfl (pos_g hI gA0 (by decide))) rfl ?_
            refine w_t (np := 80) (l2 := [some (eR a0), some (eI (a1)), some (eI (a2))]) (s2 := [eI (a1), eR a0, eI (v73), eI (a2), eR a0]) rfl rfl rfl ?_
            refine w_t (np := 81) (l2 := [some (eR a0), some (eI (a1)), some (eI (a2))]) (s2 := [eI (1), eI (a1), eR a0, eI (v73), eI (a2), eR a0]) rfl rfl rfl ?_
            refine w_cw (np := 84) (as := [eI (a1), eI (1)]) (l2 := [some (eR a0), some (eI (a1)), some (eI (1))]) (rest := [eI (v73), eI (a2), eR a0]) rfl rfl rfl (Nat.ble_eq.mp rfl) rfl rfl rfl (hI.kd gA0 (by decide) (n := 69) rfl) rfl ?_
            refine w_t (np := 1) (l2 := [some (eR a0), some (eI (a1)), some (eI (1))]) (s2 := [eR a0]) rfl (s_an rfl (pos_g hI gA0 (by decide))) rfl ?_
            refine w_gf (np := 4) (v := eR v20) rfl rfl (hI.kd gA0 (by decide) (n := 69) rfl) (by rw [e21]; rfl) ?_
            refine w_t (np := 5) (l2 := [some (eR a0), some (eI (a1)), some (eI (1))]) (s2 := [eI (3), eR v20]) rfl rfl rfl ?_
            refine w_t (np := 6) (l2 := [some (eR a0), some (eI (a1)), some (eI (1))]) (s2 := [eI (a1), eI (3), eR v20]) rfl rfl rfl ?_
            obtain ⟨v76, e77⟩ : ∃ zz : Int, zz = (3) * (a1) := ⟨_, rfl⟩
            have b78 : 0 ≤ v76 ∧ v76 ≤ 2667 := by omega
            refine w_t (np := 7) (l2 := [some (eR a0), some (eI (a1)), some (eI (1))]) (s2 := [eI (v76), eR v20]) rfl (b_imul (by rw [← e77]; exact ev_w_in (by omega) (by omega))) rfl ?_
            refine w_t (np := 8) (l2 := [some (eR a0), some (eI (a1)), some (eI (1))]) (s2 := [eI (1), eI (v76), eR v20]) rfl rfl rfl ?_
            obtain ⟨v79, e80⟩ : ∃ zz : Int, zz = (v76) + (1) := ⟨_, rfl⟩
            have b81 : 1 ≤ v79 ∧ v79 ≤ 2668 := by omega
            refine w_t (np := 9) (l2 := [some (eR a0), some (eI (a1)), some (eI (1))]) (s2 := [eI (v79), eR v20]) rfl (b_iadd (by rw [← e80]; exact ev_w_in (by omega) (by omega))) rfl ?_
            refine j_al (np := 10) rfl rfl hI b22 (by decide) (n := 2670) rfl rfl (lo := 0) (hi := 2669) (fun _ => rfl) (by omega) (by omega) ?_
            intro v82 e83 b84
            refine b_ri rfl rfl ?_
            show ex_q (dt_fg L ρ) rc (d + 2, (242, 84, [some (eR a0), some (eI (a1)), some (eI (a2))], [eI (v82), eI (v73), eI (a2), eR a0]), f :: F, μ)
            refine w_cw (np := 87) (as := [eI (a2), eI (v73), eI (v82)]) (l2 := [some (eR a0), some (eI (a2)), some (eI (v73)), some (eI (v82))]) (rest := []) rfl rfl rfl (Nat.ble_eq.mp rfl) rfl rfl rfl (hI.kd gA0 (by decide) (n := 69) rfl) rfl ?_
            refine s_241 (a1 := a2) (a2 := v73) (a3 := v82) hI gA0 (by omega) (by omega) (by omega) ?_
            intro v85 b86
            show ex_q (dt_fg L ρ) rc (d + 2, (242, 87, [some (eR a0), some (eI (a1)), some (eI (a2))], [eI (v85)]), f :: F, μ)
            refine b_ieq (t1 := 97) (t2 := 90) rfl rfl rfl (ev_w_in (by omega) (by omega)) (fun g87 => ?_) (fun g87 => ?_)
            · have b88 : 0 ≤ v85 ∧ v85 ≤ 0 := by omega
              refine w_t (np := 98) (l2 := [some (eR a0), some (eI (a1)), some (eI (a2))]) (s2 := [eR a0]) rfl (s_an rfl (pos_g hI gA0 (by decide))) rfl ?_
              refine j_gr (np := 101) rfl rfl hI gA0 (by decide) (n := 69) rfl rfl rfl ?_
              intro v88 e89 b90 z91
              have b90 : g v88 = 69 := Nat.eq_of_beq_eq_true b90
              refine w_t (np := 102) (l2 := [some (eR a0), some (eI (a1)), some (eI (a2))]) (s2 := [eI (a1), eR v88]) rfl rfl rfl ?_
              refine j_al (np := 103) rfl rfl hI b90 (by decide) (n := 890) rfl rfl (lo := -1) (hi := 889) (fun _ => rfl) (by omega) (by omega) ?_
              intro v92 e93 b94
              refine b_ige (t1 := 133) (t2 := 106) rfl rfl rfl (ev_w_in (by omega) (by omega)) (fun g95 => ?_) (fun g95 => ?_)
              · have b96 : 0 ≤ v92 ∧ v92 ≤ 889 := by omega
                exact v_rv rfl rfl (K μ hI F0)
              · have b96 : -1 ≤ v92 ∧ v92 ≤ -1 := by omega
                refine w_t (np := 107) (l2 := [some (eR a0), some (eI (a1)), some (eI (a2))]) (s2 := [eR a0]) rfl (s_an rfl (pos_g hI gA0 (by decide))) rfl ?_
                refine w_t (np := 108) (l2 := [some (eR a0), some (eI (a1)), some (eI (a2))]) (s2 := [eI (a2), eR a0]) rfl rfl rfl ?_
                refine w_t (np := 109) (l2 := [some (eR a0), some (eI (a1)), some (eI (a2))]) (s2 := [eR a0, eI (a2), eR a0]) rfl (s_an rfl (pos_g hI gA0 (by decide))) rfl ?_
                refine w_t (np := 110) (l2 := [some (eR a0), some (eI (a1)), some (eI (a2))]) (s2 := [eI (a1), eR a0, eI (a2), eR a0]) rfl rfl rfl ?_
                refine w_t (np := 111) (l2 := [some (eR a0), some (eI (a1)), some (eI (a2))]) (s2 := [eI (0), eI (a1), eR a0, eI (a2), eR a0]) rfl rfl rfl ?_
                refine w_cw (np := 114) (as := [eI (a1), eI (0)]) (l2 := [some (eR a0), some (eI (a1)), some (eI (0))]) (rest := [eI (a2), eR a0]) rfl rfl rfl (Nat.ble_eq.mp rfl) rfl rfl rfl (hI.kd gA0 (by decide) (n := 69) rfl) rfl ?_
                refine w_t (np := 1) (l2 := [some (eR a0), some (eI (a1)), some (eI (0))]) (s2 := [eR a0]) rfl (s_an rfl (pos_g hI gA0 (by decide))) rfl ?_
                refine w_gf (np := 4) (v := eR v20) rfl rfl (hI.kd gA0 (by decide) (n := 69) rfl) (by rw [e21]; rfl) ?_
                refine w_t (np := 5) (l2 := [some (eR a0), some (eI (a1)), some (eI (0))]) (s2 := [eI (3), eR v20]) rfl rfl rfl ?_
                refine w_t (np := 6) (l2 := [some (eR a0), some (eI (a1)), some (eI (0))]) (s2 := [eI (a1), eI (3), eR v20]) rfl rfl rfl ?_
                obtain ⟨v96, e97⟩ : ∃ zz : Int, zz = (3) * (a1) := ⟨_, rfl⟩
                have b98 : 0 ≤ v96 ∧ v96 ≤ 2667 := by omega
                refine w_t (np := 7) (l2 := [some (eR a0), some (eI (a1)), some (eI (0))]) (s2 := [eI (v96), eR v20]) rfl (b_imul (by rw [← e97]; exact ev_w_in (by omega) (by omega))) rfl ?_
                refine w_t (np := 8) (l2 := [some (eR a0), some (eI (a1)), some (eI (0))]) (s2 := [eI (0), eI (v96), eR v20]) rfl rfl rfl ?_
                refine w_t (np := 9) (l2 := [some (eR a0), some (eI (a1)), some (eI (0))]) (s2 := [eI (v96), eR v20]) rfl (b_iadd (by rw [Int.add_zero]; exact ev_w_in (by omega) (by omega))) rfl ?_
                refine j_al (np := 10) rfl rfl hI b22 (by decide) (n := 2670) rfl rfl (lo := 0) (hi := 2669) (fun _ => rfl) (by omega) (by omega) ?_
                intro v99 e100 b101
                refine b_ri rfl rfl ?_
                show ex_q (dt_fg L ρ) rc (d + 2, (242, 114, [some (eR a0), some (eI (a1)), some (eI (a2))], [eI (v99), eI (a2), eR a0]), f :: F, μ)
                refine w_t (np := 115) (l2 := [some (eR a0), some (eI (a1)), some (eI (a2))]) (s2 := [eR a0, eI (v99), eI (a2), eR a0]) rfl (s_an rfl (pos_g hI gA0 (by decide))) rfl ?_
                refine w_t (np := 116) (l2 := [some (eR a0), some (eI (a1)), some (eI (a2))]) (s2 := [eI (a1), eR a0, eI (v99), eI (a2), eR a0]) rfl rfl rfl ?_
                refine w_t (np := 117) (l2 := [some (eR a0), some (eI (a1)), some (eI (a2))]) (s2 := [eI (2), eI (a1), eR a0, eI (v99), eI (a2), eR a0]) rfl rfl rfl ?_
                refine w_cw (np := 120) (as := [eI (a1), eI (2)]) (l2 := [some (eR a0), some (eI (a1)), some (eI (2))]) (rest := [eI (v99), eI (a2), eR a0]) rfl rfl rfl (Nat.ble_eq.mp rfl) rfl rfl rfl (hI.kd gA0 (by decide) (n := 69) rfl) rfl ?_
                refine w_t (np := 1) (l2 := [some (eR a0), some (eI (a1)), some (eI (2))]) (s2 := [eR a0]) rfl (s_an rfl (pos_g hI gA0 (by decide))) rfl ?_
                refine w_gf (np := 4) (v := eR v20) rfl rfl (hI.kd gA0 (by decide) (n := 69) rfl) (by rw [e21]; rfl) ?_
                refine w_t (np := 5) (l2 := [some (eR a0), some (eI (a1)), some (eI (2))]) (s2 := [eI (3), eR v20]) rfl rfl rfl ?_
                refine w_t (np := 6) (l2 := [some (eR a0), some (eI (a1)), some (eI (2))]) (s2 := [eI (a1), eI (3), eR v20]) rfl rfl rfl ?_
                obtain ⟨v102, e103⟩ : ∃ zz : Int, zz = (3) * (a1) := ⟨_, rfl⟩
                have b104 : 0 ≤ v102 ∧ v102 ≤ 2667 := by omega
                refine w_t (np := 7) (l2 := [some (eR a0), some (eI (a1)), some (eI (2))]) (s2 := [eI (v102), eR v20]) rfl (b_imul (by rw [← e103]; exact ev_w_in (by omega) (by omega))) rfl ?_
                refine w_t (np := 8) (l2 := [some (eR a0), some (eI (a1)), some (eI (2))]) (s2 := [eI (2), eI (v102), eR v20]) rfl rfl rfl ?_
                obtain ⟨v105, e106⟩ : ∃ zz : Int, zz = (v102) + (2) := ⟨_, rfl⟩
                have b107 : 2 ≤ v105 ∧ v105 ≤ 2669 := by omega
                refine w_t (np := 9) (l2 := [some (eR a0), some (eI (a1)), some (eI (2))]) (s2 := [eI (v105), eR v20]) rfl (b_iadd (by rw [← e106]; exact ev_w_in (by omega) (by omega))) rfl ?_
                refine j_al (np := 10) rfl rfl hI b22 (by decide) (n := 2670) rfl rfl (lo := 0) (hi := 2669) (fun _ => rfl) (by omega) (by omega) ?_
                intro v108 e109 b110
                refine b_ri rfl rfl ?_
                show ex_q (dt_fg L ρ) rc (d + 2, (242, 120, [some (eR a0), some (eI (a1)), some (eI (a2))], [eI (v108), eI (v99), eI (a2), eR a0]), f :: F, μ)
                refine w_cw (np := 123) (as := [eI (a2), eI (v99), eI (v108)]) (l2 := [some (eR a0), some (eI (a2)), some (eI (v99)), some (eI (v108))]) (rest := []) rfl rfl rfl (Nat.ble_eq.mp rfl) rfl rfl rfl (hI.kd gA0 (by decide) (n := 69) rfl) rfl ?_
                refine s_241 (a1 := a2) (a2 := v99) (a3 := v108) hI gA0 (by omega) (by omega) (by omega) ?_
                intro v111 b112
                show ex_q (dt_fg L ρ) rc (d + 2, (242, 123, [some (eR a0), some (eI (a1)), some (eI (a2))], [eI (v111)]), f :: F, μ)
                refine b_ieq (t1 := 133) (t2 := 126) rfl rfl rfl (ev_w_in (by omega) (by omega)) (fun g113 => ?_) (fun g113 => ?_)
                · have b114 : 0 ≤ v111 ∧ v111 ≤ 0 := by omega
                  exact v_rv rfl rfl (K μ hI F0)
                · have b114 : 1 ≤ v111 ∧ v111 ≤ 1 := by omega
                  refine w_t (np := 127) (l2 := [some (eR a0), some (eI (a1)), some (eI (a2))]) (s2 := [eR a0]) rfl (s_an rfl (pos_g hI gA0 (by decide))) rfl ?_
                  refine w_gf (np := 130) (v := eR v88) rfl rfl (hI.kd gA0 (by decide) (n := 69) rfl) (by rw [e89]; rfl) ?_
                  refine w_t (np := 131) (l2 := [some (eR a0), some (eI (a1)), some (eI (a2))]) (s2 := [eI (a1), eR v88]) rfl rfl rfl ?_
                  refine w_t (np := 132) (l2 := [some (eR a0), some (eI (a1)), some (eI (a2))]) (s2 := [eI (a2), eI (a1), eR v88]) rfl rfl rfl ?_
                  refine j_as (np := 133) rfl rfl hI b90 (by decide) (n := 890) rfl rfl (lo := -1) (hi := 889) (fun _ => rfl) (by omega) (by omega) (by omega) ?_
                  intro m114 I115 W116
                  have F117 : Fr l_242 0 0 g μ m114 := F0.v W116 b90 rfl rfl
                  exact v_rv rfl rfl (K m114 I115 F117)
            · have b88 : 1 ≤ v85 ∧ v85 ≤ 1 := by omega
              refine w_t (np := 91) (l2 := [some (eR a0), some (eI (a1)), some (eI (a2))]) (s2 := [eR a0]) rfl (s_an rfl (pos_g hI gA0 (by decide))) rfl ?_
              refine w_gf (np := 94) (v := eR v62) rfl rfl (hI.kd gA0 (by decide) (n := 69) rfl) (by rw [e63]; rfl) ?_
              refine w_t (np := 95) (l2 := [some (eR a0), some (eI (a1)), some (eI (a2))]) (s2 := [eI (a1), eR v62]) rfl rfl rfl ?_
              refine w_t (np := 96) (l2 := [some (eR a0), some (eI (a1)), some (eI (a2))]) (s2 := [eI (a2), eI (a1), eR v62]) rfl rfl rfl ?_
              refine j_as (np := 97) rfl rfl hI b64 (by decide) (n := 890) rfl rfl (lo := -1) (hi := 889) (fun _ => rfl) (by omega) (by omega) (by omega) ?_
              intro m88 I89 W90
              have F91 : Fr l_242 0 0 g μ m88 := F0.v W90 b64 rfl rfl
              refine w_t (np := 98) (l2 := [some (eR a0), some (eI (a1)), some (eI (a2))]) (s2 := [eR a0]) rfl (s_an rfl (pos_g I89 gA0 (by decide))) rfl ?_
              refine j_gr (np := 101) rfl rfl I89 gA0 (by decide) (n := 69) rfl rfl rfl ?_
              intro v92 e93 b94 z95
              have b94 : g v92 = 69 := Nat.eq_of_beq_eq_true b94
              refine w_t (np := 102) (l2 := [some (eR a0), some (eI (a1)), some (eI (a2))]) (s2 := [eI (a1), eR v92]) rfl rfl rfl ?_
              refine j_al (np := 103) rfl rfl I89 b94 (by decide) (n := 890) rfl rfl (lo := -1) (hi := 889) (fun _ => rfl) (by omega) (by omega) ?_
              intro v96 e97 b98
              refine b_ige (t1 := 133) (t2 := 106) rfl rfl rfl (ev_w_in (by omega) (by omega)) (fun g99 => ?_) (fun g99 => ?_)
              · have b100 : 0 ≤ v96 ∧ v96 ≤ 889 := by omega
                exact v_rv rfl rfl (K m88 I89 F91)
              · have b100 : -1 ≤ v96 ∧ v96 ≤ -1 := by omega
                refine w_t (np := 107) (l2 := [some (eR a0), some (eI (a1)), some (eI (a2))]) (s2 := [eR a0]) rfl (s_an rfl (pos_g I89 gA0 (by decide))) rfl ?_
                refine w_t (np := 108) (l2 := [some (eR a0), some (eI (a1)), some (eI (a2))]) (s2 := [eI (a2), eR a0]) rfl rfl rfl ?_
                refine w_t (np := 109) (l2 := [some (eR a0), some (eI (a1)), some (eI (a2))]) (s2 := [eR a0, eI (a2), eR a0]) rfl (s_an rfl (pos_g I89 gA0 (by decide))) rfl ?_
                refine w_t (np := 110) (l2 := [some (eR a0), some (eI (a1)), some (eI (a2))]) (s2 := [eI (a1), eR a0, eI (a2), eR a0]) rfl rfl rfl ?_
                refine w_t (np := 111) (l2 := [some (eR a0), some (eI (a1)), some (eI (a2))]) (s2 := [eI (0), eI (a1), eR a0, eI (a2), eR a0]) rfl rfl rfl ?_
                refine w_cw (np := 114) (as := [eI (a1), eI (0)]) (l2 := [some (eR a0), some (eI (a1)), some (eI (0))]) (rest := [eI (a2), eR a0]) rfl rfl rfl (Nat.ble_eq.mp rfl) rfl rfl rfl (I89.kd gA0 (by decide) (n := 69) rfl) rfl ?_
                refine w_t (np := 1) (l2 := [some (eR a0), some (eI (a1)), some (eI (0))]) (s2 := [eR a0]) rfl (s_an rfl (pos_g I89 gA0 (by decide))) rfl ?_
                refine w_gf (np := 4) (v := eR v20) rfl rfl (I89.kd gA0 (by decide) (n := 69) rfl) (by rw [(W90.addr e21 b64 gA0 (by decide))]; rfl) ?_
                refine w_t (np := 5) (l2 := [some (eR a0), some (eI (a1)), some (eI (0))]) (s2 := [eI (3), eR v20]) rfl rfl rfl ?_
                refine w_t (np := 6) (l2 := [some (eR a0), some (eI (a1)), some (eI (0))]) (s2 := [eI (a1), eI (3), eR v20]) rfl rfl rfl ?_
                obtain ⟨v100, e101⟩ : ∃ zz : Int, zz = (3) * (a1) := ⟨_, rfl⟩
                have b102 : 0 ≤ v100 ∧ v100 ≤ 2667 := by omega
                refine w_t (np := 7) (l2 := [some (eR a0), some (eI (a1)), some (eI (0))]) (s2 := [eI (v100), eR v20]) rfl (b_imul (by rw [← e101]; exact ev_w_in (by omega) (by omega))) rfl ?_
                refine w_t (np := 8) (l2 := [some (eR a0), some (eI (a1)), some (eI (0))]) (s2 := [eI (0), eI (v100), eR v20]) rfl rfl rfl ?_
                refine w_t (np := 9) (l2 := [some (eR a0), some (eI (a1)), some (eI (0))]) (s2 := [eI (v100), eR v20]) rfl (b_iadd (by rw [Int.add_zero]; exact ev_w_in (by omega) (by omega))) rfl ?_
                refine j_al (np := 10) rfl rfl I89 b22 (by decide) (n := 2670) rfl rfl (lo := 0) (hi := 2669) (fun _ => rfl) (by omega) (by omega) ?_
                intro v103 e104 b105
                refine b_ri rfl rfl ?_
                show ex_q (dt_fg L ρ) rc (d + 2, (242, 114, [some (eR a0), some (eI (a1)), some (eI (a2))], [eI (v103), eI (a2), eR a0]), f :: F, m88)
                refine w_t (np := 115) (l2 := [some (eR a0), some (eI (a1)), some (eI (a2))]) (s2 := [eR a0, eI (v103), eI (a2), eR a0]) rfl (s_an rfl (pos_g I89 gA0 (by decide))) rfl ?_
                refine w_t (np := 116) (l2 := [some (eR a0), some (eI (a1)), some (eI (a2))]) (s2 := [eI (a1), eR a0, eI (v103), eI (a2), eR a0]) rfl rfl rfl ?_
                refine w_t (np := 117) (l2 := [some (eR a0), some (eI (a1)), some (eI (a2))]) (s2 := [eI (2), eI (a1), eR a0, eI (v103), eI (a2), eR a0]) rfl rfl rfl ?_
                refine w_cw (np := 120) (as := [eI (a1), eI (2)]) (l2 := [some (eR a0), some (eI (a1)), some (eI (2))]) (rest := [eI (v103), eI (a2), eR a0]) rfl rfl rfl (Nat.ble_eq.mp rfl) rfl rfl rfl (I89.kd gA0 (by decide) (n := 69) rfl) rfl ?_
                refine w_t (np := 1) (l2 := [some (eR a0), some (eI (a1)), some (eI (2))]) (s2 := [eR a0]) rfl (s_an rfl (pos_g I89 gA0 (by decide))) rfl ?_
                refine w_gf (np := 4) (v := eR v20) rfl rfl (I89.kd gA0 (by decide) (n := 69) rfl) (by rw [(W90.addr e21 b64 gA0 (by decide))]; rfl) ?_
                refine w_t (np := 5) (l2 := [some (eR a0), some (eI (a1)), some (eI (2))]) (s2 := [eI (3), eR v20]) rfl rfl rfl ?_
                refine w_t (np := 6) (l2 := [some (eR a0), some (eI (a1)), some (eI (2))]) (s2 := [eI (a1), eI (3), eR v20]) rfl rfl rfl ?_
                obtain ⟨v106, e107⟩ : ∃ zz : Int, zz = (3) * (a1) := ⟨_, rfl⟩
                have b108 : 0 ≤ v106 ∧ v106 ≤ 2667 := by omega
                refine w_t (np := 7) (l2 := [some (eR a0), some (eI (a1)), some (eI (2))]) (s2 := [eI (v106), eR v20]) rfl (b_imul (by rw [← e107]; exact ev_w_in (by omega) (by omega))) rfl ?_
                refine w_t (np := 8) (l2 := [some (eR a0), some (eI (a1)), some (eI (2))]) (s2 := [eI (2), eI (v106), eR v20]) rfl rfl rfl ?_
                obtain ⟨v109, e110⟩ : ∃ zz : Int, zz = (v106) + (2) := ⟨_, rfl⟩
                have b111 : 2 ≤ v109 ∧ v109 ≤ 2669 := by omega
                refine w_t (np := 9) (l2 := [some (eR a0), some (eI (a1)), some (eI (2))]) (s2 := [eI (v109), eR v20]) rfl (b_iadd (by rw [← e110]; exact ev_w_in (by omega) (by omega))) rfl ?_
                refine j_al (np := 10) rfl rfl I89 b22 (by decide) (n := 2670) rfl rfl (lo := 0) (hi := 2669) (fun _ => rfl) (by omega) (by omega) ?_
                intro v112 e113 b114
                refine b_ri rfl rfl ?_
                show ex_q (dt_fg L ρ) rc (d + 2, (242, 120, [some (eR a0), some (eI (a1)), some (eI (a2))], [eI (v112), eI (v103), eI (a2), eR a0]), f :: F, m88)
                refine w_cw (np := 123) (as := [eI (a2), eI (v103), eI (v112)]) (l2 := [some (eR a0), some (eI (a2)), some (eI (v103)), some (eI (v112))]) (rest := []) rfl rfl rfl (Nat.ble_eq.mp rfl) rfl rfl rfl (I89.kd gA0 (by decide) (n := 69) rfl) rfl ?_
                refine s_241 (a1 := a2) (a2 := v103) (a3 := v112) I89 gA0 (by omega) (by omega) (by omega) ?_
                intro v115 b116
                show ex_q (dt_fg L ρ) rc (d + 2, (242, 123, [some (eR a0), some (eI (a1)), some (eI (a2))], [eI (v115)]), f :: F, m88)
                refine b_ieq (t1 := 133) (t2 := 126) rfl rfl rfl (ev_w_in (by omega) (by omega)) (fun g117 => ?_) (fun g117 => ?_)
                · have b118 : 0 ≤ v115 ∧ v115 ≤ 0 := by omega
                  exact v_rv rfl rfl (K m88 I89 F91)
                · have b118 : 1 ≤ v115 ∧ v115 ≤ 1 := by omega
                  refine w_t (np := 127) (l2 := [some (eR a0), some (eI (a1)), some (eI (a2))]) (s2 := [eR a0]) rfl (s_an rfl (pos_g I89 gA0 (by decide))) rfl ?_
                  refine w_gf (np := 130) (v := eR v92) rfl rfl (I89.kd gA0 (by decide) (n := 69) rfl) (by rw [e93]; rfl) ?_
                  refine w_t (np := 131) (l2 := [some (eR a0), some (eI (a1)), some (eI (a2))]) (s2 := [eI (a1), eR v92]) rfl rfl rfl ?_
                  refine w_t (np := 132) (l2 := [some (eR a0), some (eI (a1)), some (eI (a2))]) (s2 := [eI (a2), eI (a1), eR v92]) rfl rfl rfl ?_
                  refine j_as (np := 133) rfl rfl I89 b94 (by decide) (n := 890) rfl rfl (lo := -1) (hi := 889) (fun _ => rfl) (by omega) (by omega) (by omega) ?_
                  intro m118 I119 W120
                  have F121 : Fr l_242 0 0 g μ m118 := F91.v W120 b94 rfl rfl
                  exact v_rv rfl rfl (K m118 I119 F121)
        · refine w_t (np := 55) (l2 := [some (eR a0), some (eI (a1)), some (eI (a2))]) (s2 := [eR a0]) rfl (s_an rfl (pos_g hI gA0 (by decide))) rfl ?_
          refine w_gf (np := 58) (v := eR v1) rfl rfl (hI.kd gA0 (by decide) (n := 69) rfl) (by rw [e2]; rfl) ?_
          refine w_t (np := 59) (l2 := [some (eR a0), some (eI (a1)), some (eI (a2))]) (s2 := [eI (a1), eR v1]) rfl rfl rfl ?_
          refine w_t (np := 60) (l2 := [some (eR a0), some (eI (a1)), some (eI (a2))]) (s2 := [eI (a2), eI (a1), eR v1]) rfl rfl rfl ?_
          refine j_as (np := 61) rfl rfl hI b3 (by decide) (n := 890) rfl rfl (lo := -1) (hi := 889) (fun _ => rfl) (by omega) (by omega) (by omega) ?_
          intro m62 I63 W64
          have F65 : Fr l_242 0 0 g μ m62 := F0.v W64 b3 rfl rfl
          refine w_t (np := 62) (l2 := [some (eR a0), some (eI (a1)), some (eI (a2))]) (s2 := [eR a0]) rfl (s_an rfl (pos_g I63 gA0 (by decide))) rfl ?_
          refine j_gr (np := 65) rfl rfl I63 gA0 (by decide) (n := 69) rfl rfl rfl ?_
          intro v66 e67 b68 z69
          have b68 : g v66 = 68 := Nat.eq_of_beq_eq_true b68
          refine w_t (np := 66) (l2 := [some (eR a0), some (eI (a1)), some (eI (a2))]) (s2 := [eI (a1), eR v66]) rfl rfl rfl ?_
          refine j_al (np := 67) rfl rfl I63 b68 (by decide) (n := 890) rfl rfl (lo := -1) (hi := 889) (fun _ => rfl) (by omega) (by omega) ?_
          intro v70 e71 b72
          refine b_ige (t1 := 97) (t2 := 70) rfl rfl rfl (ev_w_in (by omega) (by omega)) (fun g73 => ?_) (fun g73 => ?_)
          · have b74 : 0 ≤ v70 ∧ v70 ≤ 889 := by omega
            refine w_t (np := 98) (l2 := [some (eR a0), some (eI (a1)), some (eI (a2))]) (s2 := [eR a0]) rfl (s_an rfl (pos_g I63 gA0 (by decide))) rfl ?_
            refine j_gr (np := 101) rfl rfl I63 gA0 (by decide) (n := 69) rfl rfl rfl ?_
            intro v74 e75 b76 z77
            have b76 : g v74 = 69 := Nat.eq_of_beq_eq_true b76
            refine w_t (np := 102) (l2 := [some (eR a0), some (eI (a1)), some (eI (a2))]) (s2 := [eI (a1), eR v74]) rfl rfl rfl ?_
            refine j_al (np := 103) rfl rfl I63 b76 (by decide) (n := 890) rfl rfl (lo := -1) (hi := 889) (fun _ => rfl) (by omega) (by omega) ?_
            intro v78 e79 b80
            refine b_ige (t1 := 133) (t2 := 106) rfl rfl rfl (ev_w_in (by omega) (by omega)) (fun g81 => ?_) (fun g81 => ?_)
            · have b82 : 0 ≤ v78 ∧ v78 ≤ 889 := by omega
              exact v_rv rfl rfl (K m62 I63 F65)
            · have b82 : -1 ≤ v78 ∧ v78 ≤ -1 := by omega
              refine w_t (np := 107) (l2 := [some (eR a0), some (eI (a1)), some (eI (a2))]) (s2 := [eR a0]) rfl (s_an rfl (pos_g I63 gA0 (by decide))) rfl ?_
              refine w_t (np := 108) (l2 := [some (eR a0), some (eI (a1)), some (eI (a2))]) (s2 := [eI (a2), eR a0]) rfl rfl rfl ?_
              refine w_t (np := 109) (l2 := [some (eR a0), some (eI (a1)), some (eI (a2))]) (s2 := [eR a0, eI (a2), eR a0]) rfl (s_an rfl (pos_g I63 gA0 (by decide))) rfl ?_
              refine w_t (np := 110) (l2 := [some (eR a0), some (eI (a1)), some (eI (a2))]) (s2 := [eI (a1), eR a0, eI (a2), eR a0]) rfl rfl rfl ?_
              refine w_t (np := 111) (l2 := [some (eR a0), some (eI (a1)), some (eI (a2))]) (s2 := [eI (0), eI (a1), eR a0, eI (a2), eR a0]) rfl rfl rfl ?_
              refine w_cw (np := 114) (as := [eI (a1), eI (0)]) (l2 := [some (eR a0), some (eI (a1)), some (eI (0))]) (rest := [eI (a2), eR a0]) rfl rfl rfl (Nat.ble_eq.mp rfl) rfl rfl rfl (I63.kd gA0 (by decide) (n := 69) rfl) rfl ?_
              refine w_t (np := 1) (l2 := [some (eR a0), some (eI (a1)), some (eI (0))]) (s2 := [eR a0]) rfl (s_an rfl (pos_g I63 gA0 (by decide))) rfl ?_
              refine w_gf (np := 4) (v := eR v20) rfl rfl (I63.kd gA0 (by decide) (n := 69) rfl) (by rw [(W64.addr e21 b3 gA0 (by decide))]; rfl) ?_
              refine w_t (np := 5) (l2 := [some (eR a0), some (eI (a1)), some (eI (0))]) (s2 := [eI (3), eR v20]) rfl rfl rfl ?_
              refine w_t (np := 6) (l2 := [some (eR a0), some (eI (a1)), some (eI (0))]) (s2 := [eI (a1), eI (3), eR v20]) rfl rfl rfl ?_
              obtain ⟨v82, e83⟩ : ∃ zz : Int, zz = (3) * (a1) := ⟨_, rfl⟩
              have b84 : 0 ≤ v82 ∧ v82 ≤ 2667 := by omega
              refine w_t (np := 7) (l2 := [some (eR a0), some (eI (a1)), some (eI (0))]) (s2 := [eI (v82), eR v20]) rfl (b_imul (by rw [← e83]; exact ev_w_in (by omega) (by omega))) rfl ?_
              refine w_t (np := 8) (l2 := [some (eR a0), some (eI (a1)), some (eI (0))]) (s2 := [eI (0), eI (v82), eR v20]) rfl rfl rfl ?_
              refine w_t (np := 9) (l2 := [some (eR a0), some (eI (a1)), some (eI (0))]) (s2 := [eI (v82), eR v20]) rfl (b_iadd (by rw [Int.add_zero]; exact ev_w_in (by omega) (by omega))) rfl ?_
              refine j_al (np := 10) rfl rfl I63 b22 (by decide) (n := 2670) rfl rfl (lo := 0) (hi := 2669) (fun _ => rfl) (by omega) (by omega) ?_
              intro v85 e86 b87
              refine b_ri rfl rfl ?_
              show ex_q (dt_fg L ρ) rc (d + 2, (242, 114, [some (eR a0), some (eI (a1)), some (eI (a2))], [eI (v85), eI (a2), eR a0]), f :: F, m62)
              refine w_t (np := 115) (l2 := [some (eR a0), some (eI (a1)), some (eI (a2))]) (s2 := [eR a0, eI (v85), eI (a2), eR a0]) rfl (s_an rfl (pos_g I63 gA0 (by decide))) rfl ?_
              refine w_t (np := 116) (l2 := [some (eR a0), some (eI (a1)), some (eI (a2))]) (s2 := [eI (a1), eR a0, eI (v85), eI (a2), eR a0]) rfl rfl rfl ?_
              refine w_t (np := 117) (l2 := [some (eR a0), some (eI (a1)), some (eI (a2))]) (s2 := [eI (2), eI (a1), eR a0, eI (v85), eI (a2), eR a0]) rfl rfl rfl ?_
              refine w_cw (np := 120) (as := [eI (a1), eI (2)]) (l2 := [some (eR a0), some (eI (a1)), some (eI (2))]) (rest := [eI (v85), eI (a2), eR a0]) rfl rfl rfl (Nat.ble_eq.mp rfl) rfl rfl rfl (I63.kd gA0 (by decide) (n := 69) rfl) rfl ?_
              refine w_t (np := 1) (l2 := [some (eR a0), some (eI (a1)), some (eI (2))]) (s2 := [eR a0]) rfl (s_an rfl (pos_g I63 gA0 (by decide))) rfl ?_
              refine w_gf (np := 4) (v := eR v20) rfl rfl (I63.kd gA0 (by decide) (n := 69) rfl) (by rw [(W64.addr e21 b3 gA0 (by decide))]; rfl) ?_
              refine w_t (np := 5) (l2 := [some (eR a0), some (eI (a1)), some (eI (2))]) (s2 := [eI (3), eR v20]) rfl rfl rfl ?_
              refine w_t (np := 6) (l2 := [some (eR a0), some (eI (a1)), some (eI (2))]) (s2 := [eI (a1), eI (3), eR v20]) rfl rfl rfl ?_
              obtain ⟨v88, e89⟩ : ∃ zz : Int, zz = (3) * (a1) := ⟨_, rfl⟩
              have b90 : 0 ≤ v88 ∧ v88 ≤ 2667 := by omega
              refine w_t (np := 7) (l2 := [some (eR a0), some (eI (a1)), some (eI (2))]) (s2 := [eI (v88), eR v20]) rfl (b_imul (by rw [← e89]; exact ev_w_in (by omega) (by omega))) rfl ?_
              refine w_t (np := 8) (l2 := [some (eR a0), some (eI (a1)), some (eI (2))]) (s2 := [eI (2), eI (v88), eR v20]) rfl rfl rfl ?_
              obtain ⟨v91, e92⟩ : ∃ zz : Int, zz = (v88) + (2) := ⟨_, rfl⟩
              have b93 : 2 ≤ v91 ∧ v91 ≤ 2669 := by omega
              refine w_t (np := 9) (l2 := [some (eR a0), some (eI (a1)), some (eI (2))]) (s2 := [eI (v91), eR v20]) rfl (b_iadd (by rw [← e92]; exact ev_w_in (by omega) (by omega))) rfl ?_
              refine j_al (np := 10) rfl rfl I63 b22 (by decide) (n := 2670) rfl rfl (lo := 0) (hi := 2669) (fun _ => rfl) (by omega) (by omega) ?_
              intro v94 e95 b96
              refine b_ri rfl rfl ?_
              show ex_q (dt_fg L ρ) rc (d + 2, (242, 120, [some (eR a0), some (eI (a1)), some (eI (a2))], [eI (v94), eI (v85), eI (a2), eR a0]), f :: F, m62)
              refine w_cw (np := 123) (as := [eI (a2), eI (v85), eI (v94)]) (l2 := [some (eR a0), some (eI (a2)), some (eI (v85)), some (eI (v94))]) (rest := []) rfl rfl rfl (Nat.ble_eq.mp rfl) rfl rfl rfl (I63.kd gA0 (by decide) (n := 69) rfl) rfl ?_
              refine s_241 (a1 := a2) (a2 := v85) (a3 := v94) I63 gA0 (by omega) (by omega) (by omega) ?_
              intro v97 b98
              show ex_q (dt_fg L ρ) rc (d + 2, (242, 123, [some (eR a0), some (eI (a1)), some (eI (a2))], [eI (v97)]), f :: F, m62)
              refine b_ieq (t1 := 133) (t2 := 126) rfl rfl rfl (ev_w_in (by omega) (by omega)) (fun g99 => ?_) (fun g99 => ?_)
              · have b100 : 0 ≤ v97 ∧ v97 ≤ 0 := by omega
                exact v_rv rfl rfl (K m62 I63 F65)
              · have b100 : 1 ≤ v97 ∧ v97 ≤ 1 := by omega
                refine w_t (np := 127) (l2 := [some (eR a0), some (eI (a1)), some (eI (a2))]) (s2 := [eR a0]) rfl (s_an rfl (pos_g I63 gA0 (by decide))) rfl ?_
                refine w_gf (np := 130) (v := eR v74) rfl rfl (I63.kd gA0 (by decide) (n := 69) rfl) (by rw [e75]; rfl) ?_
                refine w_t (np := 131) (l2 := [some (eR a0), some (eI (a1)), some (eI (a2))]) (s2 := [eI (a1), eR v74]) rfl rfl rfl ?_
                refine w_t (np := 132) (l2 := [some (eR a0), some (eI (a1)), some (eI (a2))]) (s2 := [eI (a2), eI (a1), eR v74]) rfl rfl rfl ?_
                refine j_as (np := 133) rfl rfl I63 b76 (by decide) (n := 890) rfl rfl (lo := -1) (hi := 889) (fun _ => rfl) (by omega) (by omega) (by omega) ?_
                intro m100 I101 W102
                have F103 : Fr l_242 0 0 g μ m100 := F65.v W102 b76 rfl rfl
                exact v_rv rfl rfl (K m100 I101 F103)
          · have b74 : -1 ≤ v70 ∧ v70 ≤ -1 := by omega
            refine w_t (np := 71) (l2 := [some (eR a0), some (eI (a1)), some (eI (a2))]) (s2 := [eR a0]) rfl (s_an rfl (pos_g I63 gA0 (by decide))) rfl ?_
            refine w_t (np := 72) (l2 := [some (eR a0), some (eI (a1)), some (eI (a2))]) (s2 := [eI (a2), eR a0]) rfl rfl rfl ?_
            refine w_t (np := 73) (l2 := [some (eR a0), some (eI (a1)), some (eI (a2))]) (s2 := [eR a0, eI (a2), eR a0]) rfl (s_an rfl (pos_g I63 gA0 (by decide))) rfl ?_
            refine w_t (np := 74) (l2 := [some (eR a0), some (eI (a1)), some (eI (a2))]) (s2 := [eI (a1), eR a0, eI (a2), eR a0]) rfl rfl rfl ?_
            refine w_t (np := 75) (l2 := [some (eR a0), some (eI (a1)), some (eI (a2))]) (s2 := [eI (0), eI (a1), eR a0, eI (a2), eR a0]) rfl rfl rfl ?_
            refine w_cw (np := 78) (as := [eI (a1), eI (0)]) (l2 := [some (eR a0), some (eI (a1)), some (eI (0))]) (rest := [eI (a2), eR a0]) rfl rfl rfl (Nat.ble_eq.mp rfl) rfl rfl rfl (I63.kd gA0 (by decide) (n := 69) rfl) rfl ?_
            refine w_t (np := 1) (l2 := [some (eR a0), some (eI (a1)), some (eI (0))]) (s2 := [eR a0]) rfl (s_an rfl (pos_g I63 gA0 (by decide))) rfl ?_
            refine w_gf (np := 4) (v := eR v20) rfl rfl (I63.kd gA0 (by decide) (n := 69) rfl) (by rw [(W64.addr e21 b3 gA0 (by decide))]; rfl) ?_
            refine w_t (np := 5) (l2 := [some (eR a0), some (eI (a1)), some (eI (0))]) (s2 := [eI (3), eR v20]) rfl rfl rfl ?_
            refine w_t (np := 6) (l2 := [some (eR a0), some (eI (a1)), some (eI (0))]) (s2 := [eI (a1), eI (3), eR v20]) rfl rfl rfl ?_
            obtain ⟨v74, e75⟩ : ∃ zz : Int, zz = (3) * (a1) := ⟨_, rfl⟩
            have b76 : 0 ≤ v74 ∧ v74 ≤ 2667 := by omega
            refine w_t (np := 7) (l2 := [some (eR a0), some (eI (a1)), some (eI (0))]) (s2 := [eI (v74), eR v20]) rfl (b_imul (by rw [← e75]; exact ev_w_in (by omega) (by omega))) rfl ?_
            refine w_t (np := 8) (l2 := [some (eR a0), some (eI (a1)), some (eI (0))]) (s2 := [eI (0), eI (v74), eR v20]) rfl rfl rfl ?_
            refine w_t (np := 9) (l2 := [some (eR a0), some (eI (a1)), some (eI (0))]) (s2 := [eI (v74), eR v20]) rfl (b_iadd (by rw [Int.add_zero]; exact ev_w_in (by omega) (by omega))) rfl ?_
            refine j_al (np := 10) rfl rfl I63 b22 (by decide) (n := 2670) rfl rfl (lo := 0) (hi := 2669) (fun _ => rfl) (by omega) (by omega) ?_
            intro v77 e78 b79
            refine b_ri rfl rfl ?_
            show ex_q (dt_fg L ρ) rc (d + 2, (242, 78, [some (eR a0), some (eI (a1)), some (eI (a2))], [eI (v77), eI (a2), eR a0]), f :: F, m62)
            refine w_t (np := 79) (l2 := [some (eR a0), some (eI (a1)), some (eI (a2))]) (s2 := [eR a0, eI (v77), eI (a2), eR a0]) rfl (s_an rfl (pos_g I63 gA0 (by decide))) rfl ?_
            refine w_t (np := 80) (l2 := [some (eR a0), some (eI (a1)), some (eI (a2))]) (s2 := [eI (a1), eR a0, eI (v77), eI (a2), eR a0]) rfl rfl rfl ?_
            refine w_t (np := 81) (l2 := [some (eR a0), some (eI (a1)), some (eI (a2))]) (s2 := [eI (1), eI (a1), eR a0, eI (v77), eI (a2), eR a0]) rfl rfl rfl ?_
            refine w_cw (np := 84) (as := [eI (a1), eI (1)]) (l2 := [some (eR a0), some (eI (a1)), some (eI (1))]) (rest := [eI (v77), eI (a2), eR a0]) rfl rfl rfl (Nat.ble_eq.mp rfl) rfl rfl rfl (I63.kd gA0 (by decide) (n := 69) rfl) rfl ?_
            refine w_t (np := 1) (l2 := [some (eR a0), some (eI (a1)), some (eI (1))]) (s2 := [eR a0]) rfl (s_an rfl (pos_g I63 gA0 (by decide))) rfl ?_
            refine w_gf (np := 4) (v := eR v20) rfl rfl (I63.kd gA0 (by decide) (n := 69) rfl) (by rw [(W64.addr e21 b3 gA0 (by decide))]; rfl) ?_
            refine w_t (np := 5) (l2 := [some (eR a0), some (eI (a1)), some (eI (1))]) (s2 := [eI (3), eR v20]) rfl rfl rfl ?_
            refine w_t (np := 6) (l2 := [some (eR a0), some (eI (a1)), some (eI (1))]) (s2 := [eI (a1), eI (3), eR v20]) rfl rfl rfl ?_
            obtain ⟨v80, e81⟩ : ∃ zz : Int, zz = (3) * (a1) := ⟨_, rfl⟩
            have b82 : 0 ≤ v80 ∧ v80 ≤ 2667 := by omega
            refine w_t (np := 7) (l2 := [some (eR a0), some (eI (a1)), some (eI (1))]) (s2 := [eI (v80), eR v20]) rfl (b_imul (by rw [← e81]; exact ev_w_in (by omega) (by omega))) rfl ?_
            refine w_t (np := 8) (l2 := [some (eR a0), some (eI (a1)), some (eI (1))]) (s2 := [eI (1), eI (v80), eR v20]) rfl rfl rfl ?_
            obtain ⟨v83, e84⟩ : ∃ zz : Int, zz = (v80) + (1) := ⟨_, rfl⟩
            have b85 : 1 ≤ v83 ∧ v83 ≤ 2668 := by omega
            refine w_t (np := 9) (l2 := [some (eR a0), some (eI (a1)), some (eI (1))]) (s2 := [eI (v83), eR v20]) rfl (b_iadd (by rw [← e84]; exact ev_w_in (by omega) (by omega))) rfl ?_
            refine j_al (np := 10) rfl rfl I63 b22 (by decide) (n := 2670) rfl rfl (lo := 0) (hi := 2669) (fun _ => rfl) (by omega) (by omega) ?_
            intro v86 e87 b88
            refine b_ri rfl rfl ?_
            show ex_q (dt_fg L ρ) rc (d + 2, (242, 84, [some (eR a0), some (eI (a1)), some (eI (a2))], [eI (v86), eI (v77), eI (a2), eR a0]), f :: F, m62)
            refine w_cw (np := 87) (as := [eI (a2), eI (v77), eI (v86)]) (l2 := [some (eR a0), some (eI (a2)), some (eI (v77)), some (eI (v86))]) (rest := []) rfl rfl rfl (Nat.ble_eq.mp rfl) rfl rfl rfl (I63.kd gA0 (by decide) (n := 69) rfl) rfl ?_
            refine s_241 (a1 := a2) (a2 := v77) (a3 := v86) I63 gA0 (by omega) (by omega) (by omega) ?_
            intro v89 b90
            show ex_q (dt_fg L ρ) rc (d + 2, (242, 87, [some (eR a0), some (eI (a1)), some (eI (a2))], [eI (v89)]), f :: F, m62)
            refine b_ieq (t1 := 97) (t2 := 90) rfl rfl rfl (ev_w_in (by omega) (by omega)) (fun g91 => ?_) (fun g91 => ?_)
            · have b92 : 0 ≤ v89 ∧ v89 ≤ 0 := by omega
              refine w_t (np := 98) (l2 := [some (eR a0), some (eI (a1)), some (eI (a2))]) (s2 := [eR a0]) rfl (s_an rfl (pos_g I63 gA0 (by decide))) rfl ?_
              refine j_gr (np := 101) rfl rfl I63 gA0 (by decide) (n := 69) rfl rfl rfl ?_
              intro v92 e93 b94 z95
              have b94 : g v92 = 69 := Nat.eq_of_beq_eq_true b94
              refine w_t (np := 102) (l2 := [some (eR a0), some (eI (a1)), some (eI (a2))]) (s2 := [eI (a1), eR v92]) rfl rfl rfl ?_
              refine j_al (np := 103) rfl rfl I63 b94 (by decide) (n := 890) rfl rfl (lo := -1) (hi := 889) (fun _ => rfl) (by omega) (by omega) ?_
              intro v96 e97 b98
              refine b_ige (t1 := 133) (t2 := 106) rfl rfl rfl (ev_w_in (by omega) (by omega)) (fun g99 => ?_) (fun g99 => ?_)
              · have b100 : 0 ≤ v96 ∧ v96 ≤ 889 := by omega
                exact v_rv rfl rfl (K m62 I63 F65)
              · have b100 : -1 ≤ v96 ∧ v96 ≤ -1 := by omega
                refine w_t (np := 107) (l2 := [some (eR a0), some (eI (a1)), some (eI (a2))]) (s2 := [eR a0]) rfl (s_an rfl (pos_g I63 gA0 (by decide))) rfl ?_
                refine w_t (np := 108) (l2 := [some (eR a0), some (eI (a1)), some (eI (a2))]) (s2 := [eI (a2), eR a0]) rfl rfl rfl ?_
                refine w_t (np := 109) (l2 := [some (eR a0), some (eI (a1)), some (eI (a2))]) (s2 := [eR a0, eI (a2), eR a0]) rfl (s_an rfl (pos_g I63 gA0 (by decide))) rfl ?_
                refine w_t (np := 110) (l2 := [some (eR a0), some (eI (a1)), some (eI (a2))]) (s2 := [eI (a1), eR a0, eI (a2), eR a0]) rfl rfl rfl ?_
                refine w_t (np := 111) (l2 := [some (eR a0), some (eI (a1)), some (eI (a2))]) (s2 := [eI (0), eI (a1), eR a0, eI (a2), eR a0]) rfl rfl rfl ?_
                refine w_cw (np := 114) (as := [eI (a1), eI (0)]) (l2 := [some (eR a0), some (eI (a1)), some (eI (0))]) (rest := [eI (a2), eR a0]) rfl rfl rfl (Nat.ble_eq.mp rfl) rfl rfl rfl (I63.kd gA0 (by decide) (n := 69) rfl) rfl ?_
                refine w_t (np := 1) (l2 := [some (eR a0), some (eI (a1)), some (eI (0))]) (s2 := [eR a0]) rfl (s_an rfl (pos_g I63 gA0 (by decide))) rfl ?_
                refine w_gf (np := 4) (v := eR v20) rfl rfl (I63.kd gA0 (by decide) (n := 69) rfl) (by rw [(W64.addr e21 b3 gA0 (by decide))]; rfl) ?_
                refine w_t (np := 5) (l2 := [some (eR a0), some (eI (a1)), some (eI (0))]) (s2 := [eI (3), eR v20]) rfl rfl rfl ?_
                refine w_t (np := 6) (l2 := [some (eR a0), some (eI (a1)), some (eI (0))]) (s2 := [eI (a1), eI (3), eR v20]) rfl rfl rfl ?_
                obtain ⟨v100, e101⟩ : ∃ zz : Int, zz = (3) * (a1) := ⟨_, rfl⟩
                have b102 : 0 ≤ v100 ∧ v100 ≤ 2667 := by omega
                refine w_t (np := 7) (l2 := [some (eR a0), some (eI (a1)), some (eI (0))]) (s2 := [eI (v100), eR v20]) rfl (b_imul (by rw [← e101]; exact ev_w_in (by omega) (by omega))) rfl ?_
                refine w_t (np := 8) (l2 := [some (eR a0), some (eI (a1)), some (eI (0))]) (s2 := [eI (0), eI (v100), eR v20]) rfl rfl rfl ?_
                refine w_t (np := 9) (l2 := [some (eR a0), some (eI (a1)), some (eI (0))]) (s2 := [eI (v100), eR v20]) rfl (b_iadd (by rw [Int.add_zero]; exact ev_w_in (by omega) (by omega))) rfl ?_
                refine j_al (np := 10) rfl rfl I63 b22 (by decide) (n := 2670) rfl rfl (lo := 0) (hi := 2669) (fun _ => rfl) (by omega) (by omega) ?_
                intro v103 e104 b105
                refine b_ri rfl rfl ?_
                show ex_q (dt_fg L ρ) rc (d + 2, (242, 114, [some (eR a0), some (eI (a1)), some (eI (a2))], [eI (v103), eI (a2), eR a0]), f :: F, m62)
                refine w_t (np := 115) (l2 := [some (eR a0), some (eI (a1)), some (eI (a2))]) (s2 := [eR a0, eI (v103), eI (a2), eR a0]) rfl (s_an rfl (pos_g I63 gA0 (by decide))) rfl ?_
                refine w_t (np := 116) (l2 := [some (eR a0), some (eI (a1)), some (eI (a2))]) (s2 := [eI (a1), eR a0, eI (v103), eI (a2), eR a0]) rfl rfl rfl ?_
                refine w_t (np := 117) (l2 := [some (eR a0), some (eI (a1)), some (eI (a2))]) (s2 := [eI (2), eI (a1), eR a0, eI (v103), eI (a2), eR a0]) rfl rfl rfl ?_
                refine w_cw (np := 120) (as := [eI (a1), eI (2)]) (l2 := [some (eR a0), some (eI (a1)), some (eI (2))]) (rest := [eI (v103), eI (a2), eR a0]) rfl rfl rfl (Nat.ble_eq.mp rfl) rfl rfl rfl (I63.kd gA0 (by decide) (n := 69) rfl) rfl ?_
                refine w_t (np := 1) (l2 := [some (eR a0), some (eI (a1)), some (eI (2))]) (s2 := [eR a0]) rfl (s_an rfl (pos_g I63 gA0 (by decide))) rfl ?_
                refine w_gf (np := 4) (v := eR v20) rfl rfl (I63.kd gA0 (by decide) (n := 69) rfl) (by rw [(W64.addr e21 b3 gA0 (by decide))]; rfl) ?_
                refine w_t (np := 5) (l2 := [some (eR a0), some (eI (a1)), some (eI (2))]) (s2 := [eI (3), eR v20]) rfl rfl rfl ?_
                refine w_t (np := 6) (l2 := [some (eR a0), some (eI (a1)), some (eI (2))]) (s2 := [eI (a1), eI (3), eR v20]) rfl rfl rfl ?_
                obtain ⟨v106, e107⟩ : ∃ zz : Int, zz = (3) * (a1) := ⟨_, rfl⟩
                have b108 : 0 ≤ v106 ∧ v106 ≤ 2667 := by omega
                refine w_t (np := 7) (l2 := [some (eR a0), some (eI (a1)), some (eI (2))]) (s2 := [eI (v106), eR v20]) rfl (b_imul (by rw [← e107]; exact ev_w_in (by omega) (by omega))) rfl ?_
                refine w_t (np := 8) (l2 := [some (eR a0), some (eI (a1)), some (eI (2))]) (s2 := [eI (2), eI (v106), eR v20]) rfl rfl rfl ?_
                obtain ⟨v109, e110⟩ : ∃ zz : Int, zz = (v106) + (2) := ⟨_, rfl⟩
                have b111 : 2 ≤ v109 ∧ v109 ≤ 2669 := by omega
                refine w_t (np := 9) (l2 := [some (eR a0), some (eI (a1)), some (eI (2))]) (s2 := [eI (v109), eR v20]) rfl (b_iadd (by rw [← e110]; exact ev_w_in (by omega) (by omega))) rfl ?_
                refine j_al (np := 10) rfl rfl I63 b22 (by decide) (n := 2670) rfl rfl (lo := 0) (hi := 2669) (fun _ => rfl) (by omega) (by omega) ?_
                intro v112 e113 b114
                refine b_ri rfl rfl ?_
                show ex_q (dt_fg L ρ) rc (d + 2, (242, 120, [some (eR a0), some (eI (a1)), some (eI (a2))], [eI (v112), eI (v103), eI (a2), eR a0]), f :: F, m62)
                refine w_cw (np := 123) (as := [eI (a2), eI (v103), eI (v112)]) (l2 := [some (eR a0), some (eI (a2)), some (eI (v103)), some (eI (v112))]) (rest := []) rfl rfl rfl (Nat.ble_eq.mp rfl) rfl rfl rfl (I63.kd gA0 (by decide) (n := 69) rfl) rfl ?_
                refine s_241 (a1 := a2) (a2 := v103) (a3 := v112) I63 gA0 (by omega) (by omega) (by omega) ?_
                intro v115 b116
                show ex_q (dt_fg L ρ) rc (d + 2, (242, 123, [some (eR a0), some (eI (a1)), some (eI (a2))], [eI (v115)]), f :: F, m62)
                refine b_ieq (t1 := 133) (t2 := 126) rfl rfl rfl (ev_w_in (by omega) (by omega)) (fun g117 => ?_) (fun g117 => ?_)
                · have b118 : 0 ≤ v115 ∧ v115 ≤ 0 := by omega
                  exact v_rv rfl rfl (K m62 I63 F65)
                · have b118 : 1 ≤ v115 ∧ v115 ≤ 1 := by omega
                  refine w_t (np := 127) (l2 := [some (eR a0), some (eI (a1)), some (eI (a2))]) (s2 := [eR a0]) rfl (s_an rfl (pos_g I63 gA0 (by decide))) rfl ?_
                  refine w_gf (np := 130) (v := eR v92) rfl rfl (I63.kd gA0 (by decide) (n := 69) rfl) (by rw [e93]; rfl) ?_
                  refine w_t (np := 131) (l2 := [some (eR a0), some (eI (a1)), some (eI (a2))]) (s2 := [eI (a1), eR v92]) rfl rfl rfl ?_
                  refine w_t (np := 132) (l2 := [some (eR a0), some (eI (a1)), some (eI (a2))]) (s2 := [eI (a2), eI (a1), eR v92]) rfl rfl rfl ?_
                  refine j_as (np := 133) rfl rfl I63 b94 (by decide) (n := 890) rfl rfl (lo := -1) (hi := 889) (fun _ => rfl) (by omega) (by omega) (by omega) ?_
                  intro m118 I119 W120
                  have F121 : Fr l_242 0 0 g μ m118 := F65.v W120 b94 rfl rfl
                  exact v_rv rfl rfl (K m118 I119 F121)
            · have b92 : 1 ≤ v89 ∧ v89 ≤ 1 := by omega
              refine w_t (np := 91) (l2 := [some (eR a0), some (eI (a1)), some (eI (a2))]) (s2 := [eR a0]) rfl (s_an rfl (pos_g I63 gA0 (by decide))) rfl ?_
              refine w_gf (np := 94) (v := eR v66) rfl rfl (I63.kd gA0 (by decide) (n := 69) rfl) (by rw [e67]; rfl) ?_
              refine w_t (np := 95) (l2 := [some (eR a0), some (eI (a1)), some (eI (a2))]) (s2 := [eI (a1), eR v66]) rfl rfl rfl ?_
              refine w_t (np := 96) (l2 := [some (eR a0), some (eI (a1)), some (eI (a2))]) (s2 := [eI (a2), eI (a1), eR v66]) rfl rfl rfl ?_
              refine j_as (np := 97) rfl rfl I63 b68 (by decide) (n := 890) rfl rfl (lo := -1) (hi := 889) (fun _ => rfl) (by omega) (by omega) (by omega) ?_
              intro m92 I93 W94
              have F95 : Fr l_242 0 0 g μ m92 := F65.v W94 b68 rfl rfl
              refine w_t (np := 98) (l2 := [some (eR a0), some (eI (a1)), some (eI (a2))]) (s2 := [eR a0]) rfl (s_an rfl (pos_g I93 gA0 (by decide))) rfl ?_
              refine j_gr (np := 101) rfl rfl I93 gA0 (by decide) (n := 69) rfl rfl rfl ?_
              intro v96 e97 b98 z99
              have b98 : g v96 = 69 := Nat.eq_of_beq_eq_true b98
              refine w_t (np := 102) (l2 := [some (eR a0), some (eI (a1)), some (eI (a2))]) (s2 := [eI (a1), eR v96]) rfl rfl rfl ?_
              refine j_al (np := 103) rfl rfl I93 b98 (by decide) (n := 890) rfl rfl (lo := -1) (hi := 889) (fun _ => rfl) (by omega) (by omega) ?_
              intro v100 e101 b102
              refine b_ige (t1 := 133) (t2 := 106) rfl rfl rfl (ev_w_in (by omega) (by omega)) (fun g103 => ?_) (fun g103 => ?_)
              · have b104 : 0 ≤ v100 ∧ v100 ≤ 889 := by omega
                exact v_rv rfl rfl (K m92 I93 F95)
              · have b104 : -1 ≤ v100 ∧ v100 ≤ -1 := by omega
                refine w_t (np := 107) (l2 := [some (eR a0), some (eI (a1)), some (eI (a2))]) (s2 := [eR a0]) rfl (s_an rfl (pos_g I93 gA0 (by decide))) rfl ?_
                refine w_t (np := 108) (l2 := [some (eR a0), some (eI (a1)), some (eI (a2))]) (s2 := [eI (a2), eR a0]) rfl rfl rfl ?_
                refine w_t (np := 109) (l2 := [some (eR a0), some (eI (a1)), some (eI (a2))]) (s2 := [eR a0, eI (a2), eR a0]) rfl (s_an rfl (pos_g I93 gA0 (by decide))) rfl ?_
                refine w_t (np := 110) (l2 := [some (eR a0), some (eI (a1)), some (eI (a2))]) (s2 := [eI (a1), eR a0, eI (a2), eR a0]) rfl rfl rfl ?_
                refine w_t (np := 111) (l2 := [some (eR a0), some (eI (a1)), some (eI (a2))]) (s2 := [eI (0), eI (a1), eR a0, eI (a2), eR a0]) rfl rfl rfl ?_
                refine w_cw (np := 114) (as := [eI (a1), eI (0)]) (l2 := [some (eR a0), some (eI (a1)), some (eI (0))]) (rest := [eI (a2), eR a0]) rfl rfl rfl (Nat.ble_eq.mp rfl) rfl rfl rfl (I93.kd gA0 (by decide) (n := 69) rfl) rfl ?_
                refine w_t (np := 1) (l2 := [some (eR a0), some (eI (a1)), some (eI (0))]) (s2 := [eR a0]) rfl (s_an rfl (pos_g I93 gA0 (by decide))) rfl ?_
                refine w_gf (np := 4) (v := eR v20) rfl rfl (I93.kd gA0 (by decide) (n := 69) rfl) (by rw [(W94.addr (W64.addr e21 b3 gA0 (by decide)) b68 gA0 (by decide))]; rfl) ?_
                refine w_t (np := 5) (l2 := [some (eR a0), some (eI (a1)), some (eI (0))]) (s2 := [eI (3), eR v20]) rfl rfl rfl ?_
                refine w_t (np := 6) (l2 := [some (eR a0), some (eI (a1)), some (eI (0))]) (s2 := [eI (a1), eI (3), eR v20]) rfl rfl rfl ?_
                obtain ⟨v104, e105⟩ : ∃ zz : Int, zz = (3) * (a1) := ⟨_, rfl⟩
                have b106 : 0 ≤ v104 ∧ v104 ≤ 2667 := by omega
                refine w_t (np := 7) (l2 := [some (eR a0), some (eI (a1)), some (eI (0))]) (s2 := [eI (v104), eR v20]) rfl (b_imul (by rw [← e105]; exact ev_w_in (by omega) (by omega))) rfl ?_
                refine w_t (np := 8) (l2 := [some (eR a0), some (eI (a1)), some (eI (0))]) (s2 := [eI (0), eI (v104), eR v20]) rfl rfl rfl ?_
                refine w_t (np := 9) (l2 := [some (eR a0), some (eI (a1)), some (eI (0))]) (s2 := [eI (v104), eR v20]) rfl (b_iadd (by rw [Int.add_zero]; exact ev_w_in (by omega) (by omega))) rfl ?_
                refine j_al (np := 10) rfl rfl I93 b22 (by decide) (n := 2670) rfl rfl (lo := 0) (hi := 2669) (fun _ => rfl) (by omega) (by omega) ?_
                intro v107 e108 b109
                refine b_ri rfl rfl ?_
                show ex_q (dt_fg L ρ) rc (d + 2, (242, 114, [some (eR a0), some (eI (a1)), some (eI (a2))], [eI (v107), eI (a2), eR a0]), f :: F, m92)
                refine w_t (np := 115) (l2 := [some (eR a0), some (eI (a1)), some (eI (a2))]) (s2 := [eR a0, eI (v107), eI (a2), eR a0]) rfl (s_an rfl (pos_g I93 gA0 (by decide))) rfl ?_
                refine w_t (np := 116) (l2 := [some (eR a0), some (eI (a1)), some (eI (a2))]) (s2 := [eI (a1), eR a0, eI (v107), eI (a2), eR a0]) rfl rfl rfl ?_
                refine w_t (np := 117) (l2 := [some (eR a0), some (eI (a1)), some (eI (a2))]) (s2 := [eI (2), eI (a1), eR a0, eI (v107), eI (a2), eR a0]) rfl rfl rfl ?_
                refine w_cw (np := 120) (as := [eI (a1), eI (2)]) (l2 := [some (eR a0), some (eI (a1)), some (eI (2))]) (rest := [eI (v107), eI (a2), eR a0]) rfl rfl rfl (Nat.ble_eq.mp rfl) rfl rfl rfl (I93.kd gA0 (by decide) (n := 69) rfl) rfl ?_
                refine w_t (np := 1) (l2 := [some (eR a0), some (eI (a1)), some (eI (2))]) (s2 := [eR a0]) rfl (s_an rfl (pos_g I93 gA0 (by decide))) rfl ?_
                refine w_gf (np := 4) (v := eR v20) rfl rfl (I93.kd gA0 (by decide) (n := 69) rfl) (by rw [(W94.addr (W64.addr e21 b3 gA0 (by decide)) b68 gA0 (by decide))]; rfl) ?_
                refine w_t (np := 5) (l2 := [some (eR a0), some (eI (a1)), some (eI (2))]) (s2 := [eI (3), eR v20]) rfl rfl rfl ?_
                refine w_t (np := 6) (l2 := [some (eR a0), some (eI (a1)), some (eI (2))]) (s2 := [eI (a1), eI (3), eR v20]) rfl rfl rfl ?_
                obtain ⟨v110, e111⟩ : ∃ zz : Int, zz = (3) * (a1) := ⟨_, rfl⟩
                have b112 : 0 ≤ v110 ∧ v110 ≤ 2667 := by omega
                refine w_t (np := 7) (l2 := [some (eR a0), some (eI (a1)), some (eI (2))]) (s2 := [eI (v110), eR v20]) rfl (b_imul (by rw [← e111]; exact ev_w_in (by omega) (by omega))) rfl ?_
                refine w_t (np := 8) (l2 := [some (eR a0), some (eI (a1)), some (eI (2))]) (s2 := [eI (2), eI (v110), eR v20]) rfl rfl rfl ?_
                obtain ⟨v113, e114⟩ : ∃ zz : Int, zz = (v110) + (2) := ⟨_, rfl⟩
                have b115 : 2 ≤ v113 ∧ v113 ≤ 2669 := by omega
                refine w_t (np := 9) (l2 := [some (eR a0), some (eI (a1)), some (eI (2))]) (s2 := [eI (v113), eR v20]) rfl (b_iadd (by rw [← e114]; exact ev_w_in (by omega) (by omega))) rfl ?_
                refine j_al (np := 10) rfl rfl I93 b22 (by decide) (n := 2670) rfl rfl (lo := 0) (hi := 2669) (fun _ => rfl) (by omega) (by omega) ?_
                intro v116 e117 b118
                refine b_ri rfl rfl ?_
                show ex_q (dt_fg L ρ) rc (d + 2, (242, 120, [some (eR a0), some (eI (a1)), some (eI (a2))], [eI (v116), eI (v107), eI (a2), eR a0]), f :: F, m92)
                refine w_cw (np := 123) (as := [eI (a2), eI (v107), eI (v116)]) (l2 := [some (eR a0), some (eI (a2)), some (eI (v107)), some (eI (v116))]) (rest := []) rfl rfl rfl (Nat.ble_eq.mp rfl) rfl rfl rfl (I93.kd gA0 (by decide) (n := 69) rfl) rfl ?_
                refine s_241 (a1 := a2) (a2 := v107) (a3 := v116) I93 gA0 (by omega) (by omega) (by omega) ?_
                intro v119 b120
                show ex_q (dt_fg L ρ) rc (d + 2, (242, 123, [some (eR a0), some (eI (a1)), some (eI (a2))], [eI (v119)]), f :: F, m92)
                refine b_ieq (t1 := 133) (t2 := 126) rfl rfl rfl (ev_w_in (by omega) (by omega)) (fun g121 => ?_) (fun g121 => ?_)
                · have b122 : 0 ≤ v119 ∧ v119 ≤ 0 := by omega
                  exact v_rv rfl rfl (K m92 I93 F95)
                · have b122 : 1 ≤ v119 ∧ v119 ≤ 1 := by omega
                  refine w_t (np := 127) (l2 := [some (eR a0), some (eI (a1)), some (eI (a2))]) (s2 := [eR a0]) rfl (s_an rfl (pos_g I93 gA0 (by decide))) rfl ?_
                  refine w_gf (np := 130) (v := eR v96) rfl rfl (I93.kd gA0 (by decide) (n := 69) rfl) (by rw [e97]; rfl) ?_
                  refine w_t (np := 131) (l2 := [some (eR a0), some (eI (a1)), some (eI (a2))]) (s2 := [eI (a1), eR v96]) rfl rfl rfl ?_
                  refine w_t (np := 132) (l2 := [some (eR a0), some (eI (a1)), some (eI (a2))]) (s2 := [eI (a2), eI (a1), eR v96]) rfl rfl rfl ?_
                  refine j_as (np := 133) rfl rfl I93 b98 (by decide) (n := 890) rfl rfl (lo := -1) (hi := 889) (fun _ => rfl) (by omega) (by omega) (by omega) ?_
                  intro m122 I123 W124
                  have F125 : Fr l_242 0 0 g μ m122 := F95.v W124 b98 rfl rfl
                  exact v_rv rfl rfl (K m122 I123 F125)
