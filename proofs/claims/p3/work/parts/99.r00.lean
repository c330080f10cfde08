/-! methods, walked -/
def l_213 : List Nat := [13314]
theorem s_213 {L : Nat} {ρ : Nat → Int} {rc : eQ} {d : Nat} {f : eFr} {F : List eFr} {μ : eM} {g : Nat → Nat} {a0 : Nat} (hI : SI g μ) (gA0 : g a0 = 52) (K : ∀ (μ2 : eM) (v : Int), SI g μ2 → Fr l_213 0 0 g μ μ2 → (-2147483648 ≤ v ∧ v ≤ 2147483647) → ex_q (dt_fg L ρ) rc (d + 1, (f.1, f.2.1, f.2.2.1, eI v :: f.2.2.2), F, μ2)) : ex_q (dt_fg L ρ) rc (d, (213, 0, [some (eR a0)], []), f :: F, μ) := by
  have F0 : Fr l_213 0 0 g μ μ := Fr.r
  refine w_t (np := 1) (l2 := [some (eR a0)]) (s2 := [eR a0]) rfl (s_an rfl (pos_g hI gA0 (by decide))) rfl ?_
  refine w_t (np := 2) (l2 := [some (eR a0)]) (s2 := [eI (0), eR a0]) rfl rfl rfl ?_
  refine j_pf (np := 5) (w := 0) rfl rfl hI gA0 (by decide) (n := 69) rfl rfl (hO_i (lo := -2147483648) (hi := 2147483647) rfl (by decide)) ?_
  intro m1 I2 W3
  have F4 : Fr l_213 0 0 g μ m1 := F0.w W3 gA0 rfl
  refine w_t (np := 6) (l2 := [some (eR a0)]) (s2 := [eR a0]) rfl (s_an rfl (pos_g I2 gA0 (by decide))) rfl ?_
  refine j_gi (np := 9) rfl rfl rfl I2 gA0 (by decide) (n := 69) rfl rfl (lo := -2147483648) (hi := 2147483647) rfl ?_
  intro v5 e6 b7
  exact b_ri rfl rfl (K m1 (v5) I2 F4 (by omega))
theorem s_217 {L : Nat} {ρ : Nat → Int} {rc : eQ} {d : Nat} {f : eFr} {F : List eFr} {μ : eM} {g : Nat → Nat} {a0 : Int} (hI : SI g μ) (bA0 : -2147483648 ≤ a0 ∧ a0 ≤ 2147483647) (K : ∀ (v : Int), (0 ≤ v ∧ v ≤ 9) → ex_q (dt_fg L ρ) rc (d + 1, (f.1, f.2.1, f.2.2.1, eI v :: f.2.2.2), F, μ)) : ex_q (dt_fg L ρ) rc (d, (217, 0, [some (eI (a0))], []), f :: F, μ) := by
  refine w_t (np := 1) (l2 := [some (eI (a0))]) (s2 := [eI (a0)]) rfl rfl rfl ?_
  refine w_t (np := 3) (l2 := [some (eI (a0))]) (s2 := [eI (10), eI (a0)]) rfl rfl rfl ?_
  obtain ⟨v1, e2, b3⟩ := h_irem (a := a0) (k := 10) (by decide) (by decide) bA0
  have b4 : -9 ≤ v1 ∧ v1 ≤ 9 := by omega
  refine w_t (np := 4) (l2 := [some (eI (a0))]) (s2 := [eI (v1)]) rfl (e2 _ _) rfl ?_
  refine w_t (np := 6) (l2 := [some (eI (a0))]) (s2 := [eI (10), eI (v1)]) rfl rfl rfl ?_
  obtain ⟨v5, e6⟩ : ∃ zz : Int, zz = (v1) + (10) := ⟨_, rfl⟩
  have b7 : 1 ≤ v5 ∧ v5 ≤ 19 := by omega
  refine w_t (np := 7) (l2 := [some (eI (a0))]) (s2 := [eI (v5)]) rfl (b_iadd (by rw [← e6]; exact ev_w_in (by omega) (by omega))) rfl ?_
  refine w_t (np := 9) (l2 := [some (eI (a0))]) (s2 := [eI (10), eI (v5)]) rfl rfl rfl ?_
  obtain ⟨v8, e9, b10⟩ := h_irem (a := v5) (k := 10) (by decide) (by decide) (show (-2147483648 : Int) ≤ v5 ∧ (v5 : Int) ≤ 2147483647 by omega)
  have b11 : 0 ≤ v8 ∧ v8 ≤ 9 := by omega
  refine w_t (np := 10) (l2 := [some (eI (a0))]) (s2 := [eI (v8)]) rfl (e9 _ _) rfl ?_
  exact b_ri rfl rfl (K (v8) (by omega))
theorem s_218 {L : Nat} {ρ : Nat → Int} {rc : eQ} {d : Nat} {f : eFr} {F : List eFr} {μ : eM} {g : Nat → Nat} {a0 : Int} {a1 : Int} (hI : SI g μ) (bA0 : -2147483648 ≤ a0 ∧ a0 ≤ 2147483647) (bA1 : 0 ≤ a1 ∧ a1 ≤ 3) (K : ∀ (v : Int), (-1 ≤ v ∧ v ≤ 1) → ex_q (dt_fg L ρ) rc (d + 2, (f.1, f.2.1, f.2.2.1, eI v :: f.2.2.2), F, μ)) : ex_q (dt_fg L ρ) rc (d + 1, (218, 0, [some (eI (a0)), some (eI (a1))], []), f :: F, μ) := by
  refine v_gs (np := 3) rfl rfl ?_
  refine w_t (np := 4) (l2 := [some (eI (a0)), some (eI (a1))]) (s2 := [eI (4), eR 21]) rfl rfl rfl ?_
  refine w_t (np := 5) (l2 := [some (eI (a0)), some (eI (a1))]) (s2 := [eI (a0), eI (4), eR 21]) rfl rfl rfl ?_
  refine w_cu (np := 8) (as := [eI (a0)]) (l2 := [some (eI (a0))]) (rest := [eI (4), eR 21]) rfl rfl rfl (Nat.ble_eq.mp rfl) rfl rfl rfl rfl ?_
  refine s_217 (a0 := a0) hI (by omega) ?_
  intro v1 b2
  show ex_q (dt_fg L ρ) rc (d + 1, (218, 8, [some (eI (a0)), some (eI (a1))], [eI (v1), eI (4), eR 21]), f :: F, μ)
  obtain ⟨v3, e4⟩ : ∃ zz : Int, zz = (4) * (v1) := ⟨_, rfl⟩
  have b5 : 0 ≤ v3 ∧ v3 ≤ 36 := by omega
  refine w_t (np := 9) (l2 := [some (eI (a0)), some (eI (a1))]) (s2 := [eI (v3), eR 21]) rfl (b_imul (by rw [← e4]; exact ev_w_in (by omega) (by omega))) rfl ?_
  refine w_t (np := 10) (l2 := [some (eI (a0)), some (eI (a1))]) (s2 := [eI (a1), eI (v3), eR 21]) rfl rfl rfl ?_
  obtain ⟨v6, e7⟩ : ∃ zz : Int, zz = (v3) + (a1) := ⟨_, rfl⟩
  have b8 : 0 ≤ v6 ∧ v6 ≤ 39 := by omega
  refine w_t (np := 11) (l2 := [some (eI (a0)), some (eI (a1))]) (s2 := [eI (v6), eR 21]) rfl (b_iadd (by rw [← e7]; exact ev_w_in (by omega) (by omega))) rfl ?_
  refine j_si (np := 12) (n := 40) (lo := -1) (hi := 1) rfl rfl rfl (by decide) (by decide) (by decide) rfl rfl (by decide) (by omega) (by omega) ?_
  intro v9 b11
  exact b_ri rfl rfl (K (v9) (by omega))
def l_219 : List Nat := [13315, 13316, 13317, 13318]
theorem s_219 {L : Nat} {ρ : Nat → Int} {rc : eQ} {d : Nat} {f : eFr} {F : List eFr} {μ : eM} {g : Nat → Nat} {a0 : Nat} {a1 : Int} {a3 : Int} {a5 : Int} {a7 : Int} (hI : SI g μ) (gA0 : g a0 = 52) (bA1 : -9223372036854775808 ≤ a1 ∧ a1 ≤ 9223372036854775807) (bA3 : -9223372036854775808 ≤ a3 ∧ a3 ≤ 9223372036854775807) (bA5 : -9223372036854775808 ≤ a5 ∧ a5 ≤ 9223372036854775807) (bA7 : -9223372036854775808 ≤ a7 ∧ a7 ≤ 9223372036854775807) (K : ∀ (μ2 : eM), SI g μ2 → Fr l_219 0 0 g μ μ2 → ex_q (dt_fg L ρ) rc (d + 1, (f.1, f.2.1, f.2.2.1, f.2.2.2), F, μ2)) : ex_q (dt_fg L ρ) rc (d, (219, 0, [some (eR a0), some (eJ (a1)), none, some (eJ (a3)), none, some (eJ (a5)), none, some (eJ (a7)), none], []), f :: F, μ) := by
  have F0 : Fr l_219 0 0 g μ μ := Fr.r
  refine w_t (np := 1) (l2 := [some (eR a0), some (eJ (a1)), none, some (eJ (a3)), none, some (eJ (a5)), none, some (eJ (a7)), none]) (s2 := [eR a0]) rfl (s_an rfl (pos_g hI gA0 (by decide))) rfl ?_
  refine w_t (np := 2) (l2 := [some (eR a0), some (eJ (a1)), none, some (eJ (a3)), none, some (eJ (a5)), none, some (eJ (a7)), none]) (s2 := [eJ (a1), eR a0]) rfl rfl rfl ?_
  refine j_pf (np := 5) (w := a1) rfl rfl hI gA0 (by decide) (n := 69) rfl rfl (hO_i (lo := -9223372036854775808) (hi := 9223372036854775807) rfl (by omega)) ?_
  intro m1 I2 W3
  have F4 : Fr l_219 0 0 g μ m1 := F0.w W3 gA0 rfl
  refine w_t (np := 6) (l2 := [some (eR a0), some (eJ (a1)), none, some (eJ (a3)), none, some (eJ (a5)), none, some (eJ (a7)), none]) (s2 := [eR a0]) rfl (s_an rfl (pos_g I2 gA0 (by decide))) rfl ?_
  refine w_t (np := 7) (l2 := [some (eR a0), some (eJ (a1)), none, some (eJ (a3)), none, some (eJ (a5)), none, some (eJ (a7)), none]) (s2 := [eJ (a3), eR a0]) rfl rfl rfl ?_
  refine j_pf (np := 10) (w := a3) rfl rfl I2 gA0 (by decide) (n := 69) rfl rfl (hO_i (lo := -9223372036854775808) (hi := 9223372036854775807) rfl (by omega)) ?_
  intro m5 I6 W7
  have F8 : Fr l_219 0 0 g μ m5 := F4.w W7 gA0 rfl
  refine w_t (np := 11) (l2 := [some (eR a0), some (eJ (a1)), none, some (eJ (a3)), none, some (eJ (a5)), none, some (eJ (a7)), none]) (s2 := [eR a0]) rfl (s_an rfl (pos_g I6 gA0 (by decide))) rfl ?_
  refine w_t (np := 13) (l2 := [some (eR a0), some (eJ (a1)), none, some (eJ (a3)), none, some (eJ (a5)), none, some (eJ (a7)), none]) (s2 := [eJ (a5), eR a0]) rfl rfl rfl ?_
  refine j_pf (np := 16) (w := a5) rfl rfl I6 gA0 (by decide) (n := 69) rfl rfl (hO_i (lo := -9223372036854775808) (hi := 9223372036854775807) rfl (by omega)) ?_
  intro m9 I10 W11
  have F12 : Fr l_219 0 0 g μ m9 := F8.w W11 gA0 rfl
  refine w_t (np := 17) (l2 := [some (eR a0), some (eJ (a1)), none, some (eJ (a3)), none, some (eJ (a5)), none, some (eJ (a7)), none]) (s2 := [eR a0]) rfl (s_an rfl (pos_g I10 gA0 (by decide))) rfl ?_
  refine w_t (np := 19) (l2 := [some (eR a0), some (eJ (a1)), none, some (eJ (a3)), none, some (eJ (a5)), none, some (eJ (a7)), none]) (s2 := [eJ (a7), eR a0]) rfl rfl rfl ?_
  refine j_pf (np := 22) (w := a7) rfl rfl I10 gA0 (by decide) (n := 69) rfl rfl (hO_i (lo := -9223372036854775808) (hi := 9223372036854775807) rfl (by omega)) ?_
  intro m13 I14 W15
  have F16 : Fr l_219 0 0 g μ m13 := F12.w W15 gA0 rfl
  exact v_rv rfl rfl (K m13 I14 F16)
def l_220 : List Nat := [13315, 13316, 13317, 13318]
theorem s_220 {L : Nat} {ρ : Nat → Int} {rc : eQ} {d : Nat} {f : eFr} {F : List eFr} {μ : eM} {g : Nat → Nat} {a0 : Nat} (hI : SI g μ) (gA0 : g a0 = 52) (K : ∀ (μ2 : eM), SI g μ2 → Fr l_220 0 0 g μ μ2 → ex_q (dt_fg L ρ) rc (d + 2, (f.1, f.2.1, f.2.2.1, f.2.2.2), F, μ2)) : ex_q (dt_fg L ρ) rc (d + 1, (220, 0, [some (eR a0)], []), f :: F, μ) := by
  have F0 : Fr l_220 0 0 g μ μ := Fr.r
  refine w_t (np := 1) (l2 := [some (eR a0)]) (s2 := [eR a0]) rfl (s_an rfl (pos_g hI gA0 (by decide))) rfl ?_
  refine w_t (np := 2) (l2 := [some (eR a0)]) (s2 := [eJ (0), eR a0]) rfl rfl rfl ?_
  refine w_t (np := 3) (l2 := [some (eR a0)]) (s2 := [eR a0, eJ (0), eR a0]) rfl (s_an rfl (pos_g hI gA0 (by decide))) rfl ?_
  refine j_gj (np := 6) rfl rfl hI gA0 (by decide) (n := 69) rfl rfl (lo := -9223372036854775808) (hi := 9223372036854775807) rfl ?_
  intro v1 e2 b3
  obtain ⟨v4, e5, b6⟩ : ∃ zz : Int, ev_W ((0) - (v1)) = zz ∧ (-9223372036854775808 ≤ zz ∧ zz ≤ 9223372036854775807) := ⟨_, rfl, hW_bd _⟩
  refine w_t (np := 7) (l2 := [some (eR a0)]) (s2 := [eJ (v4), eR a0]) rfl (b_lsub e5) rfl ?_
  refine w_t (np := 8) (l2 := [some (eR a0)]) (s2 := [eR a0, eJ (v4), eR a0]) rfl (s_an rfl (pos_g hI gA0 (by decide))) rfl ?_
  refine j_gj (np := 11) rfl rfl hI gA0 (by decide) (n := 69) rfl rfl (lo := -9223372036854775808) (hi := 9223372036854775807) rfl ?_
  intro v7 e8 b9
  refine w_t (np := 12) (l2 := [some (eR a0)]) (s2 := [eR a0, eJ (v7), eJ (v4), eR a0]) rfl (s_an rfl (pos_g hI gA0 (by decide))) rfl ?_
  refine w_gf (np := 15) (v := eJ (v1)) rfl rfl (hI.kd gA0 (by decide) (n := 69) rfl) (by rw [e2]; rfl) ?_
  obtain ⟨v10, e11, b12⟩ : ∃ zz : Int, ev_W ((v7) + (v1)) = zz ∧ (-9223372036854775808 ≤ zz ∧ zz ≤ 9223372036854775807) := ⟨_, rfl, hW_bd _⟩
  refine w_t (np := 16) (l2 := [some (eR a0)]) (s2 := [eJ (v10), eJ (v4), eR a0]) rfl (b_ladd e11) rfl ?_
  refine w_t (np := 17) (l2 := [some (eR a0)]) (s2 := [eR a0, eJ (v10), eJ (v4), eR a0]) rfl (s_an rfl (pos_g hI gA0 (by decide))) rfl ?_
  refine j_gj (np := 20) rfl rfl hI gA0 (by decide) (n := 69) rfl rfl (lo := -9223372036854775808) (hi := 9223372036854775807) rfl ?_
  intro v13 e14 b15
  refine w_t (np := 21) (l2 := [some (eR a0)]) (s2 := [eR a0, eJ (v13), eJ (v10), eJ (v4), eR a0]) rfl (s_an rfl (pos_g hI gA0 (by decide))) rfl ?_
  refine w_gf (np := 24) (v := eJ (v1)) rfl rfl (hI.kd gA0 (by decide) (n := 69) rfl) (by rw [e2]; rfl) ?_
  obtain ⟨v16, e17, b18⟩ : ∃ zz : Int, ev_W ((v13) - (v1)) = zz ∧ (-9223372036854775808 ≤ zz ∧ zz ≤ 9223372036854775807) := ⟨_, rfl, hW_bd _⟩
  refine w_t (np := 25) (l2 := [some (eR a0)]) (s2 := [eJ (v16), eJ (v10), eJ (v4), eR a0]) rfl (b_lsub e17) rfl ?_
  refine w_t (np := 26) (l2 := [some (eR a0)]) (s2 := [eR a0, eJ (v16), eJ (v10), eJ (v4), eR a0]) rfl (s_an rfl (pos_g hI gA0 (by decide))) rfl ?_
  refine j_gj (np := 29) rfl rfl hI gA0 (by decide) (n := 69) rfl rfl (lo := -9223372036854775808) (hi := 9223372036854775807) rfl ?_
  intro v19 e20 b21
  refine w_t (np := 30) (l2 := [some (eR a0)]) (s2 := [eR a0, eJ (v19), eJ (v16), eJ (v10), eJ (v4), eR a0]) rfl (s_an rfl (pos_g hI gA0 (by decide))) rfl ?_
  refine w_gf (np := 33) (v := eJ (v1)) rfl rfl (hI.kd gA0 (by decide) (n := 69) rfl) (by rw [e2]; rfl) ?_
  obtain ⟨v22, e23, b24⟩ : ∃ zz : Int, ev_W ((v19) + (v1)) = zz ∧ (-9223372036854775808 ≤ zz ∧ zz ≤ 9223372036854775807) := ⟨_, rfl, hW_bd _⟩
  refine w_t (np := 34) (l2 := [some (eR a0)]) (s2 := [eJ (v22), eJ (v16), eJ (v10), eJ (v4), eR a0]) rfl (b_ladd e23) rfl ?_
  refine w_cw (np := 37) (as := [eJ (v4), eJ (v10), eJ (v16), eJ (v22)]) (l2 := [some (eR a0), some (eJ (v4)), none, some (eJ (v10)), none, some (eJ (v16)), none, some (eJ (v22)), none]) (rest := []) rfl rfl rfl (Nat.ble_eq.mp rfl) rfl rfl rfl (hI.kd gA0 (by decide) (n := 69) rfl) rfl ?_
  refine s_219 hI gA0 b6 b12 b18 b24 ?_
  intro m25 I26 F27
  have F28 : Fr l_220 0 0 g μ m25 := F0.t F27 rfl
  show ex_q (dt_fg L ρ) rc (d + 1, (220, 37, [some (eR a0)], []), f :: F, m25)
  exact v_rv rfl rfl (K m25 I26 F28)
def l_221 : List Nat := [13315, 13316, 13317, 13318]
theorem s_221 {L : Nat} {ρ : Nat → Int} {rc : eQ} {d : Nat} {f : eFr} {F : List eFr} {μ : eM} {g : Nat → Nat} {a0 : Nat} (hI : SI g μ) (gA0 : g a0 = 52) (K : ∀ (μ2 : eM), SI g μ2 → Fr l_221 0 0 g μ μ2 → ex_q (dt_fg L ρ) rc (d + 2, (f.1, f.2.1, f.2.2.1, f.2.2.2), F, μ2)) : ex_q (dt_fg L ρ) rc (d + 1, (221, 0, [some (eR a0)], []), f :: F, μ) := by
  have F0 : Fr l_221 0 0 g μ μ := Fr.r
  refine w_t (np := 1) (l2 := [some (eR a0)]) (s2 := [eR a0]) rfl (s_an rfl (pos_g hI gA0 (by decide))) rfl ?_
  refine w_t (np := 2) (l2 := [some (eR a0)]) (s2 := [eR a0, eR a0]) rfl (s_an rfl (pos_g hI gA0 (by decide))) rfl ?_
  refine j_gj (np := 5) rfl rfl hI gA0 (by decide) (n := 69) rfl rfl (lo := -9223372036854775808) (hi := 9223372036854775807) rfl ?_
  intro v1 e2 b3
  refine w_t (np := 6) (l2 := [some (eR a0)]) (s2 := [eR a0, eJ (v1), eR a0]) rfl (s_an rfl (pos_g hI gA0 (by decide))) rfl ?_
  refine j_gj (np := 9) rfl rfl hI gA0 (by decide) (n := 69) rfl rfl (lo := -9223372036854775808) (hi := 9223372036854775807) rfl ?_
  intro v4 e5 b6
  obtain ⟨v7, e8, b9⟩ : ∃ zz : Int, ev_W ((v1) + (v4)) = zz ∧ (-9223372036854775808 ≤ zz ∧ zz ≤ 9223372036854775807) := ⟨_, rfl, hW_bd _⟩
  refine w_t (np := 10) (l2 := [some (eR a0)]) (s2 := [eJ (v7), eR a0]) rfl (b_ladd e8) rfl ?_
  refine w_t (np := 11) (l2 := [some (eR a0)]) (s2 := [eJ (0), eJ (v7), eR a0]) rfl rfl rfl ?_
  refine w_t (np := 12) (l2 := [some (eR a0)]) (s2 := [eR a0, eJ (0), eJ (v7), eR a0]) rfl (s_an rfl (pos_g hI gA0 (by decide))) rfl ?_
  refine w_gf (np := 15) (v := eJ (v4)) rfl rfl (hI.kd gA0 (by decide) (n := 69) rfl) (by rw [e5]; rfl) ?_
  obtain ⟨v10, e11, b12⟩ : ∃ zz : Int, ev_W ((0) - (v4)) = zz ∧ (-9223372036854775808 ≤ zz ∧ zz ≤ 9223372036854775807) := ⟨_, rfl, hW_bd _⟩
  refine w_t (np := 16) (l2 := [some (eR a0)]) (s2 := [eJ (v10), eJ (v7), eR a0]) rfl (b_lsub e11) rfl ?_
  refine w_t (np := 17) (l2 := [some (eR a0)]) (s2 := [eR a0, eJ (v10), eJ (v7), eR a0]) rfl (s_an rfl (pos_g hI gA0 (by decide))) rfl ?_
  refine w_gf (np := 20) (v := eJ (v4)) rfl rfl (hI.kd gA0 (by decide) (n := 69) rfl) (by rw [e5]; rfl) ?_
  refine w_t (np := 21) (l2 := [some (eR a0)]) (s2 := [eR a0, eJ (v4), eJ (v10), eJ (v7), eR a0]) rfl (s_an rfl (pos_g hI gA0 (by decide))) rfl ?_
  refine j_gj (np := 24) rfl rfl hI gA0 (by decide) (n := 69) rfl rfl (lo := -9223372036854775808) (hi := 9223372036854775807) rfl ?_
  intro v13 e14 b15
  obtain ⟨v16, e17, b18⟩ : ∃ zz : Int, ev_W ((v4) - (v13)) = zz ∧ (-9223372036854775808 ≤ zz ∧ zz ≤ 9223372036854775807) := ⟨_, rfl, hW_bd _⟩
  refine w_t (np := 25) (l2 := [some (eR a0)]) (s2 := [eJ (v16), eJ (v10), eJ (v7), eR a0]) rfl (b_lsub e17) rfl ?_
  refine w_t (np := 26) (l2 := [some (eR a0)]) (s2 := [eJ (0), eJ (v16), eJ (v10), eJ (v7), eR a0]) rfl rfl rfl ?_
  refine w_t (np := 27) (l2 := [some (eR a0)]) (s2 := [eR a0, eJ (0), eJ (v16), eJ (v10), eJ (v7), eR a0]) rfl (s_an rfl (pos_g hI gA0 (by decide))) rfl ?_
  refine w_gf (np := 30) (v := eJ (v4)) rfl rfl (hI.kd gA0 (by decide) (n := 69) rfl) (by rw [e5]; rfl) ?_
  obtain ⟨v19, e20, b21⟩ : ∃ zz : Int, ev_W ((0) - (v4)) = zz ∧ (-9223372036854775808 ≤ zz ∧ zz ≤ 9223372036854775807) := ⟨_, rfl, hW_bd _⟩
  refine w_t (np := 31) (l2 := [some (eR a0)]) (s2 := [eJ (v19), eJ (v16), eJ (v10), eJ (v7), eR a0]) rfl (b_lsub e20) rfl ?_
  refine w_t (np := 32) (l2 := [some (eR a0)]) (s2 := [eR a0, eJ (v19), eJ (v16), eJ (v10), eJ (v7), eR a0]) rfl (s_an rfl (pos_g hI gA0 (by decide))) rfl ?_
  refine j_gj (np := 35) rfl rfl hI gA0 (by decide) (n := 69) rfl rfl (lo := -9223372036854775808) (hi := 9223372036854775807) rfl ?_
  intro v22 e23 b24
  obtain ⟨v25, e26, b27⟩ : ∃ zz : Int, ev_W ((v19) - (v22)) = zz ∧ (-9223372036854775808 ≤ zz ∧ zz ≤ 9223372036854775807) := ⟨_, rfl, hW_bd _⟩
  refine w_t (np := 36) (l2 := [some (eR a0)]) (s2 := [eJ (v25), eJ (v16), eJ (v10), eJ (v7), eR a0]) rfl (b_lsub e26) rfl ?_
  refine w_cw (np := 39) (as := [eJ (v7), eJ (v10), eJ (v16), eJ (v25)]) (l2 := [some (eR a0), some (eJ (v7)), none, some (eJ (v10)), none, some (eJ (v16)), none, some (eJ (v25)), none]) (rest := []) rfl rfl rfl (Nat.ble_eq.mp rfl) rfl rfl rfl (hI.kd gA0 (by decide) (n := 69) rfl) rfl ?_
  refine s_219 hI gA0 b9 b12 b18 b27 ?_
  intro m28 I29 F30
  have F31 : Fr l_221 0 0 g μ m28 := F0.t F30 rfl
  show ex_q (dt_fg L ρ) rc (d + 1, (221, 39, [some (eR a0)], []), f :: F, m28)
  exact v_rv rfl rfl (K m28 I29 F31)
theorem s_222 {L : Nat} {ρ : Nat → Int} {rc : eQ} {d : Nat} {f : eFr} {F : List eFr} {μ : eM} {g : Nat → Nat} {a0 : Int} {a2 : Int} (hI : SI g μ) (bA0 : -9223372036854775808 ≤ a0 ∧ a0 ≤ 9223372036854775807) (bA2 : -9223372036854775808 ≤ a2 ∧ a2 ≤ 9223372036854775807) (K : ∀ (v : Int), (-1 ≤ v ∧ v ≤ 1) → ex_q (dt_fg L ρ) rc (d + 1, (f.1, f.2.1, f.2.2.1, eI v :: f.2.2.2), F, μ)) : ex_q (dt_fg L ρ) rc (d, (222, 0, [some (eJ (a0)), none, some (eJ (a2)), none, none, none, none, none, none, none], []), f :: F, μ) := by
  refine v_l2 (np := 3) (c := 2) rfl rfl (by decide) ?_
  rw [show zJ 2 = 2 by decide]
  refine w_t (np := 4) (l2 := [some (eJ (a0)), none, some (eJ (a2)), none, none, none, none, none, none, none]) (s2 := [eJ (a0), eJ (2)]) rfl rfl rfl ?_
  obtain ⟨v1, e2, b3⟩ : ∃ zz : Int, ev_W ((2) * (a0)) = zz ∧ (-9223372036854775808 ≤ zz ∧ zz ≤ 9223372036854775807) := ⟨_, rfl, hW_bd _⟩
  refine w_t (np := 5) (l2 := [some (eJ (a0)), none, some (eJ (a2)), none, none, none, none, none, none, none]) (s2 := [eJ (v1)]) rfl (b_lmul e2) rfl ?_
  refine w_t (np := 6) (l2 := [some (eJ (a0)), none, some (eJ (a2)), none, none, none, none, none, none, none]) (s2 := [eJ (a2), eJ (v1)]) rfl rfl rfl ?_
  obtain ⟨v4, e5, b6⟩ : ∃ zz : Int, ev_W ((v1) + (a2)) = zz ∧ (-9223372036854775808 ≤ zz ∧ zz ≤ 9223372036854775807) := ⟨_, rfl, hW_bd _⟩
  refine w_t (np := 7) (l2 := [some (eJ (a0)), none, some (eJ (a2)), none, none, none, none, none, none, none]) (s2 := [eJ (v4)]) rfl (b_ladd e5) rfl ?_
  refine w_t (np := 9) (l2 := [some (eJ (a0)), none, some (eJ (a2)), none, some (eJ (v4)), none, none, none, none, none]) (s2 := []) rfl rfl rfl ?_
  refine w_t (np := 11) (l2 := [some (eJ (a0)), none, some (eJ (a2)), none, some (eJ (v4)), none, none, none, none, none]) (s2 := [eJ (v4)]) rfl rfl rfl ?_
  refine w_t (np := 12) (l2 := [some (eJ (a0)), none, some (eJ (a2)), none, some (eJ (v4)), none, none, none, none, none]) (s2 := [eJ (0), eJ (v4)]) rfl rfl rfl ?_
  obtain ⟨v7, e8, b9⟩ := h_lcmp (v4) (0)
  refine w_t (np := 13) (l2 := [some (eJ (a0)), none, some (eJ (a2)), none, some (eJ (v4)), none, none, none, none, none]) (s2 := [eI (v7)]) rfl (e8 _ _) rfl ?_
  refine b_ilt (t1 := 41) (t2 := 16) rfl rfl rfl (ev_w_in (by omega) (by omega)) (fun g10 => ?_) (fun g10 => ?_)
  · have b11 : -1 ≤ v7 ∧ v7 ≤ -1 := by omega
    refine w_t (np := 43) (l2 := [some (eJ (a0)), none, some (eJ (a2)), none, some (eJ (v4)), none, none, none, none, none]) (s2 := [eJ (v4)]) rfl rfl rfl ?_
    refine w_t (np := 44) (l2 := [some (eJ (a0)), none, some (eJ (a2)), none, some (eJ (v4)), none, none, none, none, none]) (s2 := [eJ (0), eJ (v4)]) rfl rfl rfl ?_
    obtain ⟨v11, e12, b13⟩ := h_lcmp (v4) (0)
    refine w_t (np := 45) (l2 := [some (eJ (a0)), none, some (eJ (a2)), none, some (eJ (v4)), none, none, none, none, none]) (s2 := [eI (v11)]) rfl (e12 _ _) rfl ?_
    refine b_igt (t1 := 56) (t2 := 48) rfl rfl rfl (ev_w_in (by omega) (by omega)) (fun g14 => ?_) (fun g14 => ?_)
    · have b15 : 1 ≤ v11 ∧ v11 ≤ 1 := by omega
      refine w_t (np := 58) (l2 := [some (eJ (a0)), none, some (eJ (a2)), none, some (eJ (v4)), none, none, none, none, none]) (s2 := [eJ (v4)]) rfl rfl rfl ?_
      refine w_t (np := 60) (l2 := [some (eJ (a0)), none, some (eJ (a2)), none, some (eJ (v4)), none, none, none, none, none]) (s2 := [eJ (v4), eJ (v4)]) rfl rfl rfl ?_
      obtain ⟨v15, e16, b17⟩ : ∃ zz : Int, ev_W ((v4) * (v4)) = zz ∧ (-9223372036854775808 ≤ zz ∧ zz ≤ 9223372036854775807) := ⟨_, rfl, hW_bd _⟩
      refine w_t (np := 61) (l2 := [some (eJ (a0)), none, some (eJ (a2)), none, some (eJ (v4)), none, none, none, none, none]) (s2 := [eJ (v15)]) rfl (b_lmul e16) rfl ?_
      refine w_t (np := 63) (l2 := [some (eJ (a0)), none, some (eJ (a2)), none, some (eJ (v4)), none, some (eJ (v15)), none, none, none]) (s2 := []) rfl rfl rfl ?_
      refine v_l2 (np := 66) (c := 5) rfl rfl (by decide) ?_
      rw [show zJ 5 = 5 by decide]
      refine w_t (np := 67) (l2 := [some (eJ (a0)), none, some (eJ (a2)), none, some (eJ (v4)), none, some (eJ (v15)), none, none, none]) (s2 := [eJ (a2), eJ (5)]) rfl rfl rfl ?_
      obtain ⟨v18, e19, b20⟩ : ∃ zz : Int, ev_W ((5) * (a2)) = zz ∧ (-9223372036854775808 ≤ zz ∧ zz ≤ 9223372036854775807) := ⟨_, rfl, hW_bd _⟩
      refine w_t (np := 68) (l2 := [some (eJ (a0)), none, some (eJ (a2)), none, some (eJ (v4)), none, some (eJ (v15)), none, none, none]) (s2 := [eJ (v18)]) rfl (b_lmul e19) rfl ?_
      refine w_t (np := 69) (l2 := [some (eJ (a0)), none, some (eJ (a2)), none, some (eJ (v4)), none, some (eJ (v15)), none, none, none]) (s2 := [eJ (a2), eJ (v18)]) rfl rfl rfl ?_
      obtain ⟨v21, e22, b23⟩ : ∃ zz : Int, ev_W ((v18) * (a2)) = zz ∧ (-9223372036854775808 ≤ zz ∧ zz ≤ 9223372036854775807) := ⟨_, rfl, hW_bd _⟩
      refine w_t (np := 70) (l2 := [some (eJ (a0)), none, some (eJ (a2)), none, some (eJ (v4)), none, some (eJ (v15)), none, none, none]) (s2 := [eJ (v21)]) rfl (b_lmul e22) rfl ?_
      refine w_t (np := 72) (l2 := [some (eJ (a0)), none, some (eJ (a2)), none, some (eJ (v4)), none, some (eJ (v15)), none, some (eJ (v21)), none]) (s2 := []) rfl rfl rfl ?_
      refine w_t (np := 74) (l2 := [some (eJ (a0)), none, some (eJ (a2)), none, some (eJ (v4)), none, some (eJ (v15)), none, some (eJ (v21)), none]) (s2 := [eJ (v4)]) rfl rfl rfl ?_
      refine w_t (np := 75) (l2 := [some (eJ (a0)), none, some (eJ (a2)), none, some (eJ (v4)), none, some (eJ (v15)), none, some (eJ (v21)), none]) (s2 := [eJ (0), eJ (v4)]) rfl rfl rfl ?_
      obtain ⟨v24, e25, b26⟩ := h_lcmp (v4) (0)
      refine w_t (np := 76) (l2 := [some (eJ (a0)), none, some (eJ (a2)), none, some (eJ (v4)), none, some (eJ (v15)), none, some (eJ (v21)), none]) (s2 := [eI (v24)]) rfl (e25 _ _) rfl ?_
      refine b_ile (t1 := 95) (t2 := 79) rfl rfl rfl (ev_w_in (by omega) (by omega)) (fun g27 => ?_) (fun g27 => ?_)
      · have b28 : -1 ≤ v24 ∧ v24 ≤ 0 := by omega
        refine w_t (np := 97) (l2 := [some (eJ (a0)), none, some (eJ (a2)), none, some (eJ (v4)), none, some (eJ (v15)), none, some (eJ (v21)), none]) (s2 := [eJ (v21)]) rfl rfl rfl ?_
        refine w_t (np := 99) (l2 := [some (eJ (a0)), none, some (eJ (a2)), none, some (eJ (v4)), none, some (eJ (v15)), none, some (eJ (v21)), none]) (s2 := [eJ (v15), eJ (v21)]) rfl rfl rfl ?_
        obtain ⟨v28, e29, b30⟩ := h_lcmp (v21) (v15)
        refine w_t (np := 100) (l2 := [some (eJ (a0)), none, some (eJ (a2)), none, some (eJ (v4)), none, some (eJ (v15)), none, some (eJ (v21)), none]) (s2 := [eI (v28)]) rfl (e29 _ _) rfl ?_
        refine b_ile (t1 := 107) (t2 := 103) rfl rfl rfl (ev_w_in (by omega) (by omega)) (fun g31 => ?_) (fun g31 => ?_)
        · have b32 : -1 ≤ v28 ∧ v28 ≤ 0 := by omega
          refine w_t (np := 108) (l2 := [some (eJ (a0)), none, some (eJ (a2)), none, some (eJ (v4)), none, some (eJ (v15)), none, some (eJ (v21)), none]) (s2 := [eI (-1)]) rfl rfl rfl ?_
          exact b_ri rfl rfl (K (-1) (by decide))
        · have b32 : 1 ≤ v28 ∧ v28 ≤ 1 := by omega
          refine w_t (np := 104) (l2 := [some (eJ (a0)), none, some (eJ (a2)), none, some (eJ (v4)), none, some (eJ (v15)), none, some (eJ (v21)), none]) (s2 := [eI (1)]) rfl rfl rfl ?_
          refine w_go (t1 := 108) rfl rfl ?_
          exact b_ri rfl rfl (K (1) (by decide))
      · have b28 : 1 ≤ v24 ∧ v24 ≤ 1 := by omega
        refine w_t (np := 81) (l2 := [some (eJ (a0)), none, some (eJ (a2)), none, some (eJ (v4)), none, some (eJ (v15)), none, some (eJ (v21)), none]) (s2 := [eJ (v15)]) rfl rfl rfl ?_
        refine w_t (np := 83) (l2 := [some (eJ (a0)), none, some (eJ (a2)), none, some (eJ (v4)), none, some (eJ (v15)), none, some (eJ (v21)), none]) (s2 := [eJ (v21), eJ (v15)]) rfl rfl rfl ?_
        obtain ⟨v28, e29, b30⟩ := h_lcmp (v15) (v21)
        refine w_t (np := 84) (l2 := [some (eJ (a0)), none, some (eJ (a2)), none, some (eJ (v4)), none, some (eJ (v15)), none, some (eJ (v21)), none]) (s2 := [eI (v28)]) rfl (e29 _ _) rfl ?_
        refine b_ile (t1 := 91) (t2 := 87) rfl rfl rfl (ev_w_in (by omega) (by omega)) (fun g31 => ?_) (fun g31 => ?_)
        · have b32 : -1 ≤ v28 ∧ v28 ≤ 0 := by omega
          refine w_t (np := 92) (l2 := [some (eJ (a0)), none, some (eJ (a2)), none, some (eJ (v4)), none, some (eJ (v15)), none, some (eJ (v21)), none]) (s2 := [eI (-1)]) rfl rfl rfl ?_
          refine w_go (t1 := 108) rfl rfl ?_
          exact b_ri rfl rfl (K (-1) (by decide))
        · have b32 : 1 ≤ v28 ∧ v28 ≤ 1 := by omega
          refine w_t (np := 88) (l2 := [some (eJ (a0)), none, some (eJ (a2)), none, some (eJ (v4)), none, some (eJ (v15)), none, some (eJ (v21)), none]) (s2 := [eI (1)]) rfl rfl rfl ?_
          refine w_go (t1 := 108) rfl rfl ?_
          exact b_ri rfl rfl (K (1) (by decide))
    · have b15 : -1 ≤ v11 ∧ v11 ≤ 0 := by omega
      refine w_t (np := 49) (l2 := [some (eJ (a0)), none, some (eJ (a2)), none, some (eJ (v4)), none, none, none, none, none]) (s2 := [eJ (a2)]) rfl rfl rfl ?_
      refine w_t (np := 50) (l2 := [some (eJ (a0)), none, some (eJ (a2)), none, some (eJ (v4)), none, none, none, none, none]) (s2 := [eJ (0), eJ (a2)]) rfl rfl rfl ?_
      obtain ⟨v15, e16, b17⟩ := h_lcmp (a2) (0)
      refine w_t (np := 51) (l2 := [some (eJ (a0)), none, some (eJ (a2)), none, some (eJ (v4)), none, none, none, none, none]) (s2 := [eI (v15)]) rfl (e16 _ _) rfl ?_
      refine b_igt (t1 := 56) (t2 := 54) rfl rfl rfl (ev_w_in (by omega) (by omega)) (fun g18 => ?_) (fun g18 => ?_)
      · have b19 : 1 ≤ v15 ∧ v15 ≤ 1 := by omega
        refine w_t (np := 58) (l2 := [some (eJ (a0)), none, some (eJ (a2)), none, some (eJ (v4)), none, none, none, none, none]) (s2 := [eJ (v4)]) rfl rfl rfl ?_
        refine w_t (np := 60) (l2 := [some (eJ (a0)), none, some (eJ (a2)), none, some (eJ (v4)), none, none, none, none, none]) (s2 := [eJ (v4), eJ (v4)]) rfl rfl rfl ?_
        obtain ⟨v19, e20, b21⟩ : ∃ zz : Int, ev_W ((v4) * (v4)) = zz ∧ (-9223372036854775808 ≤ zz ∧ zz ≤ 9223372036854775807) := ⟨_, rfl, hW_bd _⟩
        refine w_t (np := 61) (l2 := [some (eJ (a0)), none, some (eJ (a2)), none, some (eJ (v4)), none, none, none, none, none]) (s2 := [eJ (v19)]) rfl (b_lmul e20) rfl ?_
        refine w_t (np := 63) (l2 := [some (eJ (a0)), none, some (eJ (a2)), none, some (eJ (v4)), none, some (eJ (v19)), none, none, none]) (s2 := []) rfl rfl rfl ?_
        refine v_l2 (np := 66) (c := 5) rfl rfl (by decide) ?_
        rw [show zJ 5 = 5 by decide]
        refine w_t (np := 67) (l2 := [some (eJ (a0)), none, some (eJ (a2)), none, some (eJ (v4)), none, some (eJ (v19)), none, none, none]) (s2 := [eJ (a2), eJ (5)]) rfl rfl rfl ?_
        obtain ⟨v22, e23, b24⟩ : ∃ zz : Int, ev_W ((5) * (a2)) = zz ∧ (-9223372036854775808 ≤ zz ∧ zz ≤ 9223372036854775807) := ⟨_, rfl, hW_bd _⟩
        refine w_t (np := 68) (l2 := [some (eJ (a0)), none, some (eJ (a2)), none, some (eJ (v4)), none, some (eJ (v19)), none, none, none]) (s2 := [eJ (v22)]) rfl (b_lmul e23) rfl ?_
        refine w_t (np := 69) (l2 := [some (eJ (a0)), none, some (eJ (a2)), none, some (eJ (v4)), none, some (eJ (v19)), none, none, none]) (s2 := [eJ (a2), eJ (v22)]) rfl rfl rfl ?_
        obtain ⟨v25, e26, b27⟩ : ∃ zz : Int, ev_W ((v22) * (a2)) = zz ∧ (-9223372036854775808 ≤ zz ∧ zz ≤ 9223372036854775807) := ⟨_, rfl, hW_bd _⟩
        refine w_t (np := 70) (l2 := [some (eJ (a0)), none, some (eJ (a2)), none, some (eJ (v4)), none, some (eJ (v19)), none, none, none]) (s2 := [eJ (v25)]) rfl (b_lmul e26) rfl ?_
        refine w_t (np := 72) (l2 := [some (eJ (a0)), none, some (eJ (a2)), none, some (eJ (v4)), none, some (eJ (v19)), none, some (eJ (v25)), none]) (s2 := []) rfl rfl rfl ?_
        refine w_t (np := 74) (l2 := [some (eJ (a0)), none, some (eJ (a2)), none, some (eJ (v4)), none, some (eJ (v19)), none, some (eJ (v25)), none]) (s2 := [eJ (v4)]) rfl rfl rfl ?_
        refine w_t (np := 75) (l2 := [some (eJ (a0)), none, some (eJ (a2)), none, some (eJ (v4)), none, some (eJ (v19)), none, some (eJ (v25)), none]) (s2 := [eJ (0), eJ (v4)]) rfl rfl rfl ?_
        obtain ⟨v28, e29, b30⟩ := h_lcmp (v4) (0)
        refine w_t (np := 76) (l2 := [some (eJ (a0)), none, some (eJ (a2)), none, some (eJ (v4)), none, some (eJ (v19)), none, some (eJ (v25)), none]) (s2 := [eI (v28)]) rfl (e29 _ _) rfl ?_
        refine b_ile (t1 := 95) (t2 := 79) rfl rfl rfl (ev_w_in (by omega) (by omega)) (fun g31 => ?_) (fun g31 => ?_)
        · have b32 : -1 ≤ v28 ∧ v28 ≤ 0 := by omega
          refine w_t (np := 97) (l2 := [some (eJ (a0)), none, some (eJ (a2)), none, some (eJ (v4)), none, some (eJ (v19)), none, some (eJ (v25)), none]) (s2 := [eJ (v25)]) rfl rfl rfl ?_
          refine w_t (np := 99) (l2 := [some (eJ (a0)), none, some (eJ (a2)), none, some (eJ (v4)), none, some (eJ (v19)), none, some (eJ (v25)), none]) (s2 := [eJ (v19), eJ (v25)]) rfl rfl rfl ?_
          obtain ⟨v32, e33, b34⟩ := h_lcmp (v25) (v19)
          refine w_t (np := 100) (l2 := [some (eJ (a0)), none, some (eJ (a2)), none, some (eJ (v4)), none, some (eJ (v19)), none, some (eJ (v25)), none]) (s2 := [eI (v32)]) rfl (e33 _ _) rfl ?_
          refine b_ile (t1 := 107) (t2 := 103) rfl rfl rfl (ev_w_in (by omega) (by omega)) (fun g35 => ?_) (fun g35 => ?_)
          · have b36 : -1 ≤ v32 ∧ v32 ≤ 0 := by omega
            refine w_t (np := 108) (l2 := [some (eJ (a0)), none, some (eJ (a2)), none, some (eJ (v4)), none, some (eJ (v19)), none, some (eJ (v25)), none]) (s2 := [eI (-1)]) rfl rfl rfl ?_
            exact b_ri rfl rfl (K (-1) (by decide))
          · have b36 : 1 ≤ v32 ∧ v32 ≤ 1 := by omega
            refine w_t (np := 104) (l2 := [some (eJ (a0)), none, some (eJ (a2)), none, some (eJ (v4)), none, some (eJ (v19)), none, some (eJ (v25)), none]) (s2 := [eI (1)]) rfl rfl rfl ?_
            refine w_go (t1 := 108) rfl rfl ?_
            exact b_ri rfl rfl (K (1) (by decide))
        · have b32 : 1 ≤ v28 ∧ v28 ≤ 1 := by omega
          refine w_t (np := 81) (l2 := [some (eJ (a0)), none, some (eJ (a2)), none, some (eJ (v4)), none, some (eJ (v19)), none, some (eJ (v25)), none]) (s2 := [eJ (v19)]) rfl rfl rfl ?_
          refine w_t (np := 83) (l2 := [some (eJ (a0)), none, some (eJ (a2)), none, some (eJ (v4)), none, some (eJ (v19)), none, some (eJ (v25)), none]) (s2 := [eJ (v25), eJ (v19)]) rfl rfl rfl ?_
          obtain ⟨v32, e33, b34⟩ := h_lcmp (v19) (v25)
          refine w_t (np := 84) (l2 := [some (eJ (a0)), none, some (eJ (a2)), none, some (eJ (v4)), none, some (eJ (v19)), none, some (eJ (v25)), none]) (s2 := [eI (v32)]) rfl (e33 _ _) rfl ?_
          refine b_ile (t1 := 91) (t2 := 87) rfl rfl rfl (ev_w_in (by omega) (by omega)) (fun g35 => ?_) (fun g35 => ?_)
          · have b36 : -1 ≤ v32 ∧ v32 ≤ 0 := by omega
            refine w_t (np := 92) (l2 := [some (eJ (a0)), none, some (eJ (a2)), none, some (eJ (v4)), none, some (eJ (v19)), none, some (eJ (v25)), none]) (s2 := [eI (-1)]) rfl rfl rfl ?_
            refine w_go (t1 := 108) rfl rfl ?_
            exact b_ri rfl rfl (K (-1) (by decide))
          · have b36 : 1 ≤ v32 ∧ v32 ≤ 1 := by omega
            refine w_t (np := 88) (l2 := [some (eJ (a0)), none, some (eJ (a2)), none, some (eJ (v4)), none, some (eJ (v19)), none, some (eJ (v25)), none]) (s2 := [eI (1)]) rfl rfl rfl ?_
            refine w_go (t1 := 108) rfl rfl ?_
            exact b_ri rfl rfl (K (1) (by decide))
      · have b19 : -1 ≤ v15 ∧ v15 ≤ 0 := by omega
        refine w_t (np := 55) (l2 := [some (eJ (a0)), none, some (eJ (a2)), none, some (eJ (v4)), none, none, none, none, none]) (s2 := [eI (-1)]) rfl rfl rfl ?_
        exact b_ri rfl rfl (K (-1) (by decide))
  · have b11 : 0 ≤ v7 ∧ v7 ≤ 1 := by omega
    refine w_t (np := 17) (l2 := [some (eJ (a0)), none, some (eJ (a2)), none, some (eJ (v4)), none, none, none, none, none]) (s2 := [eJ (a2)]) rfl rfl rfl ?_
    refine w_t (np := 18) (l2 := [some (eJ (a0)), none, some (eJ (a2)), none, some (eJ (v4)), none, none, none, none, none]) (s2 := [eJ (0), eJ (a2)]) rfl rfl rfl ?_
    obtain ⟨v11, e12, b13⟩ := h_lcmp (a2) (0)
    refine w_t (np := 19) (l2 := [some (eJ (a0)), none, some (eJ (a2)), none, some (eJ (v4)), none, none, none, none, none]) (s2 := [eI (v11)]) rfl (e12 _ _) rfl ?_
    refine b_ilt (t1 := 41) (t2 := 22) rfl rfl rfl (ev_w_in (by omega) (by omega)) (fun g14 => ?_) (fun g14 => ?_)
    · have b15 : -1 ≤ v11 ∧ v11 ≤ -1 := by omega
      refine w_t (np := 43) (l2 := [some (eJ (a0)), none, some (eJ (a2)), none, some (eJ (v4)), none, none, none, none, none]) (s2 := [eJ (v4)]) rfl rfl rfl ?_
      refine w_t (np := 44) (l2 := [some (eJ (a0)), none, some (eJ (a2)), none, some (eJ (v4)), none, none, none, none, none]) (s2 := [eJ (0), eJ (v4)]) rfl rfl rfl ?_
      obtain ⟨v15, e16, b17⟩ := h_lcmp (v4) (0)
      refine w_t (np := 45) (l2 := [some (eJ (a0)), none, some (eJ (a2)), none, some (eJ (v4)), none, none, none, none, none]) (s2 := [eI (v15)]) rfl (e16 _ _) rfl ?_
      refine b_igt (t1 := 56) (t2 := 48) rfl rfl rfl (ev_w_in (by omega) (by omega)) (fun g18 => ?_) (fun g18 => ?_)
      · have b19 : 1 ≤ v15 ∧ v15 ≤ 1 := by omega
        refine w_t (np := 58) (l2 := [some (eJ (a0)), none, some (eJ (a2)), none, some (eJ (v4)), none, none, none, none, none]) (s2 := [eJ (v4)]) rfl rfl rfl ?_
        refine w_t (np := 60) (l2 := [some (eJ (a0)), none, some (eJ (a2)), none, some (eJ (v4)), none, none, none, none, none]) (s2 := [eJ (v4), eJ (v4)]) rfl rfl rfl ?_
        obtain ⟨v19, e20, b21⟩ : ∃ zz : Int, ev_W ((v4) * (v4)) = zz ∧ (-9223372036854775808 ≤ zz ∧ zz ≤ 9223372036854775807) := ⟨_, rfl, hW_bd _⟩
        refine w_t (np := 61) (l2 := [some (eJ (a0)), none, some (eJ (a2)), none, some (eJ (v4)), none, none, none, none, none]) (s2 := [eJ (v19)]) rfl (b_lmul e20) rfl ?_
        refine w_t (np := 63) (l2 := [some (eJ (a0)), none, some (eJ (a2)), none, some (eJ (v4)), none, some (eJ (v19)), none, none, none]) (s2 := []) rfl rfl rfl ?_
        refine v_l2 (np := 66) (c := 5) rfl rfl (by decide) ?_
        rw [show zJ 5 = 5 by decide]
        refine w_t (np := 67) (l2 := [some (eJ (a0)), none, some (eJ (a2)), none, some (eJ (v4)), none, some (eJ (v19)), none, none, none]) (s2 := [eJ (a2), eJ (5)]) rfl rfl rfl ?_
        obtain ⟨v22, e23, b24⟩ : ∃ zz : Int, ev_W ((5) * (a2)) = zz ∧ (-9223372036854775808 ≤ zz ∧ zz ≤ 9223372036854775807) := ⟨_, rfl, hW_bd _⟩
        refine w_t (np := 68) (l2 := [some (eJ (a0)), none, some (eJ (a2)), none, some (eJ (v4)), none, some (eJ (v19)), none, none, none]) (s2 := [eJ (v22)]) rfl (b_lmul e23) rfl ?_
        refine w_t (np := 69) (l2 := [some (eJ (a0)), none, some (eJ (a2)), none, some (eJ (v4)), none, some (eJ (v19)), none, none, none]) (s2 := [eJ (a2), eJ (v22)]) rfl rfl rfl ?_
        obtain ⟨v25, e26, b27⟩ : ∃ zz : Int, ev_W ((v22) * (a2)) = zz ∧ (-9223372036854775808 ≤ zz ∧ zz ≤ 9223372036854775807) := ⟨_, rfl, hW_bd _⟩
        refine w_t (np := 70) (l2 := [some (eJ (a0)), none, some (eJ (a2)), none, some (eJ (v4)), none, some (eJ (v19)), none, none, none]) (s2 := [eJ (v25)]) rfl (b_lmul e26) rfl ?_
        refine w_t (np := 72) (l2 := [some (eJ (a0)), none, some (eJ (a2)), none, some (eJ (v4)), none, some (eJ (v19)), none, some (eJ (v25)), none]) (s2 := []) rfl rfl rfl ?_
        refine w_t (np := 74) (l2 := [some (eJ (a0)), none, some (eJ (a2)), none, some (eJ (v4)), none, some (eJ (v19)), none, some (eJ (v25)), none]) (s2 := [eJ (v4)]) rfl rfl rfl ?_
        refine w_t (np := 75) (l2 := [some (eJ (a0)), none, some (eJ (a2)), none, some (eJ (v4)), none, some (eJ (v19)), none, some (eJ (v25)), none]) (s2 := [eJ (0), eJ (v4)]) rfl rfl rfl ?_
        obtain ⟨v28, e29, b30⟩ := h_lcmp (v4) (0)
        refine w_t (np := 76) (l2 := [some (eJ (a0)), none, some (eJ (a2)), none, some (eJ (v4)), none, some (eJ (v19)), none, some (eJ (v25)), none]) (s2 := [eI (v28)]) rfl (e29 _ _) rfl ?_
        refine b_ile (t1 := 95) (t2 := 79) rfl rfl rfl (ev_w_in (by omega) (by omega)) (fun g31 => ?_) (fun g31 => ?_)
        · have b32 : -1 ≤ v28 ∧ v28 ≤ 0 := by omega
          refine w_t (np := 97) (l2 := [some (eJ (a0)), none, some (eJ (a2)), none, some (eJ (v4)), none, some (eJ (v19)), none, some (eJ (v25)), none]) (s2 := [eJ (v25)]) rfl rfl rfl ?_
          refine w_t (np := 99) (l2 := [some (eJ (a0)), none, some (eJ (a2)), none, some (eJ (v4)), none, some (eJ (v19)), none, some (eJ (v25)), none]) (s2 := [eJ (v19), eJ (v25)]) rfl rfl rfl ?_
          obtain ⟨v32, e33, b34⟩ := h_lcmp (v25) (v19)
          refine w_t (np := 100) (l2 := [some (eJ (a0)), none, some (eJ (a2)), none, some (eJ (v4)), none, some (eJ (v19)), none, some (eJ (v25)), none]) (s2 := [eI (v32)]) rfl (e33 _ _) rfl ?_
          refine b_ile (t1 := 107) (t2 := 103) rfl rfl rfl (ev_w_in (by omega) (by omega)) (fun g35 => ?_) (fun g35 => ?_)
          · have b36 : -1 ≤ v32 ∧ v32 ≤ 0 := by omega
            refine w_t (np := 108) (l2 := [some (eJ (a0)), none, some (eJ (a2)), none, some (eJ (v4)), none, some (eJ (v19)), none, some (eJ (v25)), none]) (s2 := [eI (-1)]) rfl rfl rfl ?_
            exact b_ri rfl rfl (K (-1) (by decide))
          · have b36 : 1 ≤ v32 ∧ v32 ≤ 1 := by omega
            refine w_t (np := 104) (l2 := [some (eJ (a0)), none, some (eJ (a2)), none, some (eJ (v4)), none, some (eJ (v19)), none, some (eJ (v25)), none]) (s2 := [eI (1)]) rfl rfl rfl ?_
            refine w_go (t1 := 108) rfl rfl ?_
            exact b_ri rfl rfl (K (1) (by decide))
        · have b32 : 1 ≤ v28 ∧ v28 ≤ 1 := by omega
          refine w_t (np := 81) (l2 := [some (eJ (a0)), none, some (eJ (a2)), none, some (eJ (v4)), none, some (eJ (v19)), none, some (eJ (v25)), none]) (s2 := [eJ (v19)]) rfl rfl rfl ?_
          refine w_t (np := 83) (l2 := [some (eJ (a0)), none, some (eJ (a2)), none, some (eJ (v4)), none, some (eJ (v19)), none, some (eJ (v25)), none]) (s2 := [eJ (v25), eJ (v19)]) rfl rfl rfl ?_
          obtain ⟨v32, e33, b34⟩ := h_lcmp (v19) (v25)
          refine w_t (np := 84) (l2 := [some (eJ (a0)), none, some (eJ (a2)), none, some (eJ (v4)), none, some (eJ (v19)), none, some (eJ (v25)), none]) (s2 := [eI (v32)]) rfl (e33 _ _) rfl ?_
          refine b_ile (t1 := 91) (t2 := 87) rfl rfl rfl (ev_w_in (by omega) (by omega)) (fun g35 => ?_) (fun g35 => ?_)
          · have b36 : -1 ≤ v32 ∧ v32 ≤ 0 := by omega
            refine w_t (np := 92) (l2 := [some (eJ (a0)), none, some (eJ (a2)), none, some (eJ (v4)), none, some (eJ (v19)), none, some (eJ (v25)), none]) (s2 := [eI (-1)]) rfl rfl rfl ?_
            refine w_go (t1 := 108) rfl rfl ?_
            exact b_ri rfl rfl (K (-1) (by decide))
          · have b36 : 1 ≤ v32 ∧ v32 ≤ 1 := by omega
            refine w_t (np := 88) (l2 := [some (eJ (a0)), none, some (eJ (a2)), none, some (eJ (v4)), none, some (eJ (v19)), none, some (eJ (v25)), none]) (s2 := [eI (1)]) rfl rfl rfl ?_
            refine w_go (t1 := 108) rfl rfl ?_
            exact b_ri rfl rfl (K (1) (by decide))
      · have b19 : -1 ≤ v15 ∧ v15 ≤ 0 := by omega
        refine w_t (np := 49) (l2 := [some (eJ (a0)), none, some (eJ (a2)), none, some (eJ (v4)), none, none, none, none, none]) (s2 := [eJ (a2)]) rfl rfl rfl ?_
        refine w_t (np := 50) (l2 := [some (eJ (a0)), none, some (eJ (a2)), none, some (eJ (v4)), none, none, none, none, none]) (s2 := [eJ (0), eJ (a2)]) rfl rfl rfl ?_
        obtain ⟨v19, e20, b21⟩ := h_lcmp (a2) (0)
        refine w_t (np := 51) (l2 := [some (eJ (a0)), none, some (eJ (a2)), none, some (eJ (v4)), none, none, none, none, none]) (s2 := [eI (v19)]) rfl (e20 _ _) rfl ?_
        refine b_igt (t1 := 56) (t2 := 54) rfl rfl rfl (ev_w_in (by omega) (by omega)) (fun g22 => ?_) (fun g22 => ?_)
        · have b23 : 1 ≤ v19 ∧ v19 ≤ 1 := by omega
          refine w_t (np := 58) (l2 := [some (eJ (a0)), none, some (eJ (a2)), none, some (eJ (v4)), none, none, none, none, none]) (s2 := [eJ (v4)]) rfl rfl rfl ?_
          refine w_t (np := 60) (l2 := [some (eJ (a0)), none, some (eJ (a2)), none, some (eJ (v4)), none, none, none, none, none]) (s2 := [eJ (v4), eJ (v4)]) rfl rfl rfl ?_
          obtain ⟨v23, e24, b25⟩ : ∃ zz : Int, ev_W ((v4) * (v4)) = zz ∧ (-9223372036854775808 ≤ zz ∧ zz ≤ 9223372036854775807) := ⟨_, rfl, hW_bd _⟩
          refine w_t (np := 61) (l2 := [some (eJ (a0)), none, some (eJ (a2)), none, some (eJ (v4)), none, none, none, none, none]) (s2 := [eJ (v23)]) rfl (b_lmul e24) rfl ?_
          refine w_t (np := 63) (l2 := [some (eJ (a0)), none, some (eJ (a2)), none, some (eJ (v4)), none, some (eJ (v23)), none, none, none]) (s2 := []) rfl rfl rfl ?_
          refine v_l2 (np := 66) (c := 5) rfl rfl (by decide) ?_
          rw [show zJ 5 = 5 by decide]
          refine w_t (np := 67) (l2 := [some (eJ (a0)), none, some (eJ (a2)), none, some (eJ (v4)), none, some (eJ (v23)), none, none, none]) (s2 := [eJ (a2), eJ (5)]) rfl rfl rfl ?_
          obtain ⟨v26, e27, b28⟩ : ∃ zz : Int, ev_W ((5) * (a2)) = zz ∧ (-9223372036854775808 ≤ zz ∧ zz ≤ 9223372036854775807) := ⟨_, rfl, hW_bd _⟩
          refine w_t (np := 68) (l2 := [some (eJ (a0)), none, some (eJ (a2)), none, some (eJ (v4)), none, some (eJ (v23)), none, none, none]) (s2 := [eJ (v26)]) rfl (b_lmul e27) rfl ?_
          refine w_t (np := 69) (l2 := [some (eJ (a0)), none, some (eJ (a2)), none, some (eJ (v4)), none, some (eJ (v23)), none, none, none]) (s2 := [eJ (a2), eJ (v26)]) rfl rfl rfl ?_
          obtain ⟨v29, e30, b31⟩ : ∃ zz : Int, ev_W ((v26) * (a2)) = zz ∧ (-9223372036854775808 ≤ zz ∧ zz ≤ 9223372036854775807) := ⟨_, rfl, hW_bd _⟩
          refine w_t (np := 70) (l2 := [some (eJ (a0)), none, some (eJ (a2)), none, some (eJ (v4)), none, some (eJ (v23)), none, none, none]) (s2 := [eJ (v29)]) rfl (b_lmul e30) rfl ?_
          refine w_t (np := 72) (l2 := [some (eJ (a0)), none, some (eJ (a2)), none, some (eJ (v4)), none, some (eJ (v23)), none, some (eJ (v29)), none]) (s2 := []) rfl rfl rfl ?_
          refine w_t (np := 74) (l2 := [some (eJ (a0)), none, some (eJ (a2)), none, some (eJ (v4)), none, some (eJ (v23)), none, some (eJ (v29)), none]) (s2 := [eJ (v4)]) rfl rfl rfl ?_
          refine w_t (np := 75) (l2 := [some (eJ (a0)), none, some (eJ (a2)), none, some (eJ (v4)), none, some (eJ (v23)), none, some (eJ (v29)), none]) (s2 := [eJ (0), eJ (v4)]) rfl rfl rfl ?_
          obtain ⟨v32, e33, b34⟩ := h_lcmp (v4) (0)
          refine w_t (np := 76) (l2 := [some (eJ (a0)), none, some (eJ (a2)), none, some (eJ (v4)), none, some (eJ (v23)), none, some (eJ (v29)), none]) (s2 := [eI (v32)]) rfl (e33 _ _) rfl ?_
          refine b_ile (t1 := 95) (t2 := 79) rfl rfl rfl (ev_w_in (by omega) (by omega)) (fun g35 => ?_) (fun g35 => ?_)
          · have b36 : -1 ≤ v32 ∧ v32 ≤ 0 := by omega
            refine w_t (np := 97) (l2 := [some (eJ (a0)), none, some (eJ (a2)), none, some (eJ (v4)), none, some (eJ (v23)), none, some (eJ (v29)), none]) (s2 := [eJ (v29)]) rfl rfl rfl ?_
            refine w_t (np := 99) (l2 := [some (eJ (a0)), none, some (eJ (a2)), none, some (eJ (v4)), none, some (eJ (v23)), none, some (eJ (v29)), none]) (s2 := [eJ (v23), eJ (v29)]) rfl rfl rfl ?_
            obtain ⟨v36, e37, b38⟩ := h_lcmp (v29) (v23)
            refine w_t (np := 100) (l2 := [some (eJ (a0)), none, some (eJ (a2)), none, some (eJ (v4)), none, some (eJ (v23)), none, some (eJ (v29)), none]) (s2 := [eI (v36)]) rfl (e37 _ _) rfl ?_
            refine b_ile (t1 := 107) (t2 := 103) rfl rfl rfl (ev_w_in (by omega) (by omega)) (fun g39 => ?_) (fun g39 => ?_)
            · have b40 : -1 ≤ v36 ∧ v36 ≤ 0 := by omega
              refine w_t (np := 108) (l2 := [some (eJ (a0)), none, some (eJ (a2)), none, some (eJ (v4)), none, some (eJ (v23)), none, some (eJ (v29)), none]) (s2 := [eI (-1)]) rfl rfl rfl ?_
              exact b_ri rfl rfl (K (-1) (by decide))
            · have b40 : 1 ≤ v36 ∧ v36 ≤ 1 := by omega
              refine w_t (np := 104) (l2 := [some (eJ (a0)), none, some (eJ (a2)), none, some (eJ (v4)), none, some (eJ (v23)), none, some (eJ (v29)), none]) (s2 := [eI (1)]) rfl rfl rfl ?_
              refine w_go (t1 := 108) rfl rfl ?_
              exact b_ri rfl rfl (K (1) (by decide))
          · have b36 : 1 ≤ v32 ∧ v32 ≤ 1 := by omega
            refine w_t (np := 81) (l2 := [some (eJ (a0)), none, some (eJ (a2)), none, some (eJ (v4)), none, some (eJ (v23)), none, some (eJ (v29)), none]) (s2 := [eJ (v23)]) rfl rfl rfl ?_
            refine w_t (np := 83) (l2 := [some (eJ (a0)), none, some (eJ (a2)), none, some (eJ (v4)), none, some (eJ (v23)), none, some (eJ (v29)), none]) (s2 := [eJ (v29), eJ (v23)]) rfl rfl rfl ?_
            obtain ⟨v36, e37, b38⟩ := h_lcmp (v23) (v29)
            refine w_t (np := 84) (l2 := [some (eJ (a0)), none, some (eJ (a2)), none, some (eJ (v4)), none, some (eJ (v23)), none, some (eJ (v29)), none]) (s2 := [eI (v36)]) rfl (e37 _ _) rfl ?_
            refine b_ile (t1 := 91) (t2 := 87) rfl rfl rfl (ev_w_in (by omega) (by omega)) (fun g39 => ?_) (fun g39 => ?_)
            · have b40 : -1 ≤ v36 ∧ v36 ≤ 0 := by omega
              refine w_t (np := 92) (l2 := [some (eJ (a0)), none, some (eJ (a2)), none, some (eJ (v4)), none, some (eJ (v23)), none, some (eJ (v29)), none]) (s2 := [eI (-1)]) rfl rfl rfl ?_
              refine w_go (t1 := 108) rfl rfl ?_
              exact b_ri rfl rfl (K (-1) (by decide))
            · have b40 : 1 ≤ v36 ∧ v36 ≤ 1 := by omega
              refine w_t (np := 88) (l2 := [some (eJ (a0)), none, some (eJ (a2)), none, some (eJ (v4)), none, some (eJ (v23)), none, some (eJ (v29)), none]) (s2 := [eI (1)]) rfl rfl rfl ?_
              refine w_go (t1 := 108) rfl rfl ?_
              exact b_ri rfl rfl (K (1) (by decide))
        · have b23 : -1 ≤ v19 ∧ v19 ≤ 0 := by omega
          refine w_t (np := 55) (l2 := [some (eJ (a0)), none, some (eJ (a2)), none, some (eJ (v4)), none, none, none, none, none]) (s2 := [eI (-1)]) rfl rfl rfl ?_
          exact b_ri rfl rfl (K (-1) (by decide))
    · have b15 : 0 ≤ v11 ∧ v11 ≤ 1 := by omega
      refine w_t (np := 24) (l2 := [some (eJ (a0)), none, some (eJ (a2)), none, some (eJ (v4)), none, none, none, none, none]) (s2 := [eJ (v4)]) rfl rfl rfl ?_
      refine w_t (np := 25) (l2 := [some (eJ (a0)), none, some (eJ (a2)), none, some (eJ (v4)), none, none, none, none, none]) (s2 := [eJ (0), eJ (v4)]) rfl rfl rfl ?_
      obtain ⟨v15, e16, b17⟩ := h_lcmp (v4) (0)
      refine w_t (np := 26) (l2 := [some (eJ (a0)), none, some (eJ (a2)), none, some (eJ (v4)), none, none, none, none, none]) (s2 := [eI (v15)]) rfl (e16 _ _) rfl ?_
      refine b_ine (t1 := 39) (t2 := 29) rfl rfl rfl (ev_w_in (by omega) (by omega)) (fun g18 => ?_) (fun g18 => ?_)
      · refine w_t (np := 40) (l2 := [some (eJ (a0)), none, some (eJ (a2)), none, some (eJ (v4)), none, none, none, none, none]) (s2 := [eI (1)]) rfl rfl rfl ?_
        exact b_ri rfl rfl (K (1) (by decide))
      · have b19 : 0 ≤ v15 ∧ v15 ≤ 0 := by omega
        refine w_t (np := 30) (l2 := [some (eJ (a0)), none, some (eJ (a2)), none, some (eJ (v4)), none, none, none, none, none]) (s2 := [eJ (a2)]) rfl rfl rfl ?_
        refine w_t (np := 31) (l2 := [some (eJ (a0)), none, some (eJ (a2)), none, some (eJ (v4)), none, none, none, none, none]) (s2 := [eJ (0), eJ (a2)]) rfl rfl rfl ?_
        obtain ⟨v19, e20, b21⟩ := h_lcmp (a2) (0)
        refine w_t (np := 32) (l2 := [some (eJ (a0)), none, some (eJ (a2)), none, some (eJ (v4)), none, none, none, none, none]) (s2 := [eI (v19)]) rfl (e20 _ _) rfl ?_
        refine b_ine (t1 := 39) (t2 := 35) rfl rfl rfl (ev_w_in (by omega) (by omega)) (fun g22 => ?_) (fun g22 => ?_)
        · refine w_t (np := 40) (l2 := [some (eJ (a0)), none, some (eJ (a2)), none, some (eJ (v4)), none, none, none, none, none]) (s2 := [eI (1)]) rfl rfl rfl ?_
          exact b_ri rfl rfl (K (1) (by decide))
        · have b23 : 0 ≤ v19 ∧ v19 ≤ 0 := by omega
          refine w_t (np := 36) (l2 := [some (eJ (a0)), none, some (eJ (a2)), none, some (eJ (v4)), none, none, none, none, none]) (s2 := [eI (0)]) rfl rfl rfl ?_
          refine w_go (t1 := 40) rfl rfl ?_
          exact b_ri rfl rfl (K (0) (by decide))
def l_223 : List Nat := [13315, 13316, 13317, 13318]
theorem s_223 {L : Nat} {ρ : Nat → Int} {rc : eQ} {d : Nat} {f : eFr} {F : List eFr} {μ : eM} {g : Nat → Nat} {a0 : Nat} {a1 : Int} {a3 : Int} {a5 : Int} {a7 : Int} (hI : SI g μ) (gA0 : g a0 = 52) (bA1 : -9223372036854775808 ≤ a1 ∧ a1 ≤ 9223372036854775807) (bA3 : -9223372036854775808 ≤ a3 ∧ a3 ≤ 9223372036854775807) (bA5 : -9223372036854775808 ≤ a5 ∧ a5 ≤ 9223372036854775807) (bA7 : -9223372036854775808 ≤ a7 ∧ a7 ≤ 9223372036854775807) (K : ∀ (μ2 : eM), SI g μ2 → Fr l_223 0 0 g μ μ2 → ex_q (dt_fg L ρ) rc (d + 3, (f.1, f.2.1, f.2.2.1, f.2.2.2), F, μ2)) : ex_q (dt_fg L ρ) rc (d + 2, (223, 0, [some (eR a0), some (eJ (a1)), none, some (eJ (a3)), none, some (eJ (a5)), none, some (eJ (a7)), none, none, none, none, none, none, none, none, none, none, none, none, none, none, none, none, none], []), f :: F, μ) := by
  have F0 : Fr l_223 0 0 g μ μ := Fr.r
  refine w_t (np := 1) (l2 := [some (eR a0), some (eJ (a1)), none, some (eJ (a3)), none, some (eJ (a5)), none, some (eJ (a7)), none, none, none, none, none, none, none, none, none, none, none, none, none, none, none, none, none]) (s2 := [eR a0]) rfl (s_an rfl (pos_g hI gA0 (by decide))) rfl ?_
  refine w_cw (np := 4) (as := []) (l2 := [some (eR a0)]) (rest := []) rfl rfl rfl (Nat.ble_eq.mp rfl) rfl rfl rfl (hI.kd gA0 (by decide) (n := 69) rfl) rfl ?_
  refine s_221 hI gA0 ?_
  intro m1 I2 F3
  have F4 : Fr l_223 0 0 g μ m1 := F0.t F3 rfl
  show ex_q (dt_fg L ρ) rc (d + 2, (223, 4, [some (eR a0), some (eJ (a1)), none, some (eJ (a3)), none, some (eJ (a5)), none, some (eJ (a7)), none, none, none, none, none, none, none, none, none, none, none, none, none, none, none, none, none], []), f :: F, m1)
  refine w_t (np := 5) (l2 := [some (eR a0), some (eJ (a1)), none, some (eJ (a3)), none, some (eJ (a5)), none, some (eJ (a7)), none, none, none, none, none, none, none, none, none, none, none, none, none, none, none, none, none]) (s2 := [eR a0]) rfl (s_an rfl (pos_g I2 gA0 (by decide))) rfl ?_
  refine j_gj (np := 8) rfl rfl I2 gA0 (by decide) (n := 69) rfl rfl (lo := -9223372036854775808) (hi := 9223372036854775807) rfl ?_
  intro v5 e6 b7
  refine w_t (np := 10) (l2 := [some (eR a0), some (eJ (a1)), none, some (eJ (a3)), none, some (eJ (a5)), none, some (eJ (a7)), none, some (eJ (v5)), none, none, none, none, none, none, none, none, none, none, none, none, none, none, none]) (s2 := []) rfl rfl rfl ?_
  refine w_t (np := 11) (l2 := [some (eR a0), some (eJ (a1)), none, some (eJ (a3)), none, some (eJ (a5)), none, some (eJ (a7)), none, some (eJ (v5)), none, none, none, none, none, none, none, none, none, none, none, none, none, none, none]) (s2 := [eR a0]) rfl (s_an rfl (pos_g I2 gA0 (by decide))) rfl ?_
  refine j_gj (np := 14) rfl rfl I2 gA0 (by decide) (n := 69) rfl rfl (lo := -9223372036854775808) (hi := 9223372036854775807) rfl ?_
  intro v8 e9 b10
  refine w_t (np := 16) (l2 := [some (eR a0), some (eJ (a1)), none, some (eJ (a3)), none, some (eJ (a5)), none, some (eJ (a7)), none, some (eJ (v5)), none, some (eJ (v8)), none, none, none, none, none, none, none, none, none, none, none, none, none]) (s2 := []) rfl rfl rfl ?_
  refine w_t (np := 17) (l2 := [some (eR a0), some (eJ (a1)), none, some (eJ (a3)), none, some (eJ (a5)), none, some (eJ (a7)), none, some (eJ (v5)), none, some (eJ (v8)), none, none, none, none, none, none, none, none, none, none, none, none, none]) (s2 := [eR a0]) rfl (s_an rfl (pos_g I2 gA0 (by decide))) rfl ?_
  refine j_gj (np := 20) rfl rfl I2 gA0 (by decide) (n := 69) rfl rfl (lo := -9223372036854775808) (hi := 9223372036854775807) rfl ?_
  intro v11 e12 b13
  refine w_t (np := 22) (l2 := [some (eR a0), some (eJ (a1)), none, some (eJ (a3)), none, some (eJ (a5)), none, some (eJ (a7)), none, some (eJ (v5)), none, some (eJ (v8)), none, some (eJ (v11)), none, none, none, none, none, none, none, none, none, none, none]) (s2 := []) rfl rfl rfl ?_
  refine w_t (np := 23) (l2 := [some (eR a0), some (eJ (a1)), none, some (eJ (a3)), none, some (eJ (a5)), none, some (eJ (a7)), none, some (eJ (v5)), none, some (eJ (v8)), none, some (eJ (v11)), none, none, none, none, none, none, none, none, none, none, none]) (s2 := [eR a0]) rfl (s_an rfl (pos_g I2 gA0 (by decide))) rfl ?_
  refine j_gj (np := 26) rfl rfl I2 gA0 (by decide) (n := 69) rfl rfl (lo := -9223372036854775808) (hi := 9223372036854775807) rfl ?_
  intro v14 e15 b16
  refine w_t (np := 28) (l2 := [some (eR a0), some (eJ (a1)), none, some (eJ (a3)), none, some (eJ (a5)), none, some (eJ (a7)), none, some (eJ (v5)), none, some (eJ (v8)), none, some (eJ (v11)), none, some (eJ (v14)), none, none, none, none, none, none, none, none, none]) (s2 := []) rfl rfl rfl ?_
  refine w_t (np := 29) (l2 := [some (eR a0), some (eJ (a1)), none, some (eJ (a3)), none, some (eJ (a5)), none, some (eJ (a7)), none, some (eJ (v5)), none, some (eJ (v8)), none, some (eJ (v11)), none, some (eJ (v14)), none, none, none, none, none, none, none, none, none]) (s2 := [eR a0]) rfl (s_an rfl (pos_g I2 gA0 (by decide))) rfl ?_
  refine w_t (np := 30) (l2 := [some (eR a0), some (eJ (a1)), none, some (eJ (a3)), none, some (eJ (a5)), none, some (eJ (a7)), none, some (eJ (v5)), none, some (eJ (v8)), none, some (eJ (v11)), none, some (eJ (v14)), none, none, none, none, none, none, none, none, none]) (s2 := [eJ (a1), eR a0]) rfl rfl rfl ?_
  refine w_t (np := 31) (l2 := [some (eR a0), some (eJ (a1)), none, some (eJ (a3)), none, some (eJ (a5)), none, some (eJ (a7)), none, some (eJ (v5)), none, some (eJ (v8)), none, some (eJ (v11)), none, some (eJ (v14)), none, none, none, none, none, none, none, none, none]) (s2 := [eJ (a3), eJ (a1), eR a0]) rfl rfl rfl ?_
  refine w_t (np := 33) (l2 := [some (eR a0), some (eJ (a1)), none, some (eJ (a3)), none, some (eJ (a5)), none, some (eJ (a7)), none, some (eJ (v5)), none, some (eJ (v8)), none, some (eJ (v11)), none, some (eJ (v14)), none, none, none, none, none, none, none, none, none]) (s2 := [eJ (a5), eJ (a3), eJ (a1), eR a0]) rfl rfl rfl ?_
  refine w_t (np := 35) (l2 := [some (eR a0), some (eJ (a1)), none, some (eJ (a3)), none, some (eJ (a5)), none, some (eJ (a7)), none, some (eJ (v5)), none, some (eJ (v8)), none, some (eJ (v11)), none, some (eJ (v14)), none, none, none, none, none, none, none, none, none]) (s2 := [eJ (a7), eJ (a5), eJ (a3), eJ (a1), eR a0]) rfl rfl rfl ?_
  refine w_cw (np := 38) (as := [eJ (a1), eJ (a3), eJ (a5), eJ (a7)]) (l2 := [some (eR a0), some (eJ (a1)), none, some (eJ (a3)), none, some (eJ (a5)), none, some (eJ (a7)), none]) (rest := []) rfl rfl rfl (Nat.ble_eq.mp rfl) rfl rfl rfl (I2.kd gA0 (by decide) (n := 69) rfl) rfl ?_
  refine s_219 I2 gA0 bA1 bA3 bA5 bA7 ?_
  intro m17 I18 F19
  have F20 : Fr l_223 0 0 g μ m17 := F4.t F19 rfl
  show ex_q (dt_fg L ρ) rc (d + 2, (223, 38, [some (eR a0), some (eJ (a1)), none, some (eJ (a3)), none, some (eJ (a5)), none, some (eJ (a7)), none, some (eJ (v5)), none, some (eJ (v8)), none, some (eJ (v11)), none, some (eJ (v14)), none, none, none, none, none, none, none, none, none], []), f :: F, m17)
  refine w_t (np := 40) (l2 := [some (eR a0), some (eJ (a1)), none, some (eJ (a3)), none, some (eJ (a5)), none, some (eJ (a7)), none, some (eJ (v5)), none, some (eJ (v8)), none, some (eJ (v11)), none, some (eJ (v14)), none, none, none, none, none, none, none, none, none]) (s2 := [eJ (v5)]) rfl rfl rfl ?_
  refine w_t (np := 41) (l2 := [some (eR a0), some (eJ (a1)), none, some (eJ (a3)), none, some (eJ (a5)), none, some (eJ (a7)), none, some (eJ (v5)), none, some (eJ (v8)), none, some (eJ (v11)), none, some (eJ (v14)), none, none, none, none, none, none, none, none, none]) (s2 := [eR a0, eJ (v5)]) rfl (s_an rfl (pos_g I18 gA0 (by decide))) rfl ?_
  refine j_gj (np := 44) rfl rfl I18 gA0 (by decide) (n := 69) rfl rfl (lo := -9223372036854775808) (hi := 9223372036854775807) rfl ?_
  intro v21 e22 b23
  obtain ⟨v24, e25, b26⟩ : ∃ zz : Int, ev_W ((v5) * (v21)) = zz ∧ (-9223372036854775808 ≤ zz ∧ zz ≤ 9223372036854775807) := ⟨_, rfl, hW_bd _⟩
  refine w_t (np := 45) (l2 := [some (eR a0), some (eJ (a1)), none, some (eJ (a3)), none, some (eJ (a5)), none, some (eJ (a7)), none, some (eJ (v5)), none, some (eJ (v8)), none, some (eJ (v11)), none, some (eJ (v14)), none, none, none, none, none, none, none, none, none]) (s2 := [eJ (v24)]) rfl (b_lmul e25) rfl ?_
  refine w_t (np := 47) (l2 := [some (eR a0), some (eJ (a1)), none, some (eJ (a3)), none, some (eJ (a5)), none, some (eJ (a7)), none, some (eJ (v5)), none, some (eJ (v8)), none, some (eJ (v11)), none, some (eJ (v14)), none, some (eJ (v24)), none, none, none, none, none, none, none]) (s2 := []) rfl rfl rfl ?_
  refine w_t (np := 49) (l2 := [some (eR a0), some (eJ (a1)), none, some (eJ (a3)), none, some (eJ (a5)), none, some (eJ (a7)), none, some (eJ (v5)), none, some (eJ (v8)), none, some (eJ (v11)), none, some (eJ (v14)), none, some (eJ (v24)), none, none, none, none, none, none, none]) (s2 := [eJ (v5)]) rfl rfl rfl ?_
  refine w_t (np := 50) (l2 := [some (eR a0), some (eJ (a1)), none, some (eJ (a3)), none, some (eJ (a5)), none, some (eJ (a7)), none, some (eJ (v5)), none, some (eJ (v8)), none, some (eJ (v11)), none, some (eJ (v14)), none, some (eJ (v24)), none, none, none, none, none, none, none]) (s2 := [eR a0, eJ (v5)]) rfl (s_an rfl (pos_g I18 gA0 (by decide))) rfl ?_
  refine j_gj (np := 53) rfl rfl I18 gA0 (by decide) (n := 69) rfl rfl (lo := -9223372036854775808) (hi := 9223372036854775807) rfl ?_
  intro v27 e28 b29
  obtain ⟨v30, e31, b32⟩ : ∃ zz : Int, ev_W ((v5) * (v27)) = zz ∧ (-9223372036854775808 ≤ zz ∧ zz ≤ 9223372036854775807) := ⟨_, rfl, hW_bd _⟩
  refine w_t (np := 54) (l2 := [some (eR a0), some (eJ (a1)), none, some (eJ (a3)), none, some (eJ (a5)), none, some (eJ (a7)), none, some (eJ (v5)), none, some (eJ (v8)), none, some (eJ (v11)), none, some (eJ (v14)), none, some (eJ (v24)), none, none, none, none, none, none, none]) (s2 := [eJ (v30)]) rfl (b_lmul e31) rfl ?_
  refine w_t (np := 56) (l2 := [some (eR a0), some (eJ (a1)), none, some (eJ (a3)), none, some (eJ (a5)), none, some (eJ (a7)), none, some (eJ (v5)), none, some (eJ (v8)), none, some (eJ (v11)), none, some (eJ (v14)), none, some (eJ (v24)), none, some (eJ (v30)), none, none, none, none, none]) (s2 := []) rfl rfl rfl ?_
  refine w_t (np := 58) (l2 := [some (eR a0), some (eJ (a1)), none, some (eJ (a3)), none, some (eJ (a5)), none, some (eJ (a7)), none, some (eJ (v5)), none, some (eJ (v8)), none, some (eJ (v11)), none, some (eJ (v14)), none, some (eJ (v24)), none, some (eJ (v30)), none, none, none, none, none]) (s2 := [eJ (v5)]) rfl rfl rfl ?_
  refine w_t (np := 59) (l2 := [some (eR a0), some (eJ (a1)), none, some (eJ (a3)), none, some (eJ (a5)), none, some (eJ (a7)), none, some (eJ (v5)), none, some (eJ (v8)), none, some (eJ (v11)), none, some (eJ (v14)), none, some (eJ (v24)), none, some (eJ (v30)), none, none, none, none, none]) (s2 := [eR a0, eJ (v5)]) rfl (s_an rfl (pos_g I18 gA0 (by decide))) rfl ?_
  refine j_gj (np := 62) rfl rfl I18 gA0 (by decide) (n := 69) rfl rfl (lo := -9223372036854775808) (hi := 9223372036854775807) rfl ?_
  intro v33 e34 b35
  obtain ⟨v36, e37, b38⟩ : ∃ zz : Int, ev_W ((v5) * (v33)) = zz ∧ (-9223372036854775808 ≤ zz ∧ zz ≤ 9223372036854775807) := ⟨_, rfl, hW_bd _⟩
  refine w_t (np := 63) (l2 := [some (eR a0), some (eJ (a1)), none, some (eJ (a3)), none, some (eJ (a5)), none, some (eJ (a7)), none, some (eJ (v5)), none, some (eJ (v8)), none, some (eJ (v11)), none, some (eJ (v14)), none, some (eJ (v24)), none, some (eJ (v30)), none, none, none, none, none]) (s2 := [eJ (v36)]) rfl (b_lmul e37) rfl ?_
  refine w_t (np := 65) (l2 := [some (eR a0), some (eJ (a1)), none, some (eJ (a3)), none, some (eJ (a5)), none, some (eJ (a7)), none, some (eJ (v5)), none, some (eJ (v8)), none, some (eJ (v11)), none, some (eJ (v14)), none, some (eJ (v24)), none, some (eJ (v30)), none, some (eJ (v36)), none, none, none]) (s2 := []) rfl rfl rfl ?_
  refine w_t (np := 67) (l2 := [some (eR a0), some (eJ (a1)), none, some (eJ (a3)), none, some (eJ (a5)), none, some (eJ (a7)), none, some (eJ (v5)), none, some (eJ (v8)), none, some (eJ (v11)), none, some (eJ (v14)), none, some (eJ (v24)), none, some (eJ (v30)), none, some (eJ (v36)), none, none, none]) (s2 := [eJ (v5)]) rfl rfl rfl ?_
  refine w_t (np := 68) (l2 := [some (eR a0), some (eJ (a1)), none, some (eJ (a3)), none, some (eJ (a5)), none, some (eJ (a7)), none, some (eJ (v5)), none, some (eJ (v8)), none, some (eJ (v11)), none, some (eJ (v14)), none, some (eJ (v24)), none, some (eJ (v30)), none, some (eJ (v36)), none, none, none]) (s2 := [eR a0, eJ (v5)]) rfl (s_an rfl (pos_g I18 gA0 (by decide))) rfl ?_
  refine j_gj (np := 71) rfl rfl I18 gA0 (by decide) (n := 69) rfl rfl (lo := -9223372036854775808) (hi := 9223372036854775807) rfl ?_
  intro v39 e40 b41
  obtain ⟨v42, e43, b44⟩ : ∃ zz : Int, ev_W ((v5) * (v39)) = zz ∧ (-9223372036854775808 ≤ zz ∧ zz ≤ 9223372036854775807) := ⟨_, rfl, hW_bd _⟩
  refine w_t (np := 72) (l2 := [some (eR a0), some (eJ (a1)), none, some (eJ (a3)), none, some (eJ (a5)), none, some (eJ (a7)), none, some (eJ (v5)), none, some (eJ (v8)), none, some (eJ (v11)), none, some (eJ (v14)), none, some (eJ (v24)), none, some (eJ (v30)), none, some (eJ (v36)), none, none, none]) (s2 := [eJ (v42)]) rfl (b_lmul e43) rfl ?_
  refine w_t (np := 74) (l2 := [some (eR a0), some (eJ (a1)), none, some (eJ (a3)), none, some (eJ (a5)), none, some (eJ (a7)), none, some (eJ (v5)), none, some (eJ (v8)), none, some (eJ (v11)), none, some (eJ (v14)), none, some (eJ (v24)), none, some (eJ (v30)), none, some (eJ (v36)), none, some (eJ (v42)), none]) (s2 := []) rfl rfl rfl ?_
  refine w_t (np := 75) (l2 := [some (eR a0), some (eJ (a1)), none, some (eJ (a3)), none, some (eJ (a5)), none, some (eJ (a7)), none, some (eJ (v5)), none, some (eJ (v8)), none, some (eJ (v11)), none, some (eJ (v14)), none, some (eJ (v24)), none, some (eJ (v30)), none, some (eJ (v36)), none, some (eJ (v42)), none]) (s2 := [eR a0]) rfl (s_an rfl (pos_g I18 gA0 (by decide))) rfl ?_
  refine w_cw (np := 78) (as := []) (l2 := [some (eR a0)]) (rest := []) rfl rfl rfl (Nat.ble_eq.mp rfl) rfl rfl rfl (I18.kd gA0 (by decide) (n := 69) rfl) rfl ?_
  refine s_220 I18 gA0 ?_
  intro m45 I46 F47
  have F48 : Fr l_223 0 0 g μ m45 := F20.t F47 rfl
  show ex_q (dt_fg L ρ) rc (d + 2, (223, 78, [some (eR a0), some (eJ (a1)), none, some (eJ (a3)), none, some (eJ (a5)), none, some (eJ (a7)), none, some (eJ (v5)), none, some (eJ (v8)), none, some (eJ (v11)), none, some (eJ (v14)), none, some (eJ (v24)), none, some (eJ (v30)), none, some (eJ (v36)), none, some (eJ (v42)), none], []), f :: F, m45)
  refine w_t (np := 80) (l2 := [some (eR a0), some (eJ (a1)), none, some (eJ (a3)), none, some (eJ (a5)), none, some (eJ (a7)), none, some (eJ (v5)), none, some (eJ (v8)), none, some (eJ (v11)), none, some (eJ (v14)), none, some (eJ (v24)), none, some (eJ (v30)), none, some (eJ (v36)), none, some (eJ (v42)), none]) (s2 := [eJ (v24)]) rfl rfl rfl ?_
  refine w_t (np := 82) (l2 := [some (eR a0), some (eJ (a1)), none, some (eJ (a3)), none, some (eJ (a5)), none, some (eJ (a7)), none, some (eJ (v5)), none, some (eJ (v8)), none, some (eJ (v11)), none, some (eJ (v14)), none, some (eJ (v24)), none, some (eJ (v30)), none, some (eJ (v36)), none, some (eJ (v42)), none]) (s2 := [eJ (v8), eJ (v24)]) rfl rfl rfl ?_
  refine w_t (np := 83) (l2 := [some (eR a0), some (eJ (a1)), none, some (eJ (a3)), none, some (eJ (a5)), none, some (eJ (a7)), none, some (eJ (v5)), none, some (eJ (v8)), none, some (eJ (v11)), none, some (eJ (v14)), none, some (eJ (v24)), none, some (eJ (v30)), none, some (eJ (v36)), none, some (eJ (v42)), none]) (s2 := [eR a0, eJ (v8), eJ (v24)]) rfl (s_an rfl (pos_g I46 gA0 (by decide))) rfl ?_
  refine j_gj (np := 86) rfl rfl I46 gA0 (by decide) (n := 69) rfl rfl (lo := -9223372036854775808) (hi := 9223372036854775807) rfl ?_
  intro v49 e50 b51
  obtain ⟨v52, e53, b54⟩ : ∃ zz : Int, ev_W ((v8) * (v49)) = zz ∧ (-9223372036854775808 ≤ zz ∧ zz ≤ 9223372036854775807) := ⟨_, rfl, hW_bd _⟩
  refine w_t (np := 87) (l2 := [some (eR a0), some (eJ (a1)), none, some (eJ (a3)), none, some (eJ (a5)), none, some (eJ (a7)), none, some (eJ (v5)), none, some (eJ (v8)), none, some (eJ (v11)), none, some (eJ (v14)), none, some (eJ (v24)), none, some (eJ (v30)), none, some (eJ (v36)), none, some (eJ (v42)), none]) (s2 := [eJ (v52), eJ (v24)]) rfl (b_lmul e53) rfl ?_
  obtain ⟨v55, e56, b57⟩ : ∃ zz : Int, ev_W ((v24) + (v52)) = zz ∧ (-9223372036854775808 ≤ zz ∧ zz ≤ 9223372036854775807) := ⟨_, rfl, hW_bd _⟩
  refine w_t (np := 88) (l2 := [some (eR a0), some (eJ (a1)), none, some (eJ (a3)), none, some (eJ (a5)), none, some (eJ (a7)), none, some (eJ (v5)), none, some (eJ (v8)), none, some (eJ (v11)), none, some (eJ (v14)), none, some (eJ (v24)), none, some (eJ (v30)), none, some (eJ (v36)), none, some (eJ (v42)), none]) (s2 := [eJ (v55)]) rfl (b_ladd e56) rfl ?_
  refine w_t (np := 90) (l2 := [some (eR a0), some (eJ (a1)), none, some (eJ (a3)), none, some (eJ (a5)), none, some (eJ (a7)), none, some (eJ (v5)), none, some (eJ (v8)), none, some (eJ (v11)), none, some (eJ (v14)), none, some (eJ (v55)), none, some (eJ (v30)), none, some (eJ (v36)), none, some (eJ (v42)), none]) (s2 := []) rfl rfl rfl ?_
  refine w_t (np := 92) (l2 := [some (eR a0), some (eJ (a1)), none, some (eJ (a3)), none, some (eJ (a5)), none, some (eJ (a7)), none, some (eJ (v5)), none, some (eJ (v8)), none, some (eJ (v11)), none, some (eJ (v14)), none, some (eJ (v55)), none, some (eJ (v30)), none, some (eJ (v36)), none, some (eJ (v42)), none]) (s2 := [eJ (v30)]) rfl rfl rfl ?_
  refine w_t (np := 94) (l2 := [some (eR a0), some (eJ (a1)), none, some (eJ (a3)), none, some (eJ (a5)), none, some (eJ (a7)), none, some (eJ (v5)), none, some (eJ (v8)), none, some (eJ (v11)), none, some (eJ (v14)), none, some (eJ (v55)), none, some (eJ (v30)), none, some (eJ (v36)), none, some (eJ (v42)), none]) (s2 := [eJ (v8), eJ (v30)]) rfl rfl rfl ?_
  refine w_t (np := 95) (l2 := [some (eR a0), some (eJ (a1)), none, some (eJ (a3)), none, some (eJ (a5)), none, some (eJ (a7)), none, some (eJ (v5)), none, some (eJ (v8)), none, some (eJ (v11)), none, some (eJ (v14)), none, some (eJ (v55)), none, some (eJ (v30)), none, some (eJ (v36)), none, some (eJ (v42)), none]) (s2 := [eR a0, eJ (v8), eJ (v30)]) rfl (s_an rfl (pos_g I46 gA0 (by decide))) rfl ?_
  refine j_gj (np := 98) rfl rfl I46 gA0 (by decide) (n := 69) rfl rfl (lo := -9223372036854775808) (hi := 9223372036854775807) rfl ?_
  intro v58 e59 b60
  obtain ⟨v61, e62, b63⟩ : ∃ zz : Int, ev_W ((v8) * (v58)) = zz ∧ (-9223372036854775808 ≤ zz ∧ zz ≤ 9223372036854775807) := ⟨_, rfl, hW_bd _⟩
  refine w_t (np := 99) (l2 := [some (eR a0), some (eJ (a1)), none, some (eJ (a3)), none, some (eJ (a5)), none, some (eJ (a7)), none, some (eJ (v5)), none, some (eJ (v8)), none, some (eJ (v11)), none, some (eJ (v14)), none, some (eJ (v55)), none, some (eJ (v30)), none, some (eJ (v36)), none, some (eJ (v42)), none]) (s2 := [eJ (v61), eJ (v30)]) rfl (b_lmul e62) rfl ?_
  obtain ⟨v64, e65, b66⟩ : ∃ zz : Int, ev_W ((v30) + (v61)) = zz ∧ (-9223372036854775808 ≤ zz ∧ zz ≤ 9223372036854775807) := ⟨_, rfl, hW_bd _⟩
  refine w_t (np := 100) (l2 := [some (eR a0), some (eJ (a1)), none, some (eJ (a3)), none, some (eJ (a5)), none, some (eJ (a7)), none, some (eJ (v5)), none, some (eJ (v8)), none, some (eJ (v11)), none, some (eJ (v14)), none, some (eJ (v55)), none, some (eJ (v30)), none, some (eJ (v36)), none, some (eJ (v42)), none]) (s2 := [eJ (v64)]) rfl (b_ladd e65) rfl ?_
  refine w_t (np := 102) (l2 := [some (eR a0), some (eJ (a1)), none, some (eJ (a3)), none, some (eJ (a5)), none, some (eJ (a7)), none, some (eJ (v5)), none, some (eJ (v8)), none, some (eJ (v11)), none, some (eJ (v14)), none, some (eJ (v55)), none, some (eJ (v64)), none, some (eJ (v36)), none, some (eJ (v42)), none]) (s2 := []) rfl rfl rfl ?_
  refine w_t (np := 104) (l2 := [some (eR a0), some (eJ (a1)), none, some (eJ (a3)), none, some (eJ (a5)), none, some (eJ (a7)), none, some (eJ (v5)), none, some (eJ (v8)), none, some (eJ (v11)), none, some (eJ (v14)), none, some (eJ (v55)), none, some (eJ (v64)), none, some (eJ (v36)), none, some (eJ (v42)), none]) (s2 := [eJ (v36)]) rfl rfl rfl ?_
  refine w_t (np := 106) (l2 := [some (eR a0), some (eJ (a1)), none, some (eJ (a3)), none, some (eJ (a5)), none, some (eJ (a7)), none, some (eJ (v5)), none, some (eJ (v8)), none, some (eJ (v11)), none, some (eJ (v14)), none, some (eJ (v55)), none, some (eJ (v64)), none, some (eJ (v36)), none, some (eJ (v42)), none]) (s2 := [eJ (v8), eJ (v36)]) rfl rfl rfl ?_
  refine w_t (np := 107) (l2 := [some (eR a0), some (eJ (a1)), none, some (eJ (a3)), none, some (eJ (a5)), none, some (eJ (a7)), none, some (eJ (v5)), none, some (eJ (v8)), none, some (eJ (v11)), none, some (eJ (v14)), none, some (eJ (v55)), none, some (eJ (v64)), none, some (eJ (v36)), none, some (eJ (v42)), none]) (s2 := [eR a0, eJ (v8), eJ (v36)]) rfl (s_an rfl (pos_g I46 gA0 (by decide))) rfl ?_
  refine j_gj (np := 110) rfl rfl I46 gA0 (by decide) (n := 69) rfl rfl (lo := -9223372036854775808) (hi := 9223372036854775807) rfl ?_
  intro v67 e68 b69
  obtain ⟨v70, e71, b72⟩ : ∃ zz : Int, ev_W ((v8) * (v67)) = zz ∧ (-9223372036854775808 ≤ zz ∧ zz ≤ 9223372036854775807) := ⟨_, rfl, hW_bd _⟩
  refine w_t (np := 111) (l2 := [some (eR a0), some (eJ (a1)), none, some (eJ (a3)), none, some (eJ (a5)), none, some (eJ (a7)), none, some (eJ (v5)), none, some (eJ (v8)), none, some (eJ (v11)), none, some (eJ (v14)), none, some (eJ (v55)), none, some (eJ (v64)), none, some (eJ (v36)), none, some (eJ (v42)), none]) (s2 := [eJ (v70), eJ (v36)]) rfl (b_lmul e71) rfl ?_
  obtain ⟨v73, e74, b75⟩ : ∃ zz : Int, ev_W ((v36) + (v70)) = zz ∧ (-9223372036854775808 ≤ zz ∧ zz ≤ 9223372036854775807) := ⟨_, rfl, hW_bd _⟩
  refine w_t (np := 112) (l2 := [some (eR a0), some (eJ (a1)), none, some (eJ (a3)), none, some (eJ (a5)), none, some (eJ (a7)), none, some (eJ (v5)), none, some (eJ (v8)), none, some (eJ (v11)), none, some (eJ (v14)), none, some (eJ (v55)), none, some (eJ (v64)), none, some (eJ (v36)), none, some (eJ (v42)), none]) (s2 := [eJ (v73)]) rfl (b_ladd e74) rfl ?_
  refine w_t (np := 114) (l2 := [some (eR a0), some (eJ (a1)), none, some (eJ (a3)), none, some (eJ (a5)), none, some (eJ (a7)), none, some (eJ (v5)), none, some (eJ (v8)), none, some (eJ (v11)), none, some (eJ (v14)), none, some (eJ (v55)), none, some (eJ (v64)), none, some (eJ (v73)), none, some (eJ (v42)), none]) (s2 := []) rfl rfl rfl ?_
  refine w_t (np := 116) (l2 := [some (eR a0), some (eJ (a1)), none, some (eJ (a3)), none, some (eJ (a5)), none, some (eJ (a7)), none, some (eJ (v5)), none, some (eJ (v8)), none, some (eJ (v11)), none, some (eJ (v14)), none, some (eJ (v55)), none, some (eJ (v64)), none, some (eJ (v73)), none, some (eJ (v42)), none]) (s2 := [eJ (v42)]) rfl rfl rfl ?_
  refine w_t (np := 118) (l2 := [some (eR a0), some (eJ (a1)), none, some (eJ (a3)), none, some (eJ (a5)), none, some (eJ (a7)), none, some (eJ (v5)), none, some (eJ (v8)), none, some (eJ (v11)), none, some (eJ (v14)), none, some (eJ (v55)), none, some (eJ (v64)), none, some (eJ (v73)), none, some (eJ (v42)), none]) (s2 := [eJ (v8), eJ (v42)]) rfl rfl rfl ?_
  refine w_t (np := 119) (l2 := [some (eR a0), some (eJ (a1)), none, some (eJ (a3)), none, some (eJ (a5)), none, some (eJ (a7)), none, some (eJ (v5)), none, some (eJ (v8)), none, some (eJ (v11)), none, some (eJ (v14)), none, some (eJ (v55)), none, some (eJ (v64)), none, some (eJ (v73)), none, some (eJ (v42)), none]) (s2 := [eR a0, eJ (v8), eJ (v42)]) rfl (s_an rfl (pos_g I46 gA0 (by decide))) rfl ?_
  refine j_gj (np := 122) rfl rfl I46 gA0 (by decide) (n := 69) rfl rfl (lo := -9223372036854775808) (hi := 9223372036854775807) rfl ?_
  intro v76 e77 b78
  obtain ⟨v79, e80, b81⟩ : ∃ zz : Int, ev_W ((v8) * (v76)) = zz ∧ (-9223372036854775808 ≤ zz ∧ zz ≤ 9223372036854775807) := ⟨_, rfl, hW_bd _⟩
  refine w_t (np := 123) (l2 := [some (eR a0), some (eJ (a1)), none, some (eJ (a3)), none, some (eJ (a5)), none, some (eJ (a7)), none, some (eJ (v5)), none, some (eJ (v8)), none, some (eJ (v11)), none, some (eJ (v14)), none, some (eJ (v55)), none, some (eJ (v64)), none, some (eJ (v73)), none, some (eJ (v42)), none]) (s2 := [eJ (v79), eJ (v42)]) rfl (b_lmul e80) rfl ?_
  obtain ⟨v82, e83, b84⟩ : ∃ zz : Int, ev_W ((v42) + (v79)) = zz ∧ (-9223372036854775808 ≤ zz ∧ zz ≤ 9223372036854775807) := ⟨_, rfl, hW_bd _⟩
  refine w_t (np := 124) (l2 := [some (eR a0), some (eJ (a1)), none, some (eJ (a3)), none, some (eJ (a5)), none, some (eJ (a7)), none, some (eJ (v5)), none, some (eJ (v8)), none, some (eJ (v11)), none, some (eJ (v14)), none, some (eJ (v55)), none, some (eJ (v64)), none, some (eJ (v73)), none, some (eJ (v42)), none]) (s2 := [eJ (v82)]) rfl (b_ladd e83) rfl ?_
  refine w_t (np := 126) (l2 := [some (eR a0), some (eJ (a1)), none, some (eJ (a3)), none, some (eJ (a5)), none, some (eJ (a7)), none, some (eJ (v5)), none, some (eJ (v8)), none, some (eJ (v11)), none, some (eJ (v14)), none, some (eJ (v55)), none, some (eJ (v64)), none, some (eJ (v73)), none, some (eJ (v82)), none]) (s2 := []) rfl rfl rfl ?_
  refine w_t (np := 127) (l2 := [some (eR a0), some (eJ (a1)), none, some (eJ (a3)), none, some (eJ (a5)), none, some (eJ (a7)), none, some (eJ (v5)), none, some (eJ (v8)), none, some (eJ (v11)), none, some (eJ (v14)), none, some (eJ (v55)), none, some (eJ (v64)), none, some (eJ (v73)), none, some (eJ (v82)), none]) (s2 := [eR a0]) rfl (s_an rfl (pos_g I46 gA0 (by decide))) rfl ?_
  refine w_cw (np := 130) (as := []) (l2 := [some (eR a0)]) (rest := []) rfl rfl rfl (Nat.ble_eq.mp rfl) rfl rfl rfl (I46.kd gA0 (by decide) (n := 69) rfl) rfl ?_
  refine s_220 I46 gA0 ?_
  intro m85 I86 F87
  have F88 : Fr l_223 0 0 g μ m85 := F48.t F87 rfl
  show ex_q (dt_fg L ρ) rc (d + 2, (223, 130, [some (eR a0), some (eJ (a1)), none, some (eJ (a3)), none, some (eJ (a5)), none, some (eJ (a7)), none, some (eJ (v5)), none, some (eJ (v8)), none, some (eJ (v11)), none, some (eJ (v14)), none, some (eJ (v55)), none, some (eJ (v64)), none, some (eJ (v73)), none, some (eJ (v82)), none], []), f :: F, m85)
  refine w_t (np := 132) (l2 := [some (eR a0), some (eJ (a1)), none, some (eJ (a3)), none, some (eJ (a5)), none, some (eJ (a7)), none, some (eJ (v5)), none, some (eJ (v8)), none, some (eJ (v11)), none, some (eJ (v14)), none, some (eJ (v55)), none, some (eJ (v64)), none, some (eJ (v73)), none, some (eJ (v82)), none]) (s2 := [eJ (v55)]) rfl rfl rfl ?_
  refine w_t (np := 134) (l2 := [some (eR a0), some (eJ (a1)), none, some (eJ (a3)), none, some (eJ (a5)), none, some (eJ (a7)), none, some (eJ (v5)), none, some (eJ (v8)), none, some (eJ (v11)), none, some (eJ (v14)), none, some (eJ (v55)), none, some (eJ (v64)), none, some (eJ (v73)), none, some (eJ (v82)), none]) (s2 := [eJ (v11), eJ (v55)]) rfl rfl rfl ?_
  refine w_t (np := 135) (l2 := [some (eR a0), some (eJ (a1)), none, some (eJ (a3)), none, some (eJ (a5)), none, some (eJ (a7)), none, some (eJ (v5)), none, some (eJ (v8)), none, some (eJ (v11)), none, some (eJ (v14)), none, some (eJ (v55)), none, some (eJ (v64)), none, some (eJ (v73)), none, some (eJ (v82)), none]) (s2 := [eR a0, eJ (v11), eJ (v55)]) rfl (s_an rfl (pos_g I86 gA0 (by decide))) rfl ?_
  refine j_gj (np := 138) rfl rfl I86 gA0 (by decide) (n := 69) rfl rfl (lo := -9223372036854775808) (hi := 9223372036854775807) rfl ?_
  intro v89 e90 b91
  obtain ⟨v92, e93, b94⟩ : ∃ zz : Int, ev_W ((v11) * (v89)) = zz ∧ (-9223372036854775808 ≤ zz ∧ zz ≤ 9223372036854775807) := ⟨_, rfl, hW_bd _⟩
  refine w_t (np := 139) (l2 := [some (eR a0), some (eJ (a1)), none, some (eJ (a3)), none, some (eJ (a5)), none, some (eJ (a7)), none, some (eJ (v5)), none, some (eJ (v8)), none, some (eJ (v11)), none, some (eJ (v14)), none, some (eJ (v55)), none, some (eJ (v64)), none, some (eJ (v73)), none, some (eJ (v82)), none]) (s2 := [eJ (v92), eJ (v55)]) rfl (b_lmul e93) rfl ?_
  obtain ⟨v95, e96, b97⟩ : ∃ zz : Int, ev_W ((v55) + (v92)) = zz ∧ (-9223372036854775808 ≤ zz ∧ zz ≤ 9223372036854775807) := ⟨_, rfl, hW_bd _⟩
  refine w_t (np := 140) (l2 := [some (eR a0), some (eJ (a1)), none, some (eJ (a3)), none, some (eJ (a5)), none, some (eJ (a7)), none, some (eJ (v5)), none, some (eJ (v8)), none, some (eJ (v11)), none, some (eJ (v14)), none, some (eJ (v55)), none, some (eJ (v64)), none, some (eJ (v73)), none, some (eJ (v82)), none]) (s2 := [eJ (v95)]) rfl (b_ladd e96) rfl ?_
  refine w_t (np := 142) (l2 := [some (eR a0), some (eJ (a1)), none, some (eJ (a3)), none, some (eJ (a5)), none, some (eJ (a7)), none, some (eJ (v5)), none, some (eJ (v8)), none, some (eJ (v11)), none, some (eJ (v14)), none, some (eJ (v95)), none, some (eJ (v64)), none, some (eJ (v73)), none, some (eJ (v82)), none]) (s2 := []) rfl rfl rfl ?_
  refine w_t (np := 144) (l2 := [some (eR a0), some (eJ (a1)), none, some (eJ (a3)), none, some (eJ (a5)), none, some (eJ (a7)), none, some (eJ (v5)), none, some (eJ (v8)), none, some (eJ (v11)), none, some (eJ (v14)), none, some (eJ (v95)), none, some (eJ (v64)), none, some (eJ (v73)), none, some (eJ (v82)), none]) (s2 := [eJ (v64)]) rfl rfl rfl ?_
  refine w_t (np := 146) (l2 := [some (eR a0), some (eJ (a1)), none, some (eJ (a3)), none, some (eJ (a5)), none, some (eJ (a7)), none, some (eJ (v5)), none, some (eJ (v8)), none, some (eJ (v11)), none, some (eJ (v14)), none, some (eJ (v95)), none, some (eJ (v64)), none, some (eJ (v73)), none, some (eJ (v82)), none]) (s2 := [eJ (v11), eJ (v64)]) rfl rfl rfl ?_
  refine w_t (np := 147) (l2 := [some (eR a0), some (eJ (a1)), none, some (eJ (a3)), none, some (eJ (a5)), none, some (eJ (a7)), none, some (eJ (v5)), none, some (eJ (v8)), none, some (eJ (v11)), none, some (eJ (v14)), none, some (eJ (v95)), none, some (eJ (v64)), none, some (eJ (v73)), none, some (eJ (v82)), none]) (s2 := [eR a0, eJ (v11), eJ (v64)]) rfl (s_an rfl (pos_g I86 gA0 (by decide))) rfl ?_
  refine j_gj (np := 150) rfl rfl I86 gA0 (by decide) (n := 69) rfl rfl (lo := -9223372036854775808) (hi := 9223372036854775807) rfl ?_
  intro v98 e99 b100
  obtain ⟨v101, e102, b103⟩ : ∃ zz : Int, ev_W ((v11) * (v98)) = zz ∧ (-9223372036854775808 ≤ zz ∧ zz ≤ 9223372036854775807) := ⟨_, rfl, hW_bd _⟩
  refine w_t (np := 151) (l2 := [some (eR a0), some (eJ (a1)), none, some (eJ (a3)), none, some (eJ (a5)), none, some (eJ (a7)), none, some (eJ (v5)), none, some (eJ (v8)), none, some (eJ (v11)), none, some (eJ (v14)), none, some (eJ (v95)), none, some (eJ (v64)), none, some (eJ (v73)), none, some (eJ (v82)), none]) (s2 := [eJ (v101), eJ (v64)]) rfl (b_lmul e102) rfl ?_
  obtain ⟨v104, e105, b106⟩ : ∃ zz : Int, ev_W ((v64) + (v101)) = zz ∧ (-9223372036854775808 ≤ zz ∧ zz ≤ 9223372036854775807) := ⟨_, rfl, hW_bd _⟩
  refine w_t (np := 152) (l2 := [some (eR a0), some (eJ (a1)), none, some (eJ (a3)), none, some (eJ (a5)), none, some (eJ (a7)), none, some (eJ (v5)), none, some (eJ (v8)), none, some (eJ (v11)), none, some (eJ (v14)), none, some (eJ (v95)), none, some (eJ (v64)), none, some (eJ (v73)), none, some (eJ (v82)), none]) (s2 := [eJ (v104)]) rfl (b_ladd e105) rfl ?_
  refine w_t (np := 154) (l2 := [some (eR a0), some (eJ (a1)), none, some (eJ (a3)), none, some (eJ (a5)), none, some (eJ (a7)), none, some (eJ (v5)), none, some (eJ (v8)), none, some (eJ (v11)), none, some (eJ (v14)), none, some (eJ (v95)), none, some (eJ (v104)), none, some (eJ (v73)), none, some (eJ (v82)), none]) (s2 := []) rfl rfl rfl ?_
  refine w_t (np := 156) (l2 := [some (eR a0), some (eJ (a1)), none, some (eJ (a3)), none, some (eJ (a5)), none, some (eJ (a7)), none, some (eJ (v5)), none, some (eJ (v8)), none, some (eJ (v11)), none, some (eJ (v14)), none, some (eJ (v95)), none, some (eJ (v104)), none, some (eJ (v73)), none, some (eJ (v82)), none]) (s2 := [eJ (v73)]) rfl rfl rfl ?_
  refine w_t (np := 158) (l2 := [some (eR a0), some (eJ (a1)), none, some (eJ (a3)), none, some (eJ (a5)), none, some (eJ (a7)), none, some (eJ (v5)), none, some (eJ (v8)), none, some (eJ (v11)), none, some (eJ (v14)), none, some (eJ (v95)), none, some (eJ (v104)), none, some (eJ (v73)), none, some (eJ (v82)), none]) (s2 := [eJ (v11), eJ (v73)]) rfl rfl rfl ?_
  refine w_t (np := 159) (l2 := [some (eR a0), some (eJ (a1)), none, some (eJ (a3)), none, some (eJ (a5)), none, some (eJ (a7)), none, some (eJ (v5)), none, some (eJ (v8)), none, some (eJ (v11)), none, some (eJ (v14)), none, some (eJ (v95)), none, some (eJ (v104)), none, some (eJ (v73)), none, some (eJ (v82)), none]) (s2 := [eR a0, eJ (v11), eJ (v73)]) rfl (s_an rfl (pos_g I86 gA0 (by decide))) rfl ?_
  refine j_gj (np := 162) rfl rfl I86 gA0 (by decide) (n := 69) rfl rfl (lo := -9223372036854775808) (hi := 9223372036854775807) rfl ?_
  intro v107 e108 b109
  obtain ⟨v110, e111, b112⟩ : ∃ zz : Int, ev_W ((v11) * (v107)) = zz ∧ (-9223372036854775808 ≤ zz ∧ zz ≤ 9223372036854775807) := ⟨_, rfl, hW_bd _⟩
  refine w_t (np := 163) (l2 := [some (eR a0), some (eJ (a1)), none, some (eJ (a3)), none, some (eJ (a5)), none, some (eJ (a7)), none, some (eJ (v5)), none, some (eJ (v8)), none, some (eJ (v11)), none, some (eJ (v14)), none, some (eJ (v95)), none, some (eJ (v104)), none, some (eJ (v73)), none, some (eJ (v82)), none]) (s2 := [eJ (v110), eJ (v73)]) rfl (b_lmul e111) rfl ?_
  obtain ⟨v113, e114, b115⟩ : ∃ zz : Int, ev_W ((v73) + (v110)) = zz ∧ (-9223372036854775808 ≤ zz ∧ zz ≤ 9223372036854775807) := ⟨_, rfl, hW_bd _⟩
  refine w_t (np := 164) (l2 := [some (eR a0), some (eJ (a1)), none, some (eJ (a3)), none, some (eJ (a5)), none, some (eJ (a7)), none, some (eJ (v5)), none, some (eJ (v8)), none, some (eJ (v11)), none, some (eJ (v14)), none, some (eJ (v95)), none, some (eJ (v104)), none, some (eJ (v73)), none, some (eJ (v82)), none]) (s2 := [eJ (v113)]) rfl (b_ladd e114) rfl ?_
  refine w_t (np := 166) (l2 := [some (eR a0), some (eJ (a1)), none, some (eJ (a3)), none, some (eJ (a5)), none, some (eJ (a7)), none, some (eJ (v5)), none, some (eJ (v8)), none, some (eJ (v11)), none, some (eJ (v14)), none, some (eJ (v95)), none, some (eJ (v104)), none, some (eJ (v113)), none, some (eJ (v82)), none]) (s2 := []) rfl rfl rfl ?_
  refine w_t (np := 168) (l2 := [some (eR a0), some (eJ (a1)), none, some (eJ (a3)), none, some (eJ (a5)), none, some (eJ (a7)), none, some (eJ (v5)), none, some (eJ (v8)), none, some (eJ (v11)), none, some (eJ (v14)), none, some (eJ (v95)), none, some (eJ (v104)), none, some (eJ (v113)), none, some (eJ (v82)), none]) (s2 := [eJ (v82)]) rfl rfl rfl ?_
  refine w_t (np := 170) (l2 := [some (eR a0), some (eJ (a1)), none, some (eJ (a3)), none, some (eJ (a5)), none, some (eJ (a7)), none, some (eJ (v5)), none, some (eJ (v8)), none, some (eJ (v11)), none, some (eJ (v14)), none, some (eJ (v95)), none, some (eJ (v104)), none, some (eJ (v113)), none, some (eJ (v82)), none]) (s2 := [eJ (v11), eJ (v82)]) rfl rfl rfl ?_
  refine w_t (np := 171) (l2 := [some (eR a0), some (eJ (a1)), none, some (eJ (a3)), none, some (eJ (a5)), none, some (eJ (a7)), none, some (eJ (v5)), none, some (eJ (v8)), none, some (eJ (v11)), none, some (eJ (v14)), none, some (eJ (v95)), none, some (eJ (v104)), none, some (eJ (v113)), none, some (eJ (v82)), none]) (s2 := [eR a0, eJ (v11), eJ (v82)]) rfl (s_an rfl (pos_g I86 gA0 (by decide))) rfl ?_
  refine j_gj (np := 174) rfl rfl I86 gA0 (by decide) (n := 69) rfl rfl (lo := -9223372036854775808) (hi := 9223372036854775807) rfl ?_
  intro v116 e117 b118
  obtain ⟨v119, e120, b121⟩ : ∃ zz : Int, ev_W ((v11) * (v116)) = zz ∧ (-9223372036854775808 ≤ zz ∧ zz ≤ 9223372036854775807) := ⟨_, rfl, hW_bd _⟩
  refine w_t (np := 175) (l2 := [some (eR a0), some (eJ (a1)), none, some (eJ (a3)), none, some (eJ (a5)), none, some (eJ (a7)), none, some (eJ (v5)), none, some (eJ (v8)), none, some (eJ (v11)), none, some (eJ (v14)), none, some (eJ (v95)), none, some (eJ (v104)), none, some (eJ (v113)), none, some (eJ (v82)), none]) (s2 := [eJ (v119), eJ (v82)]) rfl (b_lmul e120) rfl ?_
  obtain ⟨v122, e123, b124⟩ : ∃ zz : Int, ev_W ((v82) + (v119)) = zz ∧ (-9223372036854775808 ≤ zz ∧ zz ≤ 9223372036854775807) := ⟨_, rfl, hW_bd _⟩
  refine w_t (np := 176) (l2 := [some (eR a0), some (eJ (a1)), none, some (eJ (a3)), none, some (eJ (a5)), none, some (eJ (a7)), none, some (eJ (v5)), none, some (eJ (v8)), none, some (eJ (v11)), none, some (eJ (v14)), none, some (eJ (v95)), none, some (eJ (v104)), none, some (eJ (v113)), none, some (eJ (v82)), none]) (s2 := [eJ (v122)]) rfl (b_ladd e123) rfl ?_
  refine w_t (np := 178) (l2 := [some (eR a0), some (eJ (a1)), none, some (eJ (a3)), none, some (eJ (a5)), none, some (eJ (a7)), none, some (eJ (v5)), none, some (eJ (v8)), none, some (eJ (v11)), none, some (eJ (v14)), none, some (eJ (v95)), none, some (eJ (v104)), none, some (eJ (v113)), none, some (eJ (v122)), none]) (s2 := []) rfl rfl rfl ?_
  refine w_t (np := 179) (l2 := [some (eR a0), some (eJ (a1)), none, some (eJ (a3)), none, some (eJ (a5)), none, some (eJ (a7)), none, some (eJ (v5)), none, some (eJ (v8)), none, some (eJ (v11)), none, some (eJ (v14)), none, some (eJ (v95)), none, some (eJ (v104)), none, some (eJ (v113)), none, some (eJ (v122)), none]) (s2 := [eR a0]) rfl (s_an rfl (pos_g I86 gA0 (by decide))) rfl ?_
  refine w_cw (np := 182) (as := []) (l2 := [some (eR a0)]) (rest := []) rfl rfl rfl (Nat.ble_eq.mp rfl) rfl rfl rfl (I86.kd gA0 (by decide) (n := 69) rfl) rfl ?_
  refine s_220 I86 gA0 ?_
  intro m125 I126 F127
  have F128 : Fr l_223 0 0 g μ m125 := F88.t F127 rfl
  show ex_q (dt_fg L ρ) rc (d + 2, (223, 182, [some (eR a0), some (eJ (a1)), none, some (eJ (a3)), none, some (eJ (a5)), none, some (eJ (a7)), none, some (eJ (v5)), none, some (eJ (v8)), none, some (eJ (v11)), none, some (eJ (v14)), none, some (eJ (v95)), none, some (eJ (v104)), none, some (eJ (v113)), none, some (eJ (v122)), none], []), f :: F, m125)
  refine w_t (np := 183) (l2 := [some (eR a0), some (eJ (a1)), none, some (eJ (a3)), none, some (eJ (a5)), none, some (eJ (a7)), none, some (eJ (v5)), none, some (eJ (v8)), none, some (eJ (v11)), none, some (eJ (v14)), none, some (eJ (v95)), none, some (eJ (v104)), none, some (eJ (v113)), none, some (eJ (v122)), none]) (s2 := [eR a0]) rfl (s_an rfl (pos_g I126 gA0 (by decide))) rfl ?_
  refine w_t (np := 185) (l2 := [some (eR a0), some (eJ (a1)), none, some (eJ (a3)), none, some (eJ (a5)), none, some (eJ (a7)), none, some (eJ (v5)), none, some (eJ (v8)), none, some (eJ (v11)), none, some (eJ (v14)), none, some (eJ (v95)), none, some (eJ (v104)), none, some (eJ (v113)), none, some (eJ (v122)), none]) (s2 := [eJ (v95), eR a0]) rfl rfl rfl ?_
  refine w_t (np := 187) (l2 := [some (eR a0), some (eJ (a1)), none, some (eJ (a3)), none, some (eJ (a5)), none, some (eJ (a7)), none, some (eJ (v5)), none, some (eJ (v8)), none, some (eJ (v11)), none, some (eJ (v14)), none, some (eJ (v95)), none, some (eJ (v104)), none, some (eJ (v113)), none, some (eJ (v122)), none]) (s2 := [eJ (v14), eJ (v95), eR a0]) rfl rfl rfl ?_
  refine w_t (np := 188) (l2 := [some (eR a0), some (eJ (a1)), none, some (eJ (a3)), none, some (eJ (a5)), none, some (eJ (a7)), none, some (eJ (v5)), none, some (eJ (v8)), none, some (eJ (v11)), none, some (eJ (v14)), none, some (eJ (v95)), none, some (eJ (v104)), none, some (eJ (v113)), none, some (eJ (v122)), none]) (s2 := [eR a0, eJ (v14), eJ (v95), eR a0]) rfl (s_an rfl (pos_g I126 gA0 (by decide))) rfl ?_
  refine j_gj (np := 191) rfl rfl I126 gA0 (by decide) (n := 69) rfl rfl (lo := -9223372036854775808) (hi := 9223372036854775807) rfl ?_
  intro v129 e130 b131
  obtain ⟨v132, e133, b134⟩ : ∃ zz : Int, ev_W ((v14) * (v129)) = zz ∧ (-9223372036854775808 ≤ zz ∧ zz ≤ 9223372036854775807) := ⟨_, rfl, hW_bd _⟩
  refine w_t (np := 192) (l2 := [some (eR a0), some (eJ (a1)), none, some (eJ (a3)), none, some (eJ (a5)), none, some (eJ (a7)), none, some (eJ (v5)), none, some (eJ (v8)), none, some (eJ (v11)), none, some (eJ (v14)), none, some (eJ (v95)), none, some (eJ (v104)), none, some (eJ (v113)), none, some (eJ (v122)), none]) (s2 := [eJ (v132), eJ (v95), eR a0]) rfl (b_lmul e133) rfl ?_
  obtain ⟨v135, e136, b137⟩ : ∃ zz : Int, ev_W ((v95) + (v132)) = zz ∧ (-9223372036854775808 ≤ zz ∧ zz ≤ 9223372036854775807) := ⟨_, rfl, hW_bd _⟩
  refine w_t (np := 193) (l2 := [some (eR a0), some (eJ (a1)), none, some (eJ (a3)), none, some (eJ (a5)), none, some (eJ (a7)), none, some (eJ (v5)), none, some (eJ (v8)), none, some (eJ (v11)), none, some (eJ (v14)), none, some (eJ (v95)), none, some (eJ (v104)), none, some (eJ (v113)), none, some (eJ (v122)), none]) (s2 := [eJ (v135), eR a0]) rfl (b_ladd e136) rfl ?_
  refine w_t (np := 195) (l2 := [some (eR a0), some (eJ (a1)), none, some (eJ (a3)), none, some (eJ (a5)), none, some (eJ (a7)), none, some (eJ (v5)), none, some (eJ (v8)), none, some (eJ (v11)), none, some (eJ (v14)), none, some (eJ (v95)), none, some (eJ (v104)), none, some (eJ (v113)), none, some (eJ (v122)), none]) (s2 := [eJ (v104), eJ (v135), eR a0]) rfl rfl rfl ?_
  refine w_t (np := 197) (l2 := [some (eR a0), some (eJ (a1)), none, some (eJ (a3)), none, some (eJ (a5)), none, some (eJ (a7)), none, some (eJ (v5)), none, some (eJ (v8)), none, some (eJ (v11)), none, some (eJ (v14)), none, some (eJ (v95)), none, some (eJ (v104)), none, some (eJ (v113)), none, some (eJ (v122)), none]) (s2 := [eJ (v14), eJ (v104), eJ (v135), eR a0]) rfl rfl rfl ?_
  refine w_t (np := 198) (l2 := [some (eR a0), some (eJ (a1)), none, some (eJ (a3)), none, some (eJ (a5)), none, some (eJ (a7)), none, some (eJ (v5)), none, some (eJ (v8)), none, some (eJ (v11)), none, some (eJ (v14)), none, some (eJ (v95)), none, some (eJ (v104)), none, some (eJ (v113)), none, some (eJ (v122)), none]) (s2 := [eR a0, eJ (v14), eJ (v104), eJ (v135), eR a0]) rfl (s_an rfl (pos_g I126 gA0 (by decide))) rfl ?_
  refine j_gj (np := 201) rfl rfl I126 gA0 (by decide) (n := 69) rfl rfl (lo := -9223372036854775808) (hi := 9223372036854775807) rfl ?_
  intro v138 e139 b140
  obtain ⟨v141, e142, b143⟩ : ∃ zz : Int, ev_W ((v14) * (v138)) = zz ∧ (-9223372036854775808 ≤ zz ∧ zz ≤ 9223372036854775807) := ⟨_, rfl, hW_bd _⟩
  refine w_t (np := 202) (l2 := [some (eR a0), some (eJ (a1)), none, some (eJ (a3)), none, some (eJ (a5)), none, some (eJ (a7)), none, some (eJ (v5)), none, some (eJ (v8)), none, some (eJ (v11)), none, some (eJ (v14)), none, some (eJ (v95)), none, some (eJ (v104)), none, some (eJ (v113)), none, some (eJ (v122)), none]) (s2 := [eJ (v141), eJ (v104), eJ (v135), eR a0]) rfl (b_lmul e142) rfl ?_
  obtain ⟨v144, e145, b146⟩ : ∃ zz : Int, ev_W ((v104) + (v141)) = zz ∧ (-9223372036854775808 ≤ zz ∧ zz ≤ 9223372036854775807) := ⟨_, rfl, hW_bd _⟩
  refine w_t (np := 203) (l2 := [some (eR a0), some (eJ (a1)), none, some (eJ (a3)), none, some (eJ (a5)), none, some (eJ (a7)), none, some (eJ (v5)), none, some (eJ (v8)), none, some (eJ (v11)), none, some (eJ (v14)), none, some (eJ (v95)), none, some (eJ (v104)), none, some (eJ (v113)), none, some (eJ (v122)), none]) (s2 := [eJ (v144), eJ (v135), eR a0]) rfl (b_ladd e145) rfl ?_
  refine w_t (np := 205) (l2 := [some (eR a0), some (eJ (a1)), none, some (eJ (a3)), none, some (eJ (a5)), none, some (eJ (a7)), none, some (eJ (v5)), none, some (eJ (v8)), none, some (eJ (v11)), none, some (eJ (v14)), none, some (eJ (v95)), none, some (eJ (v104)), none, some (eJ (v113)), none, some (eJ (v122)), none]) (s2 := [eJ (v113), eJ (v144), eJ (v135), eR a0]) rfl rfl rfl ?_
  refine w_t (np := 207) (l2 := [some (eR a0), some (eJ (a1)), none, some (eJ (a3)), none, some (eJ (a5)), none, some (eJ (a7)), none, some (eJ (v5)), none, some (eJ (v8)), none, some (eJ (v11)), none, some (eJ (v14)), none, some (eJ (v95)), none, some (eJ (v104)), none, some (eJ (v113)), none, some (eJ (v122)), none]) (s2 := [eJ (v14), eJ (v113), eJ (v144), eJ (v135), eR a0]) rfl rfl rfl ?_
  refine w_t (np := 208) (l2 := [some (eR a0), some (eJ (a1)), none, some (eJ (a3)), none, some (eJ (a5)), none, some (eJ (a7)), none, some (eJ (v5)), none, some (eJ (v8)), none, some (eJ (v11)), none, some (eJ (v14)), none, some (eJ (v95)), none, some (eJ (v104)), none, some (eJ (v113)), none, some (eJ (v122)), none]) (s2 := [eR a0, eJ (v14), eJ (v113), eJ (v144), eJ (v135), eR a0]) rfl (s_an rfl (pos_g I126 gA0 (by decide))) rfl ?_
  refine j_gj (np := 211) rfl rfl I126 gA0 (by decide) (n := 69) rfl rfl (lo := -9223372036854775808) (hi := 9223372036854775807) rfl ?_
  intro v147 e148 b149
  obtain ⟨v150, e151, b152⟩ : ∃ zz : Int, ev_W ((v14) * (v147)) = zz ∧ (-9223372036854775808 ≤ zz ∧ zz ≤ 9223372036854775807) := ⟨_, rfl, hW_bd _⟩
  refine w_t (np := 212) (l2 := [some (eR a0), some (eJ (a1)), none, some (eJ (a3)), none, some (eJ (a5)), none, some (eJ (a7)), none, some (eJ (v5)), none, some (eJ (v8)), none, some (eJ (v11)), none, some (eJ (v14)), none, some (eJ (v95)), none, some (eJ (v104)), none, some (eJ (v113)), none, some (eJ (v122)), none]) (s2 := [eJ (v150), eJ (v113), eJ (v144), eJ (v135), eR a0]) rfl (b_lmul e151) rfl ?_
  obtain ⟨v153, e154, b155⟩ : ∃ zz : Int, ev_W ((v113) + (v150)) = zz ∧ (-9223372036854775808 ≤ zz ∧ zz ≤ 9223372036854775807) := ⟨_, rfl, hW_bd _⟩
  refine w_t (np := 213) (l2 := [some (eR a0), some (eJ (a1)), none, some (eJ (a3)), none, some (eJ (a5)), none, some (eJ (a7)), none, some (eJ (v5)), none, some (eJ (v8)), none, some (eJ (v11)), none, some (eJ (v14)), none, some (eJ (v95)), none, some (eJ (v104)), none, some (eJ (v113)), none, some (eJ (v122)), none]) (s2 := [eJ (v153), eJ (v144), eJ (v135), eR a0]) rfl (b_ladd e154) rfl ?_
  refine w_t (np := 215) (l2 := [some (eR a0), some (eJ (a1)), none, some (eJ (a3)), none, some (eJ (a5)), none, some (eJ (a7)), none, some (eJ (v5)), none, some (eJ (v8)), none, some (eJ (v11)), none, some (eJ (v14)), none, some (eJ (v95)), none, some (eJ (v104)), none, some (eJ (v113)), none, some (eJ (v122)), none]) (s2 := [eJ (v122), eJ (v153), eJ (v144), eJ (v135), eR a0]) rfl rfl rfl ?_
  refine w_t (np := 217) (l2 := [some (eR a0), some (eJ (a1)), none, some (eJ (a3)), none, some (eJ (a5)), none, some (eJ (a7)), none, some (eJ (v5)), none, some (eJ (v8)), none, some (eJ (v11)), none, some (eJ (v14)), none, some (eJ (v95)), none, some (eJ (v104)), none, some (eJ (v113)), none, some (eJ (v122)), none]) (s2 := [eJ (v14), eJ (v122), eJ (v153), eJ (v144), eJ (v135), eR a0]) rfl rfl rfl ?_
  refine w_t (np := 218) (l2 := [some (eR a0), some (eJ (a1)), none, some (eJ (a3)), none, some (eJ (a5)), none, some (eJ (a7)), none, some (eJ (v5)), none, some (eJ (v8)), none, some (eJ (v11)), none, some (eJ (v14)), none, some (eJ (v95)), none, some (eJ (v104)), none, some (eJ (v113)), none, some (eJ (v122)), none]) (s2 := [eR a0, eJ (v14), eJ (v122), eJ (v153), eJ (v144), eJ (v135), eR a0]) rfl (s_an rfl (pos_g I126 gA0 (by decide))) rfl ?_
  refine j_gj (np := 221) rfl rfl I126 gA0 (by decide) (n := 69) rfl rfl (lo := -9223372036854775808) (hi := 9223372036854775807) rfl ?_
  intro v156 e157 b158
  obtain ⟨v159, e160, b161⟩ : ∃ zz : Int, ev_W ((v14) * (v156)) = zz ∧ (-9223372036854775808 ≤ zz ∧ zz ≤ 9223372036854775807) := ⟨_, rfl, hW_bd _⟩
  refine w_t (np := 222) (l2 := [some (eR a0), some (eJ (a1)), none, some (eJ (a3)), none, some (eJ (a5)), none, some (eJ (a7)), none, some (eJ (v5)), none, some (eJ (v8)), none, some (eJ (v11)), none, some (eJ (v14)), none, some (eJ (v95)), none, some (eJ (v104)), none, some (eJ (v113)), none, some (eJ (v122)), none]) (s2 := [eJ (v159), eJ (v122), eJ (v153), eJ (v144), eJ (v135), eR a0]) rfl (b_lmul e160) rfl ?_
  obtain ⟨v162, e163, b164⟩ : ∃ zz : Int, ev_W ((v122) + (v159)) = zz ∧ (-9223372036854775808 ≤ zz ∧ zz ≤ 9223372036854775807) := ⟨_, rfl, hW_bd _⟩
  refine w_t (np := 223) (l2 := [some (eR a0), some (eJ (a1)), none, some (eJ (a3)), none, some (eJ (a5)), none, some (eJ (a7)), none, some (eJ (v5)), none, some (eJ (v8)), none, some (eJ (v11)), none, some (eJ (v14)), none, some (eJ (v95)), none, some (eJ (v104)), none, some (eJ (v113)), none, some (eJ (v122)), none]) (s2 := [eJ (v162), eJ (v153), eJ (v144), eJ (v135), eR a0]) rfl (b_ladd e163) rfl ?_
  refine w_cw (np := 226) (as := [eJ (v135), eJ (v144), eJ (v153), eJ (v162)]) (l2 := [some (eR a0), some (eJ (v135)), none, some (eJ (v144)), none, some (eJ (v153)), none, some (eJ (v162)), none]) (rest := []) rfl rfl rfl (Nat.ble_eq.mp rfl) rfl rfl rfl (I126.kd gA0 (by decide) (n := 69) rfl) rfl ?_
  refine s_219 I126 gA0 b137 b146 b155 b164 ?_
  intro m165 I166 F167
  have F168 : Fr l_223 0 0 g μ m165 := F128.t F167 rfl
  show ex_q (dt_fg L ρ) rc (d + 2, (223, 226, [some (eR a0), some (eJ (a1)), none, some (eJ (a3)), none, some (eJ (a5)), none, some (eJ (a7)), none, some (eJ (v5)), none, some (eJ (v8)), none, some (eJ (v11)), none, some (eJ (v14)), none, some (eJ (v95)), none, some (eJ (v104)), none, some (eJ (v113)), none, some (eJ (v122)), none], []), f :: F, m165)
  exact v_rv rfl rfl (K m165 I166 F168)
def l_224 : List Nat := [13315, 13316, 13317, 13318]
theorem s_224 {L : Nat} {ρ : Nat → Int} {rc : eQ} {d : Nat} {f : eFr} {F : List eFr} {μ : eM} {g : Nat → Nat} {a0 : Nat} {a1 : Int} {a3 : Int} {a5 : Int} {a7 : Int} {a9 : Int} {a11 : Int} {a13 : Int} {a15 : Int} (hI : SI g μ) (gA0 : g a0 = 52) (bA1 : -9223372036854775808 ≤ a1 ∧ a1 ≤ 9223372036854775807) (bA3 : -9223372036854775808 ≤ a3 ∧ a3 ≤ 9223372036854775807) (bA5 : -9223372036854775808 ≤ a5 ∧ a5 ≤ 9223372036854775807) (bA7 : -9223372036854775808 ≤ a7 ∧ a7 ≤ 9223372036854775807) (bA9 : -9223372036854775808 ≤ a9 ∧ a9 ≤ 9223372036854775807) (bA11 : -9223372036854775808 ≤ a11 ∧ a11 ≤ 9223372036854775807) (bA13 : -9223372036854775808 ≤ a13 ∧ a13 ≤ 9223372036854775807) (bA15 : -9223372036854775808 ≤ a15 ∧ a15 ≤ 9223372036854775807) (K : ∀ (μ2 : eM) (v : Int), SI g μ2 → Fr l_224 0 0 g μ μ2 → (-1 ≤ v ∧ v ≤ 1) → ex_q (dt_fg L ρ) rc (d + 4, (f.1, f.2.1, f.2.2.1, eI v :: f.2.2.2), F, μ2)) : ex_q (dt_fg L ρ) rc (d + 3, (224, 0, [some (eR a0), some (eJ (a1)), none, some (eJ (a3)), none, some (eJ (a5)), none, some (eJ (a7)), none, some (eJ (a9)), none, some (eJ (a11)), none, some (eJ (a13)), none, some (eJ (a15)), none], []), f :: F, μ) := by
  have F0 : Fr l_224 0 0 g μ μ := Fr.r
  refine w_t (np := 1) (l2 := [some (eR a0), some (eJ (a1)), none, some (eJ (a3)), none, some (eJ (a5)), none, some (eJ (a7)), none, some (eJ (a9)), none, some (eJ (a11)), none, some (eJ (a13)), none, some (eJ (a15)), none]) (s2 := [eR a0]) rfl (s_an rfl (pos_g hI gA0 (by decide))) rfl ?_
  refine w_t (np := 2) (l2 := [some (eR a0), some (eJ (a1)), none, some (eJ (a3)), none, some (eJ (a5)), none, some (eJ (a7)), none, some (eJ (a9)), none, some (eJ (a11)), none, some (eJ (a13)), none, some (eJ (a15)), none]) (s2 := [eJ (a1), eR a0]) rfl rfl rfl ?_
  refine w_t (np := 3) (l2 := [some (eR a0), some (eJ (a1)), none, some (eJ (a3)), none, some (eJ (a5)), none, some (eJ (a7)), none, some (eJ (a9)), none, some (eJ (a11)), none, some (eJ (a13)), none, some (eJ (a15)), none]) (s2 := [eJ (a3), eJ (a1), eR a0]) rfl rfl rfl ?_
  refine w_t (np := 5) (l2 := [some (eR a0), some (eJ (a1)), none, some (eJ (a3)), none, some (eJ (a5)), none, some (eJ (a7)), none, some (eJ (a9)), none, some (eJ (a11)), none, some (eJ (a13)), none, some (eJ (a15)), none]) (s2 := [eJ (a5), eJ (a3), eJ (a1), eR a0]) rfl rfl rfl ?_
  refine w_t (np := 7) (l2 := [some (eR a0), some (eJ (a1)), none, some (eJ (a3)), none, some (eJ (a5)), none, some (eJ (a7)), none, some (eJ (a9)), none, some (eJ (a11)), none, some (eJ (a13)), none, some (eJ (a15)), none]) (s2 := [eJ (a7), eJ (a5), eJ (a3), eJ (a1), eR a0]) rfl rfl rfl ?_
  refine w_cw (np := 10) (as := [eJ (a1), eJ (a3), eJ (a5), eJ (a7)]) (l2 := [some (eR a0), some (eJ (a1)), none, some (eJ (a3)), none, some (eJ (a5)), none, some (eJ (a7)), none]) (rest := []) rfl rfl rfl (Nat.ble_eq.mp rfl) rfl rfl rfl (hI.kd gA0 (by decide) (n := 69) rfl) rfl ?_
  refine s_219 hI gA0 bA1 bA3 bA5 bA7 ?_
  intro m1 I2 F3
  have F4 : Fr l_224 0 0 g μ m1 := F0.t F3 rfl
  show ex_q (dt_fg L ρ) rc (d + 3, (224, 10, [some (eR a0), some (eJ (a1)), none, some (eJ (a3)), none, some (eJ (a5)), none, some (eJ (a7)), none, some (eJ (a9)), none, some (eJ (a11)), none, some (eJ (a13)), none, some (eJ (a15)), none], []), f :: F, m1)
  refine w_t (np := 11) (l2 := [some (eR a0), some (eJ (a1)), none, some (eJ (a3)), none, some (eJ (a5)), none, some (eJ (a7)), none, some (eJ (a9)), none, some (eJ (a11)), none, some (eJ (a13)), none, some (eJ (a15)), none]) (s2 := [eR a0]) rfl (s_an rfl (pos_g I2 gA0 (by decide))) rfl ?_
  refine w_t (np := 13) (l2 := [some (eR a0), some (eJ (a1)), none, some (eJ (a3)), none, some (eJ (a5)), none, some (eJ (a7)), none, some (eJ (a9)), none, some (eJ (a11)), none, some (eJ (a13)), none, some (eJ (a15)), none]) (s2 := [eJ (a9), eR a0]) rfl rfl rfl ?_
  refine w_t (np := 15) (l2 := [some (eR a0), some (eJ (a1)), none, some (eJ (a3)), none, some (eJ (a5)), none, some (eJ (a7)), none, some (eJ (a9)), none, some (eJ (a11)), none, some (eJ (a13)), none, some (eJ (a15)), none]) (s2 := [eJ (a11), eJ (a9), eR a0]) rfl rfl rfl ?_
  refine w_t (np := 17) (l2 := [some (eR a0), some (eJ (a1)), none, some (eJ (a3)), none, some (eJ (a5)), none, some (eJ (a7)), none, some (eJ (a9)), none, some (eJ (a11)), none, some (eJ (a13)), none, some (eJ (a15)), none]) (s2 := [eJ (a13), eJ (a11), eJ (a9), eR a0]) rfl rfl rfl ?_
  refine w_t (np := 19) (l2 := [some (eR a0), some (eJ (a1)), none, some (eJ (a3)), none, some (eJ (a5)), none, some (eJ (a7)), none, some (eJ (a9)), none, some (eJ (a11)), none, some (eJ (a13)), none, some (eJ (a15)), none]) (s2 := [eJ (a15), eJ (a13), eJ (a11), eJ (a9), eR a0]) rfl rfl rfl ?_
  refine w_cw (np := 22) (as := [eJ (a9), eJ (a11), eJ (a13), eJ (a15)]) (l2 := [some (eR a0), some (eJ (a9)), none, some (eJ (a11)), none, some (eJ (a13)), none, some (eJ (a15)), none, none, none, none, none, none, none, none, none, none, none, none, none, none, none, none, none]) (rest := []) rfl rfl rfl (Nat.ble_eq.mp rfl) rfl rfl rfl (I2.kd gA0 (by decide) (n := 69) rfl) rfl ?_
  refine s_223 I2 gA0 bA9 bA11 bA13 bA15 ?_
  intro m5 I6 F7
  have F8 : Fr l_224 0 0 g μ m5 := F4.t F7 rfl
  show ex_q (dt_fg L ρ) rc (d + 3, (224, 22, [some (eR a0), some (eJ (a1)), none, some (eJ (a3)), none, some (eJ (a5)), none, some (eJ (a7)), none, some (eJ (a9)), none, some (eJ (a11)), none, some (eJ (a13)), none, some (eJ (a15)), none], []), f :: F, m5)
  refine w_t (np := 23) (l2 := [some (eR a0), some (eJ (a1)), none, some (eJ (a3)), none, some (eJ (a5)), none, some (eJ (a7)), none, some (eJ (a9)), none, some (eJ (a11)), none, some (eJ (a13)), none, some (eJ (a15)), none]) (s2 := [eR a0]) rfl (s_an rfl (pos_g I6 gA0 (by decide))) rfl ?_
  refine j_gj (np := 26) rfl rfl I6 gA0 (by decide) (n := 69) rfl rfl (lo := -9223372036854775808) (hi := 9223372036854775807) rfl ?_
  intro v9 e10 b11
  refine w_t (np := 27) (l2 := [some (eR a0), some (eJ (a1)), none, some (eJ (a3)), none, some (eJ (a5)), none, some (eJ (a7)), none, some (eJ (a9)), none, some (eJ (a11)), none, some (eJ (a13)), none, some (eJ (a15)), none]) (s2 := [eR a0, eJ (v9)]) rfl (s_an rfl (pos_g I6 gA0 (by decide))) rfl ?_
  refine j_gj (np := 30) rfl rfl I6 gA0 (by decide) (n := 69) rfl rfl (lo := -9223372036854775808) (hi := 9223372036854775807) rfl ?_
  intro v12 e13 b14
  refine w_t (np := 31) (l2 := [some (eR a0), some (eJ (a1)), none, some (eJ (a3)), none, some (eJ (a5)), none, some (eJ (a7)), none, some (eJ (a9)), none, some (eJ (a11)), none, some (eJ (a13)), none, some (eJ (a15)), none]) (s2 := [eR a0, eJ (v12), eJ (v9)]) rfl (s_an rfl (pos_g I6 gA0 (by decide))) rfl ?_
  refine j_gj (np := 34) rfl rfl I6 gA0 (by decide) (n := 69) rfl rfl (lo := -9223372036854775808) (hi := 9223372036854775807) rfl ?_
  intro v15 e16 b17
  obtain ⟨v18, e19, b20⟩ : ∃ zz : Int, ev_W ((v12) + (v15)) = zz ∧ (-9223372036854775808 ≤ zz ∧ zz ≤ 9223372036854775807) := ⟨_, rfl, hW_bd _⟩
  refine w_t (np := 35) (l2 := [some (eR a0), some (eJ (a1)), none, some (eJ (a3)), none, some (eJ (a5)), none, some (eJ (a7)), none, some (eJ (a9)), none, some (eJ (a11)), none, some (eJ (a13)), none, some (eJ (a15)), none]) (s2 := [eJ (v18), eJ (v9)]) rfl (b_ladd e19) rfl ?_
  refine w_cu (np := 38) (as := [eJ (v9), eJ (v18)]) (l2 := [some (eJ (v9)), none, some (eJ (v18)), none, none, none, none, none, none, none]) (rest := []) rfl rfl rfl (Nat.ble_eq.mp rfl) rfl rfl rfl rfl ?_
  refine s_222 I6 b11 b20 ?_
  intro v21 b22
  show ex_q (dt_fg L ρ) rc (d + 3, (224, 38, [some (eR a0), some (eJ (a1)), none, some (eJ (a3)), none, some (eJ (a5)), none, some (eJ (a7)), none, some (eJ (a9)), none, some (eJ (a11)), none, some (eJ (a13)), none, some (eJ (a15)), none], [eI (v21)]), f :: F, m5)
  exact b_ri rfl rfl (K m5 (v21) I6 F8 (by omega))
def l_225 : List Nat := [13315, 13316, 13317, 13318]
theorem s_225 {L : Nat} {ρ : Nat → Int} {rc : eQ} {d : Nat} {f : eFr} {F : List eFr} {μ : eM} {g : Nat → Nat} {a0 : Nat} {a1 : Int} {a3 : Int} {a5 : Int} {a7 : Int} {a9 : Int} {a11 : Int} {a13 : Int} {a15 : Int} (hI : SI g μ) (gA0 : g a0 = 52) (bA1 : -9223372036854775808 ≤ a1 ∧ a1 ≤ 9223372036854775807) (bA3 : -9223372036854775808 ≤ a3 ∧ a3 ≤ 9223372036854775807) (bA5 : -9223372036854775808 ≤ a5 ∧ a5 ≤ 9223372036854775807) (bA7 : -9223372036854775808 ≤ a7 ∧ a7 ≤ 9223372036854775807) (bA9 : -9223372036854775808 ≤ a9 ∧ a9 ≤ 9223372036854775807) (bA11 : -9223372036854775808 ≤ a11 ∧ a11 ≤ 9223372036854775807) (bA13 : -9223372036854775808 ≤ a13 ∧ a13 ≤ 9223372036854775807) (bA15 : -9223372036854775808 ≤ a15 ∧ a15 ≤ 9223372036854775807) (K : ∀ (μ2 : eM) (v : Int), SI g μ2 → Fr l_225 0 0 g μ μ2 → (-1 ≤ v ∧ v ≤ 1) → ex_q (dt_fg L ρ) rc (d + 4, (f.1, f.2.1, f.2.2.1, eI v :: f.2.2.2), F, μ2)) : ex_q (dt_fg L ρ) rc (d + 3, (225, 0, [some (eR a0), some (eJ (a1)), none, some (eJ (a3)), none, some (eJ (a5)), none, some (eJ (a7)), none, some (eJ (a9)), none, some (eJ (a11)), none, some (eJ (a13)), none, some (eJ (a15)), none], []), f :: F, μ) := by
  have F0 : Fr l_225 0 0 g μ μ := Fr.r
  refine w_t (np := 1) (l2 := [some (eR a0), some (eJ (a1)), none, some (eJ (a3)), none, some (eJ (a5)), none, some (eJ (a7)), none, some (eJ (a9)), none, some (eJ (a11)), none, some (eJ (a13)), none, some (eJ (a15)), none]) (s2 := [eR a0]) rfl (s_an rfl (pos_g hI gA0 (by decide))) rfl ?_
  refine w_t (np := 2) (l2 := [some (eR a0), some (eJ (a1)), none, some (eJ (a3)), none, some (eJ (a5)), none, some (eJ (a7)), none, some (eJ (a9)), none, some (eJ (a11)), none, some (eJ (a13)), none, some (eJ (a15)), none]) (s2 := [eJ (a1), eR a0]) rfl rfl rfl ?_
  refine w_t (np := 3) (l2 := [some (eR a0), some (eJ (a1)), none, some (eJ (a3)), none, some (eJ (a5)), none, some (eJ (a7)), none, some (eJ (a9)), none, some (eJ (a11)), none, some (eJ (a13)), none, some (eJ (a15)), none]) (s2 := [eJ (a3), eJ (a1), eR a0]) rfl rfl rfl ?_
  refine w_t (np := 5) (l2 := [some (eR a0), some (eJ (a1)), none, some (eJ (a3)), none, some (eJ (a5)), none, some (eJ (a7)), none, some (eJ (a9)), none, some (eJ (a11)), none, some (eJ (a13)), none, some (eJ (a15)), none]) (s2 := [eJ (a5), eJ (a3), eJ (a1), eR a0]) rfl rfl rfl ?_
  refine w_t (np := 7) (l2 := [some (eR a0), some (eJ (a1)), none, some (eJ (a3)), none, some (eJ (a5)), none, some (eJ (a7)), none, some (eJ (a9)), none, some (eJ (a11)), none, some (eJ (a13)), none, some (eJ (a15)), none]) (s2 := [eJ (a7), eJ (a5), eJ (a3), eJ (a1), eR a0]) rfl rfl rfl ?_
  refine w_cw (np := 10) (as := [eJ (a1), eJ (a3), eJ (a5), eJ (a7)]) (l2 := [some (eR a0), some (eJ (a1)), none, some (eJ (a3)), none, some (eJ (a5)), none, some (eJ (a7)), none]) (rest := []) rfl rfl rfl (Nat.ble_eq.mp rfl) rfl rfl rfl (hI.kd gA0 (by decide) (n := 69) rfl) rfl ?_
  refine s_219 hI gA0 bA1 bA3 bA5 bA7 ?_
  intro m1 I2 F3
  have F4 : Fr l_225 0 0 g μ m1 := F0.t F3 rfl
  show ex_q (dt_fg L ρ) rc (d + 3, (225, 10, [some (eR a0), some (eJ (a1)), none, some (eJ (a3)), none, some (eJ (a5)), none, some (eJ (a7)), none, some (eJ (a9)), none, some (eJ (a11)), none, some (eJ (a13)), none, some (eJ (a15)), none], []), f :: F, m1)
  refine w_t (np := 11) (l2 := [some (eR a0), some (eJ (a1)), none, some (eJ (a3)), none, some (eJ (a5)), none, some (eJ (a7)), none, some (eJ (a9)), none, some (eJ (a11)), none, some (eJ (a13)), none, some (eJ (a15)), none]) (s2 := [eR a0]) rfl (s_an rfl (pos_g I2 gA0 (by decide))) rfl ?_
  refine w_t (np := 13) (l2 := [some (eR a0), some (eJ (a1)), none, some (eJ (a3)), none, some (eJ (a5)), none, some (eJ (a7)), none, some (eJ (a9)), none, some (eJ (a11)), none, some (eJ (a13)), none, some (eJ (a15)), none]) (s2 := [eJ (a9), eR a0]) rfl rfl rfl ?_
  refine w_t (np := 15) (l2 := [some (eR a0), some (eJ (a1)), none, some (eJ (a3)), none, some (eJ (a5)), none, some (eJ (a7)), none, some (eJ (a9)), none, some (eJ (a11)), none, some (eJ (a13)), none, some (eJ (a15)), none]) (s2 := [eJ (a11), eJ (a9), eR a0]) rfl rfl rfl ?_
  refine w_t (np := 17) (l2 := [some (eR a0), some (eJ (a1)), none, some (eJ (a3)), none, some (eJ (a5)), none, some (eJ (a7)), none, some (eJ (a9)), none, some (eJ (a11)), none, some (eJ (a13)), none, some (eJ (a15)), none]) (s2 := [eJ (a13), eJ (a11), eJ (a9), eR a0]) rfl rfl rfl ?_
  refine w_t (np := 19) (l2 := [some (eR a0), some (eJ (a1)), none, some (eJ (a3)), none, some (eJ (a5)), none, some (eJ (a7)), none, some (eJ (a9)), none, some (eJ (a11)), none, some (eJ (a13)), none, some (eJ (a15)), none]) (s2 := [eJ (a15), eJ (a13), eJ (a11), eJ (a9), eR a0]) rfl rfl rfl ?_
  refine w_cw (np := 22) (as := [eJ (a9), eJ (a11), eJ (a13), eJ (a15)]) (l2 := [some (eR a0), some (eJ (a9)), none, some (eJ (a11)), none, some (eJ (a13)), none, some (eJ (a15)), none, none, none, none, none, none, none, none, none, none, none, none, none, none, none, none, none]) (rest := []) rfl rfl rfl (Nat.ble_eq.mp rfl) rfl rfl rfl (I2.kd gA0 (by decide) (n := 69) rfl) rfl ?_
  refine s_223 I2 gA0 bA9 bA11 bA13 bA15 ?_
  intro m5 I6 F7
  have F8 : Fr l_225 0 0 g μ m5 := F4.t F7 rfl
  show ex_q (dt_fg L ρ) rc (d + 3, (225, 22, [some (eR a0), some (eJ (a1)), none, some (eJ (a3)), none, some (eJ (a5)), none, some (eJ (a7)), none, some (eJ (a9)), none, some (eJ (a11)), none, some (eJ (a13)), none, some (eJ (a15)), none], []), f :: F, m5)
  refine v_l2 (np := 25) (c := 2) rfl rfl (by decide) ?_
  rw [show zJ 2 = 2 by decide]
  refine w_t (np := 26) (l2 := [some (eR a0), some (eJ (a1)), none, some (eJ (a3)), none, some (eJ (a5)), none, some (eJ (a7)), none, some (eJ (a9)), none, some (eJ (a11)), none, some (eJ (a13)), none, some (eJ (a15)), none]) (s2 := [eR a0, eJ (2)]) rfl (s_an rfl (pos_g I6 gA0 (by decide))) rfl ?_
  refine j_gj (np := 29) rfl rfl I6 gA0 (by decide) (n := 69) rfl rfl (lo := -9223372036854775808) (hi := 9223372036854775807) rfl ?_
  intro v9 e10 b11
  obtain ⟨v12, e13, b14⟩ : ∃ zz : Int, ev_W ((2) * (v9)) = zz ∧ (-9223372036854775808 ≤ zz ∧ zz ≤ 9223372036854775807) := ⟨_, rfl, hW_bd _⟩
  refine w_t (np := 30) (l2 := [some (eR a0), some (eJ (a1)), none, some (eJ (a3)), none, some (eJ (a5)), none, some (eJ (a7)), none, some (eJ (a9)), none, some (eJ (a11)), none, some (eJ (a13)), none, some (eJ (a15)), none]) (s2 := [eJ (v12)]) rfl (b_lmul e13) rfl ?_
  refine w_t (np := 31) (l2 := [some (eR a0), some (eJ (a1)), none, some (eJ (a3)), none, some (eJ (a5)), none, some (eJ (a7)), none, some (eJ (a9)), none, some (eJ (a11)), none, some (eJ (a13)), none, some (eJ (a15)), none]) (s2 := [eR a0, eJ (v12)]) rfl (s_an rfl (pos_g I6 gA0 (by decide))) rfl ?_
  refine j_gj (np := 34) rfl rfl I6 gA0 (by decide) (n := 69) rfl rfl (lo := -9223372036854775808) (hi := 9223372036854775807) rfl ?_
  intro v15 e16 b17
  obtain ⟨v18, e19, b20⟩ : ∃ zz : Int, ev_W ((v12) - (v15)) = zz ∧ (-9223372036854775808 ≤ zz ∧ zz ≤ 9223372036854775807) := ⟨_, rfl, hW_bd _⟩
  refine w_t (np := 35) (l2 := [some (eR a0), some (eJ (a1)), none, some (eJ (a3)), none, some (eJ (a5)), none, some (eJ (a7)), none, some (eJ (a9)), none, some (eJ (a11)), none, some (eJ (a13)), none, some (eJ (a15)), none]) (s2 := [eJ (v18)]) rfl (b_lsub e19) rfl ?_
  refine w_t (np := 36) (l2 := [some (eR a0), some (eJ (a1)), none, some (eJ (a3)), none, some (eJ (a5)), none, some (eJ (a7)), none, some (eJ (a9)), none, some (eJ (a11)), none, some (eJ (a13)), none, some (eJ (a15)), none]) (s2 := [eR a0, eJ (v18)]) rfl (s_an rfl (pos_g I6 gA0 (by decide))) rfl ?_
  refine j_gj (np := 39) rfl rfl I6 gA0 (by decide) (n := 69) rfl rfl (lo := -9223372036854775808) (hi := 9223372036854775807) rfl ?_
  intro v21 e22 b23
  obtain ⟨v24, e25, b26⟩ : ∃ zz : Int, ev_W ((v18) + (v21)) = zz ∧ (-9223372036854775808 ≤ zz ∧ zz ≤ 9223372036854775807) := ⟨_, rfl, hW_bd _⟩
  refine w_t (np := 40) (l2 := [some (eR a0), some (eJ (a1)), none, some (eJ (a3)), none, some (eJ (a5)), none, some (eJ (a7)), none, some (eJ (a9)), none, some (eJ (a11)), none, some (eJ (a13)), none, some (eJ (a15)), none]) (s2 := [eJ (v24)]) rfl (b_ladd e25) rfl ?_
  refine w_t (np := 41) (l2 := [some (eR a0), some (eJ (a1)), none, some (eJ (a3)), none, some (eJ (a5)), none, some (eJ (a7)), none, some (eJ (a9)), none, some (eJ (a11)), none, some (eJ (a13)), none, some (eJ (a15)), none]) (s2 := [eR a0, eJ (v24)]) rfl (s_an rfl (pos_g I6 gA0 (by decide))) rfl ?_
  refine j_gj (np := 44) rfl rfl I6 gA0 (by decide) (n := 69) rfl rfl (lo := -9223372036854775808) (hi := 9223372036854775807) rfl ?_
  intro v27 e28 b29
  refine w_t (np := 45) (l2 := [some (eR a0), some (eJ (a1)), none, some (eJ (a3)), none, some (eJ (a5)), none, some (eJ (a7)), none, some (eJ (a9)), none, some (eJ (a11)), none, some (eJ (a13)), none, some (eJ (a15)), none]) (s2 := [eR a0, eJ (v27), eJ (v24)]) rfl (s_an rfl (pos_g I6 gA0 (by decide))) rfl ?_
  refine w_gf (np := 48) (v := eJ (v15)) rfl rfl (I6.kd gA0 (by decide) (n := 69) rfl) (by rw [e16]; rfl) ?_
  obtain ⟨v30, e31, b32⟩ : ∃ zz : Int, ev_W ((v27) + (v15)) = zz ∧ (-9223372036854775808 ≤ zz ∧ zz ≤ 9223372036854775807) := ⟨_, rfl, hW_bd _⟩
  refine w_t (np := 49) (l2 := [some (eR a0), some (eJ (a1)), none, some (eJ (a3)), none, some (eJ (a5)), none, some (eJ (a7)), none, some (eJ (a9)), none, some (eJ (a11)), none, some (eJ (a13)), none, some (eJ (a15)), none]) (s2 := [eJ (v30), eJ (v24)]) rfl (b_ladd e31) rfl ?_
  refine w_t (np := 50) (l2 := [some (eR a0), some (eJ (a1)), none, some (eJ (a3)), none, some (eJ (a5)), none, some (eJ (a7)), none, some (eJ (a9)), none, some (eJ (a11)), none, some (eJ (a13)), none, some (eJ (a15)), none]) (s2 := [eR a0, eJ (v30), eJ (v24)]) rfl (s_an rfl (pos_g I6 gA0 (by decide))) rfl ?_
  refine w_gf (np := 53) (v := eJ (v21)) rfl rfl (I6.kd gA0 (by decide) (n := 69) rfl) (by rw [e22]; rfl) ?_
  obtain ⟨v33, e34, b35⟩ : ∃ zz : Int, ev_W ((v30) - (v21)) = zz ∧ (-9223372036854775808 ≤ zz ∧ zz ≤ 9223372036854775807) := ⟨_, rfl, hW_bd _⟩
  refine w_t (np := 54) (l2 := [some (eR a0), some (eJ (a1)), none, some (eJ (a3)), none, some (eJ (a5)), none, some (eJ (a7)), none, some (eJ (a9)), none, some (eJ (a11)), none, some (eJ (a13)), none, some (eJ (a15)), none]) (s2 := [eJ (v33), eJ (v24)]) rfl (b_lsub e34) rfl ?_
  refine w_cu (np := 57) (as := [eJ (v24), eJ (v33)]) (l2 := [some (eJ (v24)), none, some (eJ (v33)), none, none, none, none, none, none, none]) (rest := []) rfl rfl rfl (Nat.ble_eq.mp rfl) rfl rfl rfl rfl ?_
  refine s_222 I6 b26 b35 ?_
  intro v36 b37
  show ex_q (dt_fg L ρ) rc (d + 3, (225, 57, [some (eR a0), some (eJ (a1)), none, some (eJ (a3)), none, some (eJ (a5)), none, some (eJ (a7)), none, some (eJ (a9)), none, some (eJ (a11)), none, some (eJ (a13)), none, some (eJ (a15)), none], [eI (v36)]), f :: F, m5)
  exact b_ri rfl rfl (K m5 (v36) I6 F8 (by omega))
def l_227 : List Nat := [13824]
theorem s_227 {L : Nat} {ρ : Nat → Int} {rc : eQ} {d : Nat} {f : eFr} {F : List eFr} {μ : eM} {g : Nat → Nat} {a0 : Nat} {a1 : Int} {a2 : Int} {a3 : Int} (hI : SI g μ) (gA0 : g a0 = 52) (bA1 : 0 ≤ a1 ∧ a1 ≤ 9) (bA2 : 1 ≤ a2 ∧ a2 ≤ 2) (bA3 : -2147483648 ≤ a3 ∧ a3 ≤ 2147483647) (K : ∀ (μ2 : eM), SI g μ2 → Fr l_227 0 0 g μ μ2 → ex_q (dt_fg L ρ) rc (d + 3, (f.1, f.2.1, f.2.2.1, f.2.2.2), F, μ2)) : ex_q (dt_fg L ρ) rc (d + 2, (227, 0, [some (eR a0), some (eI (a1)), some (eI (a2)), some (eI (a3))], []), f :: F, μ) := by
  have F0 : Fr l_227 0 0 g μ μ := Fr.r
  refine w_t (np := 1) (l2 := [some (eR a0), some (eI (a1)), some (eI (a2)), some (eI (a3))]) (s2 := [eR a0]) rfl (s_an rfl (pos_g hI gA0 (by decide))) rfl ?_
  refine w_t (np := 2) (l2 := [some (eR a0), some (eI (a1)), some (eI (a2)), some (eI (a3))]) (s2 := [eR a0, eR a0]) rfl (s_an rfl (pos_g hI gA0 (by decide))) rfl ?_
  refine j_gr (np := 5) rfl rfl hI gA0 (by decide) (n := 69) rfl rfl rfl ?_
  intro v1 e2 b3 z4
  have b3 : g v1 = 54 := Nat.eq_of_beq_eq_true b3
  refine w_t (np := 7) (l2 := [some (eR a0), some (eI (a1)), some (eI (a2)), some (eI (a3))]) (s2 := [eI (12), eR v1, eR a0]) rfl rfl rfl ?_
  refine w_t (np := 8) (l2 := [some (eR a0), some (eI (a1)), some (eI (a2)), some (eI (a3))]) (s2 := [eI (a1), eI (12), eR v1, eR a0]) rfl rfl rfl ?_
  obtain ⟨v5, e6⟩ : ∃ zz : Int, zz = (12) * (a1) := ⟨_, rfl⟩
  have b7 : 0 ≤ v5 ∧ v5 ≤ 108 := by omega
  refine w_t (np := 9) (l2 := [some (eR a0), some (eI (a1)), some (eI (a2)), some (eI (a3))]) (s2 := [eI (v5), eR v1, eR a0]) rfl (b_imul (by rw [← e6]; exact ev_w_in (by omega) (by omega))) rfl ?_
  refine w_t (np := 10) (l2 := [some (eR a0), some (eI (a1)), some (eI (a2)), some (eI (a3))]) (s2 := [eI (4), eI (v5), eR v1, eR a0]) rfl rfl rfl ?_
  refine w_t (np := 11) (l2 := [some (eR a0), some (eI (a1)), some (eI (a2)), some (eI (a3))]) (s2 := [eI (a2), eI (4), eI (v5), eR v1, eR a0]) rfl rfl rfl ?_
  obtain ⟨v8, e9⟩ : ∃ zz : Int, zz = (4) * (a2) := ⟨_, rfl⟩
  have b10 : 4 ≤ v8 ∧ v8 ≤ 8 := by omega
  refine w_t (np := 12) (l2 := [some (eR a0), some (eI (a1)), some (eI (a2)), some (eI (a3))]) (s2 := [eI (v8), eI (v5), eR v1, eR a0]) rfl (b_imul (by rw [← e9]; exact ev_w_in (by omega) (by omega))) rfl ?_
  obtain ⟨v11, e12⟩ : ∃ zz : Int, zz = (v5) + (v8) := ⟨_, rfl⟩
  have b13 : 4 ≤ v11 ∧ v11 ≤ 116 := by omega
  refine w_t (np := 13) (l2 := [some (eR a0), some (eI (a1)), some (eI (a2)), some (eI (a3))]) (s2 := [eI (v11), eR v1, eR a0]) rfl (b_iadd (by rw [← e12]; exact ev_w_in (by omega) (by omega))) rfl ?_
  refine w_t (np := 14) (l2 := [some (eR a0), some (eI (a1)), some (eI (a2)), some (eI (a3))]) (s2 := [eI (a3), eI (v11), eR v1, eR a0]) rfl rfl rfl ?_
  refine w_t (np := 15) (l2 := [some (eR a0), some (eI (a1)), some (eI (a2)), some (eI (a3))]) (s2 := [eI (0), eI (a3), eI (v11), eR v1, eR a0]) rfl rfl rfl ?_
  refine w_cu (np := 18) (as := [eI (a3), eI (0)]) (l2 := [some (eI (a3)), some (eI (0))]) (rest := [eI (v11), eR v1, eR a0]) rfl rfl rfl (Nat.ble_eq.mp rfl) rfl rfl rfl rfl ?_
  refine s_218 (a0 := a3) (a1 := 0) hI (by omega) (by decide) ?_
  intro v14 b15
  show ex_q (dt_fg L ρ) rc (d + 2, (227, 18, [some (eR a0), some (eI (a1)), some (eI (a2)), some (eI (a3))], [eI (v14), eI (v11), eR v1, eR a0]), f :: F, μ)
  refine w_t (np := 19) (l2 := [some (eR a0), some (eI (a1)), some (eI (a2)), some (eI (a3))]) (s2 := [eI (a3), eI (v14), eI (v11), eR v1, eR a0]) rfl rfl rfl ?_
  refine w_t (np := 20) (l2 := [some (eR a0), some (eI (a1)), some (eI (a2)), some (eI (a3))]) (s2 := [eI (1), eI (a3), eI (v14), eI (v11), eR v1, eR a0]) rfl rfl rfl ?_
  refine w_cu (np := 23) (as := [eI (a3), eI (1)]) (l2 := [some (eI (a3)), some (eI (1))]) (rest := [eI (v14), eI (v11), eR v1, eR a0]) rfl rfl rfl (Nat.ble_eq.mp rfl) rfl rfl rfl rfl ?_
  refine s_218 (a0 := a3) (a1 := 1) hI (by omega) (by decide) ?_
  intro v16 b17
  show ex_q (dt_fg L ρ) rc (d + 2, (227, 23, [some (eR a0), some (eI (a1)), some (eI (a2)), some (eI (a3))], [eI (v16), eI (v14), eI (v11), eR v1, eR a0]), f :: F, μ)
  refine w_t (np := 24) (l2 := [some (eR a0), some (eI (a1)), some (eI (a2)), some (eI (a3))]) (s2 := [eI (a3), eI (v16), eI (v14), eI (v11), eR v1, eR a0]) rfl rfl rfl ?_
  refine w_t (np := 25) (l2 := [some (eR a0), some (eI (a1)), some (eI (a2)), some (eI (a3))]) (s2 := [eI (2), eI (a3), eI (v16), eI (v14), eI (v11), eR v1, eR a0]) rfl rfl rfl ?_
  refine w_cu (np := 28) (as := [eI (a3), eI (2)]) (l2 := [some (eI (a3)), some (eI (2))]) (rest := [eI (v16), eI (v14), eI (v11), eR v1, eR a0]) rfl rfl rfl (Nat.ble_eq.mp rfl) rfl rfl rfl rfl ?_
  refine s_218 (a0 := a3) (a1 := 2) hI (by omega) (by decide) ?_
  intro v18 b19
  show ex_q (dt_fg L ρ) rc (d + 2, (227, 28, [some (eR a0), some (eI (a1)), some (eI (a2)), some (eI (a3))], [eI (v18), eI (v16), eI (v14), eI (v11), eR v1, eR a0]), f :: F, μ)
  refine w_t (np := 29) (l2 := [some (eR a0), some (eI (a1)), some (eI (a2)), some (eI (a3))]) (s2 := [eI (a3), eI (v18), eI (v16), eI (v14), eI (v11), eR v1, eR a0]) rfl rfl rfl ?_
  refine w_t (np := 30) (l2 := [some (eR a0), some (eI (a1)), some (eI (a2)), some (eI (a3))]) (s2 := [eI (3), eI (a3), eI (v18), eI (v16), eI (v14), eI (v11), eR v1, eR a0]) rfl rfl rfl ?_
  refine w_cu (np := 33) (as := [eI (a3), eI (3)]) (l2 := [some (eI (a3)), some (eI (3))]) (rest := [eI (v18), eI (v16), eI (v14), eI (v11), eR v1, eR a0]) rfl rfl rfl (Nat.ble_eq.mp rfl) rfl rfl rfl rfl ?_
  refine s_218 (a0 := a3) (a1 := 3) hI (by omega) (by decide) ?_
  intro v20 b21
  show ex_q (dt_fg L ρ) rc (d + 2, (227, 33, [some (eR a0), some (eI (a1)), some (eI (a2)), some (eI (a3))], [eI (v20), eI (v18), eI (v16), eI (v14), eI (v11), eR v1, eR a0]), f :: F, μ)
  refine w_cw (np := 36) (as := [eR v1, eI (v11), eI (v14), eI (v16), eI (v18), eI (v20)]) (l2 := [some (eR a0), some (eR v1), some (eI (v11)), some (eI (v14)), some (eI (v16)), some (eI (v18)), some (eI (v20))]) (rest := []) rfl rfl rfl (Nat.ble_eq.mp rfl) rfl rfl rfl (hI.kd gA0 (by decide) (n := 69) rfl) rfl ?_
  refine w_t (np := 1) (l2 := [some (eR a0), some (eR v1), some (eI (v11)), some (eI (v14)), some (eI (v16)), some (eI (v18)), some (eI (v20))]) (s2 := [eR v1]) rfl (s_an rfl (pos_g hI b3 (by decide))) rfl ?_
  refine w_t (np := 2) (l2 := [some (eR a0), some (eR v1), some (eI (v11)), some (eI (v14)), some (eI (v16)), some (eI (v18)), some (eI (v20))]) (s2 := [eI (v11), eR v1]) rfl rfl rfl ?_
  refine w_t (np := 3) (l2 := [some (eR a0), some (eR v1), some (eI (v11)), some (eI (v14)), some (eI (v16)), some (eI (v18)), some (eI (v20))]) (s2 := [eI (v14), eI (v11), eR v1]) rfl rfl rfl ?_
  refine j_as (np := 4) rfl rfl hI b3 (by decide) (n := 10680) rfl rfl (lo := -2147483648) (hi := 2147483647) (fun _ => rfl) (by omega) (by omega) (by omega) ?_
  intro m22 I23 W24
  have F25 : Fr l_227 0 0 g μ m22 := F0.v W24 b3 rfl rfl
  refine w_t (np := 5) (l2 := [some (eR a0), some (eR v1), some (eI (v11)), some (eI (v14)), some (eI (v16)), some (eI (v18)), some (eI (v20))]) (s2 := [eR v1]) rfl (s_an rfl (pos_g I23 b3 (by decide))) rfl ?_
  refine w_t (np := 6) (l2 := [some (eR a0), some (eR v1), some (eI (v11)), some (eI (v14)), some (eI (v16)), some (eI (v18)), some (eI (v20))]) (s2 := [eI (v11), eR v1]) rfl rfl rfl ?_
  refine w_t (np := 7) (l2 := [some (eR a0), some (eR v1), some (eI (v11)), some (eI (v14)), some (eI (v16)), some (eI (v18)), some (eI (v20))]) (s2 := [eI (1), eI (v11), eR v1]) rfl rfl rfl ?_
  obtain ⟨v26, e27⟩ : ∃ zz : Int, zz = (v11) + (1) := ⟨_, rfl⟩
  have b28 : 5 ≤ v26 ∧ v26 ≤ 117 := by omega
  refine w_t (np := 8) (l2 := [some (eR a0), some (eR v1), some (eI (v11)), some (eI (v14)), some (eI (v16)), some (eI (v18)), some (eI (v20))]) (s2 := [eI (v26), eR v1]) rfl (b_iadd (by rw [← e27]; exact ev_w_in (by omega) (by omega))) rfl ?_
  refine w_t (np := 10) (l2 := [some (eR a0), some (eR v1), some (eI (v11)), some (eI (v14)), some (eI (v16)), some (eI (v18)), some (eI (v20))]) (s2 := [eI (v16), eI (v26), eR v1]) rfl rfl rfl ?_
  refine j_as (np := 11) rfl rfl I23 b3 (by decide) (n := 10680) rfl rfl (lo := -2147483648) (hi := 2147483647) (fun _ => rfl) (by omega) (by omega) (by omega) ?_
  intro m29 I30 W31
  have F32 : Fr l_227 0 0 g μ m29 := F25.v W31 b3 rfl rfl
  refine w_t (np := 12) (l2 := [some (eR a0), some (eR v1), some (eI (v11)), some (eI (v14)), some (eI (v16)), some (eI (v18)), some (eI (v20))]) (s2 := [eR v1]) rfl (s_an rfl (pos_g I30 b3 (by decide))) rfl ?_
  refine w_t (np := 13) (l2 := [some (eR a0), some (eR v1), some (eI (v11)), some (eI (v14)), some (eI (v16)), some (eI (v18)), some (eI (v20))]) (s2 := [eI (v11), eR v1]) rfl rfl rfl ?_
  refine w_t (np := 14) (l2 := [some (eR a0), some (eR v1), some (eI (v11)), some (eI (v14)), some (eI (v16)), some (eI (v18)), some (eI (v20))]) (s2 := [eI (2), eI (v11), eR v1]) rfl rfl rfl ?_
  obtain ⟨v33, e34⟩ : ∃ zz : Int, zz = (v11) + (2) := ⟨_, rfl⟩
  have b35 : 6 ≤ v33 ∧ v33 ≤ 118 := by omega
  refine w_t (np := 15) (l2 := [some (eR a0), some (eR v1), some (eI (v11)), some (eI (v14)), some (eI (v16)), some (eI (v18)), some (eI (v20))]) (s2 := [eI (v33), eR v1]) rfl (b_iadd (by rw [← e34]; exact ev_w_in (by omega) (by omega))) rfl ?_
  refine w_t (np := 17) (l2 := [some (eR a0), some (eR v1), some (eI (v11)), some (eI (v14)), some (eI (v16)), some (eI (v18)), some (eI (v20))]) (s2 := [eI (v18), eI (v33), eR v1]) rfl rfl rfl ?_
  refine j_as (np := 18) rfl rfl I30 b3 (by decide) (n := 10680) rfl rfl (lo := -2147483648) (hi := 2147483647) (fun _ => rfl) (by omega) (by omega) (by omega) ?_
  intro m36 I37 W38
  have F39 : Fr l_227 0 0 g μ m36 := F32.v W38 b3 rfl rfl
  refine w_t (np := 19) (l2 := [some (eR a0), some (eR v1), some (eI (v11)), some (eI (v14)), some (eI (v16)), some (eI (v18)), some (eI (v20))]) (s2 := [eR v1]) rfl (s_an rfl (pos_g I37 b3 (by decide))) rfl ?_
  refine w_t (np := 20) (l2 := [some (eR a0), some (eR v1), some (eI (v11)), some (eI (v14)), some (eI (v16)), some (eI (v18)), some (eI (v20))]) (s2 := [eI (v11), eR v1]) rfl rfl rfl ?_
  refine w_t (np := 21) (l2 := [some (eR a0), some (eR v1), some (eI (v11)), some (eI (v14)), some (eI (v16)), some (eI (v18)), some (eI (v20))]) (s2 := [eI (3), eI (v11), eR v1]) rfl rfl rfl ?_
  obtain ⟨v40, e41⟩ : ∃ zz : Int, zz = (v11) + (3) := ⟨_, rfl⟩
  have b42 : 7 ≤ v40 ∧ v40 ≤ 119 := by omega
  refine w_t (np := 22) (l2 := [some (eR a0), some (eR v1), some (eI (v11)), some (eI (v14)), some (eI (v16)), some (eI (v18)), some (eI (v20))]) (s2 := [eI (v40), eR v1]) rfl (b_iadd (by rw [← e41]; exact ev_w_in (by omega) (by omega))) rfl ?_
  refine w_t (np := 24) (l2 := [some (eR a0), some (eR v1), some (eI (v11)), some (eI (v14)), some (eI (v16)), some (eI (v18)), some (eI (v20))]) (s2 := [eI (v20), eI (v40), eR v1]) rfl rfl rfl ?_
  refine j_as (np := 25) rfl rfl I37 b3 (by decide) (n := 10680) rfl rfl (lo := -2147483648) (hi := 2147483647) (fun _ => rfl) (by omega) (by omega) (by omega) ?_
  intro m43 I44 W45
  have F46 : Fr l_227 0 0 g μ m43 := F39.v W45 b3 rfl rfl
  refine v_rv rfl rfl ?_
  show ex_q (dt_fg L ρ) rc (d + 2, (227, 36, [some (eR a0), some (eI (a1)), some (eI (a2)), some (eI (a3))], []), f :: F, m43)
  exact v_rv rfl rfl (K m43 I44 F46)
def l_228 : List Nat := [13824, 14336]
theorem s_228 {L : Nat} {ρ : Nat → Int} {rc : eQ} {d : Nat} {f : eFr} {F : List eFr} {μ : eM} {g : Nat → Nat} {a0 : Nat} {a1 : Int} {a2 : Int} {a3 : Int} {a4 : Int} (hI : SI g μ) (gA0 : g a0 = 52) (bA1 : 0 ≤ a1 ∧ a1 ≤ 9) (bA2 : 0 ≤ a2 ∧ a2 ≤ 1) (bA3 : -2147483648 ≤ a3 ∧ a3 ≤ 2147483647) (bA4 : -2147483648 ≤ a4 ∧ a4 ≤ 2147483647) (K : ∀ (μ2 : eM), SI g μ2 → Fr l_228 0 0 g μ μ2 → ex_q (dt_fg L ρ) rc (d + 4, (f.1, f.2.1, f.2.2.1, f.2.2.2), F, μ2)) : ex_q (dt_fg L ρ) rc (d + 3, (228, 0, [some (eR a0), some (eI (a1)), some (eI (a2)), some (eI (a3)), some (eI (a4))], []), f :: F, μ) := by
  have F0 : Fr l_228 0 0 g μ μ := Fr.r
  refine w_t (np := 1) (l2 := [some (eR a0), some (eI (a1)), some (eI (a2)), some (eI (a3)), some (eI (a4))]) (s2 := [eR a0]) rfl (s_an rfl (pos_g hI gA0 (by decide))) rfl ?_
  refine w_t (np := 2) (l2 := [some (eR a0), some (eI (a1)), some (eI (a2)), some (eI (a3)), some (eI (a4))]) (s2 := [eR a0, eR a0]) rfl (s_an rfl (pos_g hI gA0 (by decide))) rfl ?_
  refine j_gr (np := 5) rfl rfl hI gA0 (by decide) (n := 69) rfl rfl rfl ?_
  intro v1 e2 b3 z4
  have b3 : g v1 = 54 := Nat.eq_of_beq_eq_true b3
  refine w_t (np := 7) (l2 := [some (eR a0), some (eI (a1)), some (eI (a2)), some (eI (a3)), some (eI (a4))]) (s2 := [eI (12), eR v1, eR a0]) rfl rfl rfl ?_
  refine w_t (np := 8) (l2 := [some (eR a0), some (eI (a1)), some (eI (a2)), some (eI (a3)), some (eI (a4))]) (s2 := [eI (a1), eI (12), eR v1, eR a0]) rfl rfl rfl ?_
  obtain ⟨v5, e6⟩ : ∃ zz : Int, zz = (12) * (a1) := ⟨_, rfl⟩
  have b7 : 0 ≤ v5 ∧ v5 ≤ 108 := by omega
  refine w_t (np := 9) (l2 := [some (eR a0), some (eI (a1)), some (eI (a2)), some (eI (a3)), some (eI (a4))]) (s2 := [eI (v5), eR v1, eR a0]) rfl (b_imul (by rw [← e6]; exact ev_w_in (by omega) (by omega))) rfl ?_
  refine w_t (np := 10) (l2 := [some (eR a0), some (eI (a1)), some (eI (a2)), some (eI (a3)), some (eI (a4))]) (s2 := [eI (0), eI (v5), eR v1, eR a0]) rfl rfl rfl ?_
  refine w_t (np := 11) (l2 := [some (eR a0), some (eI (a1)), some (eI (a2)), some (eI (a3)), some (eI (a4))]) (s2 := [eI (0), eI (0), eI (v5), eR v1, eR a0]) rfl rfl rfl ?_
  refine w_t (np := 12) (l2 := [some (eR a0), some (eI (a1)), some (eI (a2)), some (eI (a3)), some (eI (a4))]) (s2 := [eI (0), eI (0), eI (0), eI (v5), eR v1, eR a0]) rfl rfl rfl ?_
  refine w_t (np := 13) (l2 := [some (eR a0), some (eI (a1)), some (eI (a2)), some (eI (a3)), some (eI (a4))]) (s2 := [eI (0), eI (0), eI (0), eI (0), eI (v5), eR v1, eR a0]) rfl rfl rfl ?_
  refine w_cw (np := 16) (as := [eR v1, eI (v5), eI (0), eI (0), eI (0), eI (0)]) (l2 := [some (eR a0), some (eR v1), some (eI (v5)), some (eI (0)), some (eI (0)), some (eI (0)), some (eI (0))]) (rest := []) rfl rfl rfl (Nat.ble_eq.mp rfl) rfl rfl rfl (hI.kd gA0 (by decide) (n := 69) rfl) rfl ?_
  refine w_t (np := 1) (l2 := [some (eR a0), some (eR v1), some (eI (v5)), some (eI (0)), some (eI (0)), some (eI (0)), some (eI (0))]) (s2 := [eR v1]) rfl (s_an rfl (pos_g hI b3 (by decide))) rfl ?_
  refine w_t (np := 2) (l2 := [some (eR a0), some (eR v1), some (eI (v5)), some (eI (0)), some (eI (0)), some (eI (0)), some (eI (0))]) (s2 := [eI (v5), eR v1]) rfl rfl rfl ?_
  refine w_t (np := 3) (l2 := [some (eR a0), some (eR v1), some (eI (v5)), some (eI (0)), some (eI (0)), some (eI (0)), some (eI (0))]) (s2 := [eI (0), eI (v5), eR v1]) rfl rfl rfl ?_
  refine j_as (np := 4) rfl rfl hI b3 (by decide) (n := 10680) rfl rfl (lo := -2147483648) (hi := 2147483647) (fun _ => rfl) (by omega) (by omega) (by decide) ?_
  intro m8 I9 W10
  have F11 : Fr l_228 0 0 g μ m8 := F0.v W10 b3 rfl rfl
  refine w_t (np := 5) (l2 := [some (eR a0), some (eR v1), some (eI (v5)), some (eI (0)), some (eI (0)), some (eI (0)), some (eI (0))]) (s2 := [eR v1]) rfl (s_an rfl (pos_g I9 b3 (by decide))) rfl ?_
  refine w_t (np := 6) (l2 := [some (eR a0), some (eR v1), some (eI (v5)), some (eI (0)), some (eI (0)), some (eI (0)), some (eI (0))]) (s2 := [eI (v5), eR v1]) rfl rfl rfl ?_
  refine w_t (np := 7) (l2 := [some (eR a0), some (eR v1), some (eI (v5)), some (eI (0)), some (eI (0)), some (eI (0)), some (eI (0))]) (s2 := [eI (1), eI (v5), eR v1]) rfl rfl rfl ?_
  obtain ⟨v12, e13⟩ : ∃ zz : Int, zz = (v5) + (1) := ⟨_, rfl⟩
  have b14 : 1 ≤ v12 ∧ v12 ≤ 109 := by omega
  refine w_t (np := 8) (l2 := [some (eR a0), some (eR v1), some (eI (v5)), some (eI (0)), some (eI (0)), some (eI (0)), some (eI (0))]) (s2 := [eI (v12), eR v1]) rfl (b_iadd (by rw [← e13]; exact ev_w_in (by omega) (by omega))) rfl ?_
  refine w_t (np := 10) (l2 := [some (eR a0), some (eR v1), some (eI (v5)), some (eI (0)), some (eI (0)), some (eI (0)), some (eI (0))]) (s2 := [eI (0), eI (v12), eR v1]) rfl rfl rfl ?_
  refine j_as (np := 11) rfl rfl I9 b3 (by decide) (n := 10680) rfl rfl (lo := -2147483648) (hi := 2147483647) (fun _ => rfl) (by omega) (by omega) (by decide) ?_
  intro m15 I16 W17
  have F18 : Fr l_228 0 0 g μ m15 := F11.v W17 b3 rfl rfl
  refine w_t (np := 12) (l2 := [some (eR a0), some (eR v1), some (eI (v5)), some (eI (0)), some (eI (0)), some (eI (0)), some (eI (0))]) (s2 := [eR v1]) rfl (s_an rfl (pos_g I16 b3 (by decide))) rfl ?_
  refine w_t (np := 13) (l2 := [some (eR a0), some (eR v1), some (eI (v5)), some (eI (0)), some (eI (0)), some (eI (0)), some (eI (0))]) (s2 := [eI (v5), eR v1]) rfl rfl rfl ?_
  refine w_t (np := 14) (l2 := [some (eR a0), some (eR v1), some (eI (v5)), some (eI (0)), some (eI (0)), some (eI (0)), some (eI (0))]) (s2 := [eI (2), eI (v5), eR v1]) rfl rfl rfl ?_
  obtain ⟨v19, e20⟩ : ∃ zz : Int, zz = (v5) + (2) := ⟨_, rfl⟩
  have b21 : 2 ≤ v19 ∧ v19 ≤ 110 := by omega
  refine w_t (np := 15) (l2 := [some (eR a0), some (eR v1), some (eI (v5)), some (eI (0)), some (eI (0)), some (eI (0)), some (eI (0))]) (s2 := [eI (v19), eR v1]) rfl (b_iadd (by rw [← e20]; exact ev_w_in (by omega) (by omega))) rfl ?_
  refine w_t (np := 17) (l2 := [some (eR a0), some (eR v1), some (eI (v5)), some (eI (0)), some (eI (0)), some (eI (0)), some (eI (0))]) (s2 := [eI (0), eI (v19), eR v1]) rfl rfl rfl ?_
  refine j_as (np := 18) rfl rfl I16 b3 (by decide) (n := 10680) rfl rfl (lo := -2147483648) (hi := 2147483647) (fun _ => rfl) (by omega) (by omega) (by decide) ?_
  intro m22 I23 W24
  have F25 : Fr l_228 0 0 g μ m22 := F18.v W24 b3 rfl rfl
  refine w_t (np := 19) (l2 := [some (eR a0), some (eR v1), some (eI (v5)), some (eI (0)), some (eI (0)), some (eI (0)), some (eI (0))]) (s2 := [eR v1]) rfl (s_an rfl (pos_g I23 b3 (by decide))) rfl ?_
  refine w_t (np := 20) (l2 := [some (eR a0), some (eR v1), some (eI (v5)), some (eI (0)), some (eI (0)), some (eI (0)), some (eI (0))]) (s2 := [eI (v5), eR v1]) rfl rfl rfl ?_
  refine w_t (np := 21) (l2 := [some (eR a0), some (eR v1), some (eI (v5)), some (eI (0)), some (eI (0)), some (eI (0)), some (eI (0))]) (s2 := [eI (3), eI (v5), eR v1]) rfl rfl rfl ?_
  obtain ⟨v26, e27⟩ : ∃ zz : Int, zz = (v5) + (3) := ⟨_, rfl⟩
  have b28 : 3 ≤ v26 ∧ v26 ≤ 111 := by omega
  refine w_t (np := 22) (l2 := [some (eR a0), some (eR v1), some (eI (v5)), some (eI (0)), some (eI (0)), some (eI (0)), some (eI (0))]) (s2 := [eI (v26), eR v1]) rfl (b_iadd (by rw [← e27]; exact ev_w_in (by omega) (by omega))) rfl ?_
  refine w_t (np := 24) (l2 := [some (eR a0), some (eR v1), some (eI (v5)), some (eI (0)), some (eI (0)), some (eI (0)), some (eI (0))]) (s2 := [eI (0), eI (v26), eR v1]) rfl rfl rfl ?_
  refine j_as (np := 25) rfl rfl I23 b3 (by decide) (n := 10680) rfl rfl (lo := -2147483648) (hi := 2147483647) (fun _ => rfl) (by omega) (by omega) (by decide) ?_
  intro m29 I30 W31
  have F32 : Fr l_228 0 0 g μ m29 := F25.v W31 b3 rfl rfl
  refine v_rv rfl rfl ?_
  show ex_q (dt_fg L ρ) rc (d + 3, (228, 16, [some (eR a0), some (eI (a1)), some (eI (a2)), some (eI (a3)), some (eI (a4))], []), f :: F, m29)
  refine w_t (np := 17) (l2 := [some (eR a0), some (eI (a1)), some (eI (a2)), some (eI (a3)), some (eI (a4))]) (s2 := [eR a0]) rfl (s_an rfl (pos_g I30 gA0 (by decide))) rfl ?_
  refine w_t (np := 18) (l2 := [some (eR a0), some (eI (a1)), some (eI (a2)), some (eI (a3)), some (eI (a4))]) (s2 := [eI (a1), eR a0]) rfl rfl rfl ?_
  refine w_t (np := 19) (l2 := [some (eR a0), some (eI (a1)), some (eI (a2)), some (eI (a3)), some (eI (a4))]) (s2 := [eI (1), eI (a1), eR a0]) rfl rfl rfl ?_
  refine w_t (np := 20) (l2 := [some (eR a0), some (eI (a1)), some (eI (a2)), some (eI (a3)), some (eI (a4))]) (s2 := [eI (a3), eI (1), eI (a1), eR a0]) rfl rfl rfl ?_
  refine w_cw (np := 23) (as := [eI (a1), eI (1), eI (a3)]) (l2 := [some (eR a0), some (eI (a1)), some (eI (1)), some (eI (a3))]) (rest := []) rfl rfl rfl (Nat.ble_eq.mp rfl) rfl rfl rfl (I30.kd gA0 (by decide) (n := 69) rfl) rfl ?_
  refine s_227 (a1 := a1) (a2 := 1) (a3 := a3) I30 gA0 (by omega) (by decide) (by omega) ?_
  intro m33 I34 F35
  have F36 : Fr l_228 0 0 g μ m33 := F32.t F35 rfl
  show ex_q (dt_fg L ρ) rc (d + 3, (228, 23, [some (eR a0), some (eI (a1)), some (eI (a2)), some (eI (a3)), some (eI (a4))], []), f :: F, m33)
  refine w_t (np := 24) (l2 := [some (eR a0), some (eI (a1)), some (eI (a2)), some (eI (a3)), some (eI (a4))]) (s2 := [eR a0]) rfl (s_an rfl (pos_g I34 gA0 (by decide))) rfl ?_
  refine w_t (np := 25) (l2 := [some (eR a0), some (eI (a1)), some (eI (a2)), some (eI (a3)), some (eI (a4))]) (s2 := [eI (a1), eR a0]) rfl rfl rfl ?_
  refine w_t (np := 26) (l2 := [some (eR a0), some (eI (a1)), some (eI (a2)), some (eI (a3)), some (eI (a4))]) (s2 := [eI (2), eI (a1), eR a0]) rfl rfl rfl ?_
  refine w_t (np := 28) (l2 := [some (eR a0), some (eI (a1)), some (eI (a2)), some (eI (a3)), some (eI (a4))]) (s2 := [eI (a4), eI (2), eI (a1), eR a0]) rfl rfl rfl ?_
  refine w_cw (np := 31) (as := [eI (a1), eI (2), eI (a4)]) (l2 := [some (eR a0), some (eI (a1)), some (eI (2)), some (eI (a4))]) (rest := []) rfl rfl rfl (Nat.ble_eq.mp rfl) rfl rfl rfl (I34.kd gA0 (by decide) (n := 69) rfl) rfl ?_
  refine s_227 (a1 := a1) (a2 := 2) (a3 := a4) I34 gA0 (by omega) (by decide) (by omega) ?_
  intro m37 I38 F39
  have F40 : Fr l_228 0 0 g μ m37 := F36.t F39 rfl
  show ex_q (dt_fg L ρ) rc (d + 3, (228, 31, [some (eR a0), some (eI (a1)), some (eI (a2)), some (eI (a3)), some (eI (a4))], []), f :: F, m37)
  refine w_t (np := 32) (l2 := [some (eR a0), some (eI (a1)), some (eI (a2)), some (eI (a3)), some (eI (a4))]) (s2 := [eR a0]) rfl (s_an rfl (pos_g I38 gA0 (by decide))) rfl ?_
  refine j_gr (np := 35) rfl rfl I38 gA0 (by decide) (n := 69) rfl rfl rfl ?_
  intro v41 e42 b43 z44
  have b43 : g v41 = 56 := Nat.eq_of_beq_eq_true b43
  refine w_t (np := 36) (l2 := [some (eR a0), some (eI (a1)), some (eI (a2)), some (eI (a3)), some (eI (a4))]) (s2 := [eI (a1), eR v41]) rfl rfl rfl ?_
  refine w_t (np := 37) (l2 := [some (eR a0), some (eI (a1)), some (eI (a2)), some (eI (a3)), some (eI (a4))]) (s2 := [eI (a2), eI (a1), eR v41]) rfl rfl rfl ?_
  refine j_as (np := 38) rfl rfl I38 b43 (by decide) (n := 890) rfl rfl (lo := 0) (hi := 1) (fun _ => rfl) (by omega) (by omega) (by omega) ?_
  intro m45 I46 W47
  have F48 : Fr l_228 0 0 g μ m45 := F40.v W47 b43 rfl rfl
  exact v_rv rfl rfl (K m45 I46 F48)
def l_229 : List Nat := [15360, 13824, 15104, 14848, 14336, 13568]
theorem s_229 {L : Nat} {ρ : Nat → Int} {rc : eQ} {d : Nat} {f : eFr} {F : List eFr} {μ : eM} {g : Nat → Nat} {a0 : Nat} {a1 : Int} (hI : SI g μ) (gA0 : g a0 = 52) (bA1 : 0 ≤ a1 ∧ a1 ≤ 3) (K : ∀ (μ2 : eM), SI g μ2 → Fr l_229 0 0 g μ μ2 → ex_q (dt_fg L ρ) rc (d + 5, (f.1, f.2.1, f.2.2.1, f.2.2.2), F, μ2)) : ex_q (dt_fg L ρ) rc (d + 4, (229, 0, [some (eR a0), some (eI (a1)), none], []), f :: F, μ) := by
  have F0 : Fr l_229 0 0 g μ μ := Fr.r
  refine w_t (np := 1) (l2 := [some (eR a0), some (eI (a1)), none]) (s2 := [eI (a1)]) rfl rfl rfl ?_
  refine b_ine (t1 := 52) (t2 := 4) rfl rfl rfl (ev_w_in (by omega) (by omega)) (fun g1 => ?_) (fun g1 => ?_)
  · have b2 : 1 ≤ a1 ∧ a1 ≤ 3 := by omega
    refine w_t (np := 53) (l2 := [some (eR a0), some (eI (a1)), none]) (s2 := [eI (a1)]) rfl rfl rfl ?_
    refine w_t (np := 54) (l2 := [some (eR a0), some (eI (a1)), none]) (s2 := [eI (1), eI (a1)]) rfl rfl rfl ?_
    refine b_cne (t1 := 65) (t2 := 57) rfl rfl rfl (ev_w_in (by omega) (by omega)) rfl (fun g2 => ?_) (fun g2 => ?_)
    · have b3 : 2 ≤ a1 ∧ a1 ≤ 3 := by omega
      refine w_t (np := 66) (l2 := [some (eR a0), some (eI (a1)), none]) (s2 := [eI (a1)]) rfl rfl rfl ?_
      refine w_t (np := 67) (l2 := [some (eR a0), some (eI (a1)), none]) (s2 := [eI (2), eI (a1)]) rfl rfl rfl ?_
      refine b_clt (t1 := 78) (t2 := 70) rfl rfl rfl (ev_w_in (by omega) (by omega)) rfl (fun g3 => False.elim (by omega)) (fun g3 => ?_)
      refine w_t (np := 71) (l2 := [some (eR a0), some (eI (a1)), none]) (s2 := [eR a0]) rfl (s_an rfl (pos_g hI gA0 (by decide))) rfl ?_
      refine w_t (np := 72) (l2 := [some (eR a0), some (eI (a1)), none]) (s2 := [eI (0), eR a0]) rfl rfl rfl ?_
      refine w_t (np := 73) (l2 := [some (eR a0), some (eI (a1)), none]) (s2 := [eI (1), eI (0), eR a0]) rfl rfl rfl ?_
      refine w_t (np := 74) (l2 := [some (eR a0), some (eI (a1)), none]) (s2 := [eI (0), eI (1), eI (0), eR a0]) rfl rfl rfl ?_
      refine w_t (np := 75) (l2 := [some (eR a0), some (eI (a1)), none]) (s2 := [eI (3), eI (0), eI (1), eI (0), eR a0]) rfl rfl rfl ?_
      refine w_cw (np := 78) (as := [eI (0), eI (1), eI (0), eI (3)]) (l2 := [some (eR a0), some (eI (0)), some (eI (1)), some (eI (0)), some (eI (3))]) (rest := []) rfl rfl rfl (Nat.ble_eq.mp rfl) rfl rfl rfl (hI.kd gA0 (by decide) (n := 69) rfl) rfl ?_
      refine s_228 (a1 := 0) (a2 := 1) (a3 := 0) (a4 := 3) hI gA0 (by decide) (by decide) (by decide) (by decide) ?_
      intro m4 I5 F6
      have F7 : Fr l_229 0 0 g μ m4 := F0.t F6 rfl
      show ex_q (dt_fg L ρ) rc (d + 4, (229, 78, [some (eR a0), some (eI (a1)), none], []), f :: F, m4)
      refine w_t (np := 79) (l2 := [some (eR a0), some (eI (a1)), none]) (s2 := [eI (a1)]) rfl rfl rfl ?_
      refine w_t (np := 80) (l2 := [some (eR a0), some (eI (a1)), none]) (s2 := [eI (3), eI (a1)]) rfl rfl rfl ?_
      refine b_cne (t1 := 145) (t2 := 83) rfl rfl rfl (ev_w_in (by omega) (by omega)) rfl (fun g8 => ?_) (fun g8 => ?_)
      · have b9 : 2 ≤ a1 ∧ a1 ≤ 2 := by omega
        refine w_t (np := 146) (l2 := [some (eR a0), some (eI (a1)), none]) (s2 := [eR a0]) rfl (s_an rfl (pos_g I5 gA0 (by decide))) rfl ?_
        refine j_gr (np := 149) rfl rfl I5 gA0 (by decide) (n := 69) rfl rfl rfl ?_
        intro v9 e10 b11 z12
        have b11 : g v9 = 53 := Nat.eq_of_beq_eq_true b11
        refine w_t (np := 150) (l2 := [some (eR a0), some (eI (a1)), none]) (s2 := [eI (0), eR v9]) rfl rfl rfl ?_
        refine w_t (np := 151) (l2 := [some (eR a0), some (eI (a1)), none]) (s2 := [eI (a1), eI (0), eR v9]) rfl rfl rfl ?_
        refine b_ine (t1 := 159) (t2 := 154) rfl rfl rfl (ev_w_in (by omega) (by omega)) (fun g13 => ?_) (fun g13 => False.elim (by omega))
        refine w_t (np := 160) (l2 := [some (eR a0), some (eI (a1)), none]) (s2 := [eI (a1), eI (0), eR v9]) rfl rfl rfl ?_
        refine w_t (np := 161) (l2 := [some (eR a0), some (eI (a1)), none]) (s2 := [eI (3), eI (a1), eI (0), eR v9]) rfl rfl rfl ?_
        refine b_cne (t1 := 168) (t2 := 164) rfl rfl rfl (ev_w_in (by omega) (by omega)) rfl (fun g14 => ?_) (fun g14 => False.elim (by omega))
        refine w_t (np := 169) (l2 := [some (eR a0), some (eI (a1)), none]) (s2 := [eI (1), eI (0), eR v9]) rfl rfl rfl ?_
        refine j_as (np := 170) rfl rfl I5 b11 (by decide) (n := 6) rfl rfl (lo := 0) (hi := 890) (fun _ => rfl) (by decide) (by decide) (by decide) ?_
        intro m15 I16 W17
        have F18 : Fr l_229 0 0 g μ m15 := F7.v W17 b11 rfl rfl
        refine w_t (np := 171) (l2 := [some (eR a0), some (eI (a1)), none]) (s2 := [eI (0)]) rfl rfl rfl ?_
        refine w_t (np := 172) (l2 := [some (eR a0), some (eI (a1)), some (eI (0))]) (s2 := []) rfl rfl rfl ?_
        have hL172 : ∀ (n19 : Nat) (m23 : eM) (i21 : Int), SI g m23 → Fr l_229 0 0 g μ m23 → (0 ≤ i21 ∧ i21 ≤ 890) → m23.1 a0 9 = ((v9 : Nat) : Int) → n19 = (890 - i21).toNat → ex_q (dt_fg L ρ) rc (d + 4, (229, 172, [some (eR a0), some (eI (a1)), some (eI (i21))], []), f :: F, m23) := by
          intro n19
          induction n19 using Nat.strongRecOn with
          | _ n19 ih20 =>
          intro m23 i21 I24 F25 b22 k26 hn27
          refine w_t (np := 173) (l2 := [some (eR a0), some (eI (a1)), some (eI (i21))]) (s2 := [eI (i21)]) rfl rfl rfl ?_
          refine w_t (np := 174) (l2 := [some (eR a0), some (eI (a1)), some (eI (i21))]) (s2 := [eR a0, eI (i21)]) rfl (s_an rfl (pos_g I24 gA0 (by decide))) rfl ?_
          refine w_gf (np := 177) (v := eR v9) rfl rfl (I24.kd gA0 (by decide) (n := 69) rfl) (by rw [k26]; rfl) ?_
          refine w_t (np := 178) (l2 := [some (eR a0), some (eI (a1)), some (eI (i21))]) (s2 := [eI (0), eR v9, eI (i21)]) rfl rfl rfl ?_
          refine j_al (np := 179) rfl rfl I24 b11 (by decide) (n := 6) rfl rfl (lo := 0) (hi := 890) (fun _ => rfl) (by decide) (by decide) ?_
          intro v28 e29 b30
          refine b_cge (t1 := 209) (t2 := 182) rfl rfl rfl (ev_w_in (by omega) (by omega)) (ev_w_in (by omega) (by omega)) (fun g31 => ?_) (fun g31 => ?_)
          · exact v_rv rfl rfl (K m23 I24 F25)
          · have b32 : 0 ≤ i21 ∧ i21 ≤ 889 := by omega
            have b33 : 1 ≤ v28 ∧ v28 ≤ 890 := by omega
            refine w_t (np := 183) (l2 := [some (eR a0), some (eI (a1)), some (eI (i21))]) (s2 := [eR a0]) rfl (s_an rfl (pos_g I24 gA0 (by decide))) rfl ?_
            refine j_gr (np := 186) rfl rfl I24 gA0 (by decide) (n := 69) rfl rfl rfl ?_
            intro v32 e33 b34 z35
            have b34 : g v32 = 58 := Nat.eq_of_beq_eq_true b34
            refine w_t (np := 187) (l2 := [some (eR a0), some (eI (a1)), some (eI (i21))]) (s2 := [eI (i21), eR v32]) rfl rfl rfl ?_
            refine w_t (np := 188) (l2 := [some (eR a0), some (eI (a1)), some (eI (i21))]) (s2 := [eI (-1), eI (i21), eR v32]) rfl rfl rfl ?_
            refine j_as (np := 189) rfl rfl I24 b34 (by decide) (n := 5340) rfl rfl (lo := -1) (hi := 889) (fun _ => rfl) (by omega) (by omega) (by decide) ?_
            intro m36 I37 W38
            have F39 : Fr l_229 0 0 g μ m36 := F25.v W38 b34 rfl rfl
            refine w_t (np := 190) (l2 := [some (eR a0), some (eI (a1)), some (eI (i21))]) (s2 := [eR a0]) rfl (s_an rfl (pos_g I37 gA0 (by decide))) rfl ?_
            refine j_gr (np := 193) rfl rfl I37 gA0 (by decide) (n := 69) rfl rfl rfl ?_
            intro v40 e41 b42 z43
            have b42 : g v40 = 59 := Nat.eq_of_beq_eq_true b42
            refine w_t (np := 194) (l2 := [some (eR a0), some (eI (a1)), some (eI (i21))]) (s2 := [eI (i21), eR v40]) rfl rfl rfl ?_
            refine w_t (np := 195) (l2 := [some (eR a0), some (eI (a1)), some (eI (i21))]) (s2 := [eI (-1), eI (i21), eR v40]) rfl rfl rfl ?_
            refine j_as (np := 196) rfl rfl I37 b42 (by decide) (n := 5340) rfl rfl (lo := -2147483648) (hi := 2147483647) (fun _ => rfl) (by omega) (by omega) (by decide) ?_
            intro m44 I45 W46
            have F47 : Fr l_229 0 0 g μ m44 := F39.v W46 b42 rfl rfl
            refine w_t (np := 197) (l2 := [some (eR a0), some (eI (a1)), some (eI (i21))]) (s2 := [eR a0]) rfl (s_an rfl (pos_g I45 gA0 (by decide))) rfl ?_
            refine j_gr (np := 200) rfl rfl I45 gA0 (by decide) (n := 69) rfl rfl rfl ?_
            intro v48 e49 b50 z51
            have b50 : g v48 = 60 := Nat.eq_of_beq_eq_true b50
            refine w_t (np := 201) (l2 := [some (eR a0), some (eI (a1)), some (eI (i21))]) (s2 := [eI (i21), eR v48]) rfl rfl rfl ?_
            refine w_t (np := 202) (l2 := [some (eR a0), some (eI (a1)), some (eI (i21))]) (s2 := [eI (i21), eI (i21), eR v48]) rfl rfl rfl ?_
            refine j_as (np := 203) rfl rfl I45 b50 (by decide) (n := 890) rfl rfl (lo := -2147483648) (hi := 2147483647) (fun _ => rfl) (by omega) (by omega) (by omega) ?_
            intro m52 I53 W54
            have F55 : Fr l_229 0 0 g μ m52 := F47.v W54 b50 rfl rfl
            obtain ⟨v56, e57⟩ : ∃ zz : Int, zz = (i21) + (1) := ⟨_, rfl⟩
            have b58 : 1 ≤ v56 ∧ v56 ≤ 890 := by omega
            refine w_t (np := 206) (l2 := [some (eR a0), some (eI (a1)), some (eI (v56))]) (s2 := []) rfl (b_iinc rfl (by rw [← e57]; exact ev_w_in (by omega) (by omega)) rfl) rfl ?_
            refine w_go (t1 := 172) rfl rfl ?_
            exact ih20 (890 - (v56)).toNat (by omega) m52 (v56) I53 F55 (by omega) (W54.addr (W46.addr (W38.addr k26 b34 gA0 (by decide)) b42 gA0 (by decide)) b50 gA0 (by decide))  rfl
        exact hL172 _ m15 (0) I16 F18 (by decide) (W17.addr e10 b11 gA0 (by decide))  rfl
      · have b9 : 3 ≤ a1 ∧ a1 ≤ 3 := by omega
        refine w_t (np := 84) (l2 := [some (eR a0), some (eI (a1)), none]) (s2 := [eR a0]) rfl (s_an rfl (pos_g I5 gA0 (by decide))) rfl ?_
        refine w_t (np := 85) (l2 := [some (eR a0), some (eI (a1)), none]) (s2 := [eI (1), eR a0]) rfl rfl rfl ?_
        refine w_t (np := 86) (l2 := [some (eR a0), some (eI (a1)), none]) (s2 := [eI (1), eI (1), eR a0]) rfl rfl rfl ?_
        refine w_t (np := 87) (l2 := [some (eR a0), some (eI (a1)), none]) (s2 := [eI (0), eI (1), eI (1), eR a0]) rfl rfl rfl ?_
        refine w_t (np := 88) (l2 := [some (eR a0), some (eI (a1)), none]) (s2 := [eI (3), eI (0), eI (1), eI (1), eR a0]) rfl rfl rfl ?_
        refine w_cw (np := 91) (as := [eI (1), eI (1), eI (0), eI (3)]) (l2 := [some (eR a0), some (eI (1)), some (eI (1)), some (eI (0)), some (eI (3))]) (rest := []) rfl rfl rfl (Nat.ble_eq.mp rfl) rfl rfl rfl (I5.kd gA0 (by decide) (n := 69) rfl) rfl ?_
        refine s_228 (a1 := 1) (a2 := 1) (a3 := 0) (a4 := 3) I5 gA0 (by decide) (by decide) (by decide) (by decide) ?_
        intro m9 I10 F11
        have F12 : Fr l_229 0 0 g μ m9 := F7.t F11 rfl
        show ex_q (dt_fg L ρ) rc (d + 4, (229, 91, [some (eR a0), some (eI (a1)), none], []), f :: F, m9)
        refine w_t (np := 92) (l2 := [some (eR a0), some (eI (a1)), none]) (s2 := [eR a0]) rfl (s_an rfl (pos_g I10 gA0 (by decide))) rfl ?_
        refine w_t (np := 93) (l2 := [some (eR a0), some (eI (a1)), none]) (s2 := [eR a0, eR a0]) rfl (s_an rfl (pos_g I10 gA0 (by decide))) rfl ?_
        refine j_gr (np := 96) rfl rfl I10 gA0 (by decide) (n := 69) rfl rfl rfl ?_
        intro v13 e14 b15 z16
        have b15 : g v13 = 54 := Nat.eq_of_beq_eq_true b15
        refine w_t (np := 98) (l2 := [some (eR a0), some (eI (a1)), none]) (s2 := [eI (12), eR v13, eR a0]) rfl rfl rfl ?_
        refine w_t (np := 99) (l2 := [some (eR a0), some (eI (a1)), none]) (s2 := [eI (0), eI (12), eR v13, eR a0]) rfl rfl rfl ?_
        refine w_t (np := 100) (l2 := [some (eR a0), some (eI (a1)), none]) (s2 := [eI (0), eI (0), eI (12), eR v13, eR a0]) rfl rfl rfl ?_
        refine w_cu (np := 103) (as := [eI (0), eI (0)]) (l2 := [some (eI (0)), some (eI (0))]) (rest := [eI (12), eR v13, eR a0]) rfl rfl rfl (Nat.ble_eq.mp rfl) rfl rfl rfl rfl ?_
        refine s_218 (a0 := 0) (a1 := 0) I10 (by decide) (by decide) ?_
        intro v17 b18
        show ex_q (dt_fg L ρ) rc (d + 4, (229, 103, [some (eR a0), some (eI (a1)), none], [eI (v17), eI (12), eR v13, eR a0]), f :: F, m9)
        refine w_t (np := 104) (l2 := [some (eR a0), some (eI (a1)), none]) (s2 := [eI (3), eI (v17), eI (12), eR v13, eR a0]) rfl rfl rfl ?_
        refine w_t (np := 105) (l2 := [some (eR a0), some (eI (a1)), none]) (s2 := [eI (0), eI (3), eI (v17), eI (12), eR v13, eR a0]) rfl rfl rfl ?_
        refine w_cu (np := 108) (as := [eI (3), eI (0)]) (l2 := [some (eI (3)), some (eI (0))]) (rest := [eI (v17), eI (12), eR v13, eR a0]) rfl rfl rfl (Nat.ble_eq.mp rfl) rfl rfl rfl rfl ?_
        refine s_218 (a0 := 3) (a1 := 0) I10 (by decide) (by decide) ?_
        intro v19 b20
        show ex_q (dt_fg L ρ) rc (d + 4, (229, 108, [some (eR a0), some (eI (a1)), none], [eI (v19), eI (v17), eI (12), eR v13, eR a0]), f :: F, m9)
        obtain ⟨v21, e22⟩ : ∃ zz : Int, zz = (v17) + (v19) := ⟨_, rfl⟩
        have b23 : -2 ≤ v21 ∧ v21 ≤ 2 := by omega
        refine w_t (np := 109) (l2 := [some (eR a0), some (eI (a1)), none]) (s2 := [eI (v21), eI (12), eR v13, eR a0]) rfl (b_iadd (by rw [← e22]; exact ev_w_in (by omega) (by omega))) rfl ?_
        refine w_t (np := 110) (l2 := [some (eR a0), some (eI (a1)), none]) (s2 := [eI (0), eI (v21), eI (12), eR v13, eR a0]) rfl rfl rfl ?_
        refine w_t (np := 111) (l2 := [some (eR a0), some (eI (a1)), none]) (s2 := [eI (1), eI (0), eI (v21), eI (12), eR v13, eR a0]) rfl rfl rfl ?_
        refine w_cu (np := 114) (as := [eI (0), eI (1)]) (l2 := [some (eI (0)), some (eI (1))]) (rest := [eI (v21), eI (12), eR v13, eR a0]) rfl rfl rfl (Nat.ble_eq.mp rfl) rfl rfl rfl rfl ?_
        refine s_218 (a0 := 0) (a1 := 1) I10 (by decide) (by decide) ?_
        intro v24 b25
        show ex_q (dt_fg L ρ) rc (d + 4, (229, 114, [some (eR a0), some (eI (a1)), none], [eI (v24), eI (v21), eI (12), eR v13, eR a0]), f :: F, m9)
        refine w_t (np := 115) (l2 := [some (eR a0), some (eI (a1)), none]) (s2 := [eI (3), eI (v24), eI (v21), eI (12), eR v13, eR a0]) rfl rfl rfl ?_
        refine w_t (np := 116) (l2 := [some (eR a0), some (eI (a1)), none]) (s2 := [eI (1), eI (3), eI (v24), eI (v21), eI (12), eR v13, eR a0]) rfl rfl rfl ?_
        refine w_cu (np := 119) (as := [eI (3), eI (1)]) (l2 := [some (eI (3)), some (eI (1))]) (rest := [eI (v24), eI (v21), eI (12), eR v13, eR a0]) rfl rfl rfl (Nat.ble_eq.mp rfl) rfl rfl rfl rfl ?_
        refine s_218 (a0 := 3) (a1 := 1) I10 (by decide) (by decide) ?_
        intro v26 b27
        show ex_q (dt_fg L ρ) rc (d + 4, (229, 119, [some (eR a0), some (eI (a1)), none], [eI (v26), eI (v24), eI (v21), eI (12), eR v13, eR a0]), f :: F, m9)
        obtain ⟨v28, e29⟩ : ∃ zz : Int, zz = (v24) + (v26) := ⟨_, rfl⟩
        have b30 : -2 ≤ v28 ∧ v28 ≤ 2 := by omega
        refine w_t (np := 120) (l2 := [some (eR a0), some (eI (a1)), none]) (s2 := [eI (v28), eI (v21), eI (12), eR v13, eR a0]) rfl (b_iadd (by rw [← e29]; exact ev_w_in (by omega) (by omega))) rfl ?_
        refine w_t (np := 121) (l2 := [some (eR a0), some (eI (a1)), none]) (s2 := [eI (0), eI (v28), eI (v21), eI (12), eR v13, eR a0]) rfl rfl rfl ?_
        refine w_t (np := 122) (l2 := [some (eR a0), some (eI (a1)), none]) (s2 := [eI (2), eI (0), eI (v28), eI (v21), eI (12), eR v13, eR a0]) rfl rfl rfl ?_
        refine w_cu (np := 125) (as := [eI (0), eI (2)]) (l2 := [some (eI (0)), some (eI (2))]) (rest := [eI (v28), eI (v21), eI (12), eR v13, eR a0]) rfl rfl rfl (Nat.ble_eq.mp rfl) rfl rfl rfl rfl ?_
        refine s_218 (a0 := 0) (a1 := 2) I10 (by decide) (by decide) ?_
        intro v31 b32
        show ex_q (dt_fg L ρ) rc (d + 4, (229, 125, [some (eR a0), some (eI (a1)), none], [eI (v31), eI (v28), eI (v21), eI (12), eR v13, eR a0]), f :: F, m9)
        refine w_t (np := 126) (l2 := [some (eR a0), some (eI (a1)), none]) (s2 := [eI (3), eI (v31), eI (v28), eI (v21), eI (12), eR v13, eR a0]) rfl rfl rfl ?_
        refine w_t (np := 127) (l2 := [some (eR a0), some (eI (a1)), none]) (s2 := [eI (2), eI (3), eI (v31), eI (v28), eI (v21), eI (12), eR v13, eR a0]) rfl rfl rfl ?_
        refine w_cu (np := 130) (as := [eI (3), eI (2)]) (l2 := [some (eI (3)), some (eI (2))]) (rest := [eI (v31), eI (v28), eI (v21), eI (12), eR v13, eR a0]) rfl rfl rfl (Nat.ble_eq.mp rfl) rfl rfl rfl rfl ?_
        refine s_218 (a0 := 3) (a1 := 2) I10 (by decide) (by decide) ?_
        intro v33 b34
        show ex_q (dt_fg L ρ) rc (d + 4, (229, 130, [some (eR a0), some (eI (a1)), none], [eI (v33), eI (v31), eI (v28), eI (v21), eI (12), eR v13, eR a0]), f :: F, m9)
        obtain ⟨v35, e36⟩ : ∃ zz : Int, zz = (v31) + (v33) := ⟨_, rfl⟩
        have b37 : -2 ≤ v35 ∧ v35 ≤ 2 := by omega
        refine w_t (np := 131) (l2 := [some (eR a0), some (eI (a1)), none]) (s2 := [eI (v35), eI (v28), eI (v21), eI (12), eR v13, eR a0]) rfl (b_iadd (by rw [← e36]; exact ev_w_in (by omega) (by omega))) rfl ?_
        refine w_t (np := 132) (l2 := [some (eR a0), some (eI (a1)), none]) (s2 := [eI (0), eI (v35), eI (v28), eI (v21), eI (12), eR v13, eR a0]) rfl rfl rfl ?_
        refine w_t (np := 133) (l2 := [some (eR a0), some (eI (a1)), none]) (s2 := [eI (3), eI (0), eI (v35), eI (v28), eI (v21), eI (12), eR v13, eR a0]) rfl rfl rfl ?_
        refine w_cu (np := 136) (as := [eI (0), eI (3)]) (l2 := [some (eI (0)), some (eI (3))]) (rest := [eI (v35), eI (v28), eI (v21), eI (12), eR v13, eR a0]) rfl rfl rfl (Nat.ble_eq.mp rfl) rfl rfl rfl rfl ?_
        refine s_218 (a0 := 0) (a1 := 3) I10 (by decide) (by decide) ?_
        intro v38 b39
        show ex_q (dt_fg L ρ) rc (d + 4, (229, 136, [some (eR a0), some (eI (a1)), none], [eI (v38), eI (v35), eI (v28), eI (v21), eI (12), eR v13, eR a0]), f :: F, m9)
        refine w_t (np := 137) (l2 := [some (eR a0), some (eI (a1)), none]) (s2 := [eI (3), eI (v38), eI (v35), eI (v28), eI (v21), eI (12), eR v13, eR a0]) rfl rfl rfl ?_
        refine w_t (np := 138) (l2 := [some (eR a0), some (eI (a1)), none]) (s2 := [eI (3), eI (3), eI (v38), eI (v35), eI (v28), eI (v21), eI (12), eR v13, eR a0]) rfl rfl rfl ?_
        refine w_cu (np := 141) (as := [eI (3), eI (3)]) (l2 := [some (eI (3)), some (eI (3))]) (rest := [eI (v38), eI (v35), eI (v28), eI (v21), eI (12), eR v13, eR a0]) rfl rfl rfl (Nat.ble_eq.mp rfl) rfl rfl rfl rfl ?_
        refine s_218 (a0 := 3) (a1 := 3) I10 (by decide) (by decide) ?_
        intro v40 b41
        show ex_q (dt_fg L ρ) rc (d + 4, (229, 141, [some (eR a0), some (eI (a1)), none], [eI (v40), eI (v38), eI (v35), eI (v28), eI (v21), eI (12), eR v13, eR a0]), f :: F, m9)
        obtain ⟨v42, e43⟩ : ∃ zz : Int, zz = (v38) + (v40) := ⟨_, rfl⟩
        have b44 : -2 ≤ v42 ∧ v42 ≤ 2 := by omega
        refine w_t (np := 142) (l2 := [some (eR a0), some (eI (a1)), none]) (s2 := [eI (v42), eI (v35), eI (v28), eI (v21), eI (12), eR v13, eR a0]) rfl (b_iadd (by rw [← e43]; exact ev_w_in (by omega) (by omega))) rfl ?_
        refine w_cw (np := 145) (as := [eR v13, eI (12), eI (v21), eI (v28), eI (v35), eI (v42)]) (l2 := [some (eR a0), some (eR v13), some (eI (12)), some (eI (v21)), some (eI (v28)), some (eI (v35)), some (eI (v42))]) (rest := []) rfl rfl rfl (Nat.ble_eq.mp rfl) rfl rfl rfl (I10.kd gA0 (by decide) (n := 69) rfl) rfl ?_
        refine w_t (np := 1) (l2 := [some (eR a0), some (eR v13), some (eI (12)), some (eI (v21)), some (eI (v28)), some (eI (v35)), some (eI (v42))]) (s2 := [eR v13]) rfl (s_an rfl (pos_g I10 b15 (by decide))) rfl ?_
        refine w_t (np := 2) (l2 := [some (eR a0), some (eR v13), some (eI (12)), some (eI (v21)), some (eI (v28)), some (eI (v35)), some (eI (v42))]) (s2 := [eI (12), eR v13]) rfl rfl rfl ?_
        refine w_t (np := 3) (l2 := [some (eR a0), some (eR v13), some (eI (12)), some (eI (v21)), some (eI (v28)), some (eI (v35)), some (eI (v42))]) (s2 := [eI (v21), eI (12), eR v13]) rfl rfl rfl ?_
        refine j_as (np := 4) rfl rfl I10 b15 (by decide) (n := 10680) rfl rfl (lo := -2147483648) (hi := 2147483647) (fun _ => rfl) (by decide) (by decide) (by omega) ?_
        intro m45 I46 W47
        have F48 : Fr l_229 0 0 g μ m45 := F12.v W47 b15 rfl rfl
        refine w_t (np := 5) (l2 := [some (eR a0), some (eR v13), some (eI (12)), some (eI (v21)), some (eI (v28)), some (eI (v35)), some (eI (v42))]) (s2 := [eR v13]) rfl (s_an rfl (pos_g I46 b15 (by decide))) rfl ?_
        refine w_t (np := 6) (l2 := [some (eR a0), some (eR v13), some (eI (12)), some (eI (v21)), some (eI (v28)), some (eI (v35)), some (eI (v42))]) (s2 := [eI (12), eR v13]) rfl rfl rfl ?_
        refine w_t (np := 7) (l2 := [some (eR a0), some (eR v13), some (eI (12)), some (eI (v21)), some (eI (v28)), some (eI (v35)), some (eI (v42))]) (s2 := [eI (1), eI (12), eR v13]) rfl rfl rfl ?_
        refine w_t (np := 8) (l2 := [some (eR a0), some (eR v13), some (eI (12)), some (eI (v21)), some (eI (v28)), some (eI (v35)), some (eI (v42))]) (s2 := [eI (13), eR v13]) rfl (b_iadd rfl) rfl ?_
        refine w_t (np := 10) (l2 := [some (eR a0), some (eR v13), some (eI (12)), some (eI (v21)), some (eI (v28)), some (eI (v35)), some (eI (v42))]) (s2 := [eI (v28), eI (13), eR v13]) rfl rfl rfl ?_
        refine j_as (np := 11) rfl rfl I46 b15 (by decide) (n := 10680) rfl rfl (lo := -2147483648) (hi := 2147483647) (fun _ => rfl) (by decide) (by decide) (by omega) ?_
        intro m49 I50 W51
        have F52 : Fr l_229 0 0 g μ m49 := F48.v W51 b15 rfl rfl
        refine w_t (np := 12) (l2 := [some (eR a0), some (eR v13), some (eI (12)), some (eI (v21)), some (eI (v28)), some (eI (v35)), some (eI (v42))]) (s2 := [eR v13]) rfl (s_an rfl (pos_g I50 b15 (by decide))) rfl ?_
        refine w_t (np := 13) (l2 := [some (eR a0), some (eR v13), some (eI (12)), some (eI (v21)), some (eI (v28)), some (eI (v35)), some (eI (v42))]) (s2 := [eI (12), eR v13]) rfl rfl rfl ?_
        refine w_t (np := 14) (l2 := [some (eR a0), some (eR v13), some (eI (12)), some (eI (v21)), some (eI (v28)), some (eI (v35)), some (eI (v42))]) (s2 := [eI (2), eI (12), eR v13]) rfl rfl rfl ?_
        refine w_t (np := 15) (l2 := [some (eR a0), some (eR v13), some (eI (12)), some (eI (v21)), some (eI (v28)), some (eI (v35)), some (eI (v42))]) (s2 := [eI (14), eR v13]) rfl (b_iadd rfl) rfl ?_
        refine w_t (np := 17) (l2 := [some (eR a0), some (eR v13), some (eI (12)), some (eI (v21)), some (eI (v28)), some (eI (v35)), some (eI (v42))]) (s2 := [eI (v35), eI (14), eR v13]) rfl rfl rfl ?_
        refine j_as (np := 18) rfl rfl I50 b15 (by decide) (n := 10680) rfl rfl (lo := -2147483648) (hi := 2147483647) (fun _ => rfl) (by decide) (by decide) (by omega) ?_
        intro m53 I54 W55
        have F56 : Fr l_229 0 0 g μ m53 := F52.v W55 b15 rfl rfl
        refine w_t (np := 19) (l2 := [some (eR a0), some (eR v13), some (eI (12)), some (eI (v21)), some (eI (v28)), some (eI (v35)), some (eI (v42))]) (s2 := [eR v13]) rfl (s_an rfl (pos_g I54 b15 (by decide))) rfl ?_
        refine w_t (np := 20) (l2 := [some (eR a0), some (eR v13), some (eI (12)), some (eI (v21)), some (eI (v28)), some (eI (v35)), some (eI (v42))]) (s2 := [eI (12), eR v13]) rfl rfl rfl ?_
        refine w_t (np := 21) (l2 := [some (eR a0), some (eR v13), some (eI (12)), some (eI (v21)), some (eI (v28)), some (eI (v35)), some (eI (v42))]) (s2 := [eI (3), eI (12), eR v13]) rfl rfl rfl ?_
        refine w_t (np := 22) (l2 := [some (eR a0), some (eR v13), some (eI (12)), some (eI (v21)), some (eI (v28)), some (eI (v35)), some (eI (v42))]) (s2 := [eI (15), eR v13]) rfl (b_iadd rfl) rfl ?_
        refine w_t (np := 24) (l2 := [some (eR a0), some (eR v13), some (eI (12)), some (eI (v21)), some (eI (v28)), some (eI (v35)), some (eI (v42))]) (s2 := [eI (v42), eI (15), eR v13]) rfl rfl rfl ?_
        refine j_as (np := 25) rfl rfl I54 b15 (by decide) (n := 10680) rfl rfl (lo := -2147483648) (hi := 2147483647) (fun _ => rfl) (by decide) (by decide) (by omega) ?_
        intro m57 I58 W59
        have F60 : Fr l_229 0 0 g μ m57 := F56.v W59 b15 rfl rfl
        refine v_rv rfl rfl ?_
        show ex_q (dt_fg L ρ) rc (d + 4, (229, 145, [some (eR a0), some (eI (a1)), none], []), f :: F, m57)
        refine w_t (np := 146) (l2 := [some (eR a0), some (eI (a1)), none]) (s2 := [eR a0]) rfl (s_an rfl (pos_g I58 gA0 (by decide))) rfl ?_
        refine j_gr (np := 149) rfl rfl I58 gA0 (by decide) (n := 69) rfl rfl rfl ?_
        intro v61 e62 b63 z64
        have b63 : g v61 = 53 := Nat.eq_of_beq_eq_true b63
        refine w_t (np := 150) (l2 := [some (eR a0), some (eI (a1)), none]) (s2 := [eI (0), eR v61]) rfl rfl rfl ?_
        refine w_t (np := 151) (l2 := [some (eR a0), some (eI (a1)), none]) (s2 := [eI (a1), eI (0), eR v61]) rfl rfl rfl ?_
        refine b_ine (t1 := 159) (t2 := 154) rfl rfl rfl (ev_w_in (by omega) (by omega)) (fun g65 => ?_) (fun g65 => False.elim (by omega))
        refine w_t (np := 160) (l2 := [some (eR a0), some (eI (a1)), none]) (s2 := [eI (a1), eI (0), eR v61]) rfl rfl rfl ?_
        refine w_t (np := 161) (l2 := [some (eR a0), some (eI (a1)), none]) (s2 := [eI (3), eI (a1), eI (0), eR v61]) rfl rfl rfl ?_
        refine b_cne (t1 := 168) (t2 := 164) rfl rfl rfl (ev_w_in (by omega) (by omega)) rfl (fun g66 => False.elim (by omega)) (fun g66 => ?_)
        refine w_t (np := 165) (l2 := [some (eR a0), some (eI (a1)), none]) (s2 := [eI (2), eI (0), eR v61]) rfl rfl rfl ?_
        refine w_go (t1 := 169) rfl rfl ?_
        refine j_as (np := 170) rfl rfl I58 b63 (by decide) (n := 6) rfl rfl (lo := 0) (hi := 890) (fun _ => rfl) (by decide) (by decide) (by decide) ?_
        intro m67 I68 W69
        have F70 : Fr l_229 0 0 g μ m67 := F60.v W69 b63 rfl rfl
        refine w_t (np := 171) (l2 := [some (eR a0), some (eI (a1)), none]) (s2 := [eI (0)]) rfl rfl rfl ?_
        refine w_t (np := 172) (l2 := [some (eR a0), some (eI (a1)), some (eI (0))]) (s2 := []) rfl rfl rfl ?_
        have hL172 : ∀ (n71 : Nat) (m75 : eM) (i73 : Int), SI g m75 → Fr l_229 0 0 g μ m75 → (0 ≤ i73 ∧ i73 ≤ 890) → m75.1 a0 10 = ((v13 : Nat) : Int) → m75.1 a0 9 = ((v61 : Nat) : Int) → n71 = (890 - i73).toNat → ex_q (dt_fg L ρ) rc (d + 4, (229, 172, [some (eR a0), some (eI (a1)), some (eI (i73))], []), f :: F, m75) := by
          intro n71
          induction n71 using Nat.strongRecOn with
          | _ n71 ih72 =>
          intro m75 i73 I76 F77 b74 k78 k79 hn80
          refine w_t (np := 173) (l2 := [some (eR a0), some (eI (a1)), some (eI (i73))]) (s2 := [eI (i73)]) rfl rfl rfl ?_
          refine w_t (np := 174) (l2 := [some (eR a0), some (eI (a1)), some (eI (i73))]) (s2 := [eR a0, eI (i73)]) rfl (s_an rfl (pos_g I76 gA0 (by decide))) rfl ?_
          refine w_gf (np := 177) (v := eR v61) rfl rfl (I76.kd gA0 (by decide) (n := 69) rfl) (by rw [k79]; rfl) ?_
          refine w_t (np := 178) (l2 := [some (eR a0), some (eI (a1)), some (eI (i73))]) (s2 := [eI (0), eR v61, eI (i73)]) rfl rfl rfl ?_
          refine j_al (np := 179) rfl rfl I76 b63 (by decide) (n := 6) rfl rfl (lo := 0) (hi := 890) (fun _ => rfl) (by decide) (by decide) ?_
          intro v81 e82 b83
          refine b_cge (t1 := 209) (t2 := 182) rfl rfl rfl (ev_w_in (by omega) (by omega)) (ev_w_in (by omega) (by omega)) (fun g84 => ?_) (fun g84 => ?_)
          · exact v_rv rfl rfl (K m75 I76 F77)
          · have b85 : 0 ≤ i73 ∧ i73 ≤ 889 := by omega
            have b86 : 1 ≤ v81 ∧ v81 ≤ 890 := by omega
            refine w_t (np := 183) (l2 := [some (eR a0), some (eI (a1)), some (eI (i73))]) (s2 := [eR a0]) rfl (s_an rfl (pos_g I76 gA0 (by decide))) rfl ?_
            refine j_gr (np := 186) rfl rfl I76 gA0 (by decide) (n := 69) rfl rfl rfl ?_
            intro v85 e86 b87 z88
            have b87 : g v85 = 58 := Nat.eq_of_beq_eq_true b87
            refine w_t (np := 187) (l2 := [some (eR a0), some (eI (a1)), some (eI (i73))]) (s2 := [eI (i73), eR v85]) rfl rfl rfl ?_
            refine w_t (np := 188) (l2 := [some (eR a0), some (eI (a1)), some (eI (i73))]) (s2 := [eI (-1), eI (i73), eR v85]) rfl rfl rfl ?_
            refine j_as (np := 189) rfl rfl I76 b87 (by decide) (n := 5340) rfl rfl (lo := -1) (hi := 889) (fun _ => rfl) (by omega) (by omega) (by decide) ?_
            intro m89 I90 W91
            have F92 : Fr l_229 0 0 g μ m89 := F77.v W91 b87 rfl rfl
            refine w_t (np := 190) (l2 := [some (eR a0), some (eI (a1)), some (eI (i73))]) (s2 := [eR a0]) rfl (s_an rfl (pos_g I90 gA0 (by decide))) rfl ?_
            refine j_gr (np := 193) rfl rfl I90 gA0 (by decide) (n := 69) rfl rfl rfl ?_
            intro v93 e94 b95 z96
            have b95 : g v93 = 59 := Nat.eq_of_beq_eq_true b95
            refine w_t (np := 194) (l2 := [some (eR a0), some (eI (a1)), some (eI (i73))]) (s2 := [eI (i73), eR v93]) rfl rfl rfl ?_
            refine w_t (np := 195) (l2 := [some (eR a0), some (eI (a1)), some (eI (i73))]) (s2 := [eI (-1), eI (i73), eR v93]) rfl rfl rfl ?_
            refine j_as (np := 196) rfl rfl I90 b95 (by decide) (n := 5340) rfl rfl (lo := -2147483648) (hi := 2147483647) (fun _ => rfl) (by omega) (by omega) (by decide) ?_
            intro m97 I98 W99
            have F100 : Fr l_229 0 0 g μ m97 := F92.v W99 b95 rfl rfl
            refine w_t (np := 197) (l2 := [some (eR a0), some (eI (a1)), some (eI (i73))]) (s2 := [eR a0]) rfl (s_an rfl (pos_g I98 gA0 (by decide))) rfl ?_
            refine j_gr (np := 200) rfl rfl I98 gA0 (by decide) (n := 69) rfl rfl rfl ?_
            intro v101 e102 b103 z104
            have b103 : g v101 = 60 := Nat.eq_of_beq_eq_true b103
            refine w_t (np := 201) (l2 := [some (eR a0), some (eI (a1)), some (eI (i73))]) (s2 := [eI (i73), eR v101]) rfl rfl rfl ?_
            refine w_t (np := 202) (l2 := [some (eR a0), some (eI (a1)), some (eI (i73))]) (s2 := [eI (i73), eI (i73), eR v101]) rfl rfl rfl ?_
            refine j_as (np := 203) rfl rfl I98 b103 (by decide) (n := 890) rfl rfl (lo := -2147483648) (hi := 2147483647) (fun _ => rfl) (by omega) (by omega) (by omega) ?_
            intro m105 I106 W107
            have F108 : Fr l_229 0 0 g μ m105 := F100.v W107 b103 rfl rfl
            obtain ⟨v109, e110⟩ : ∃ zz : Int, zz = (i73) + (1) := ⟨_, rfl⟩
            have b111 : 1 ≤ v109 ∧ v109 ≤ 890 := by omega
            refine w_t (np := 206) (l2 := [some (eR a0), some (eI (a1)), some (eI (v109))]) (s2 := []) rfl (b_iinc rfl (by rw [← e110]; exact ev_w_in (by omega) (by omega)) rfl) rfl ?_
            refine w_go (t1 := 172) rfl rfl ?_
            exact ih72 (890 - (v109)).toNat (by omega) m105 (v109) I106 F108 (by omega) (W107.addr (W99.addr (W91.addr k78 b87 gA0 (by decide)) b95 gA0 (by decide)) b103 gA0 (by decide)) (W107.addr (W99.addr (W91.addr k79 b87 gA0 (by decide)) b95 gA0 (by decide)) b103 gA0 (by decide))  rfl
        exact hL172 _ m67 (0) I68 F70 (by decide) (W69.addr (W59.addr (W55.addr (W51.addr (W47.addr e14 b15 gA0 (by decide)) b15 gA0 (by decide)) b15 gA0 (by decide)) b15 gA0 (by decide)) b63 gA0 (by decide)) (W69.addr e62 b63 gA0 (by decide))  rfl
    · have b3 : 1 ≤ a1 ∧ a1 ≤ 1 := by omega
      refine w_t (np := 58) (l2 := [some (eR a0), some (eI (a1)), none]) (s2 := [eR a0]) rfl (s_an rfl (pos_g hI gA0 (by decide))) rfl ?_
      refine w_t (np := 59) (l2 := [some (eR a0), some (eI (a1)), none]) (s2 := [eI (0), eR a0]) rfl rfl rfl ?_
      refine w_t (np := 60) (l2 := [some (eR a0), some (eI (a1)), none]) (s2 := [eI (0), eI (0), eR a0]) rfl rfl rfl ?_
      refine w_t (np := 61) (l2 := [some (eR a0), some (eI (a1)), none]) (s2 := [eI (0), eI (0), eI (0), eR a0]) rfl rfl rfl ?_
      refine w_t (np := 62) (l2 := [some (eR a0), some (eI (a1)), none]) (s2 := [eI (1), eI (0), eI (0), eI (0), eR a0]) rfl rfl rfl ?_
      refine w_cw (np := 65) (as := [eI (0), eI (0), eI (0), eI (1)]) (l2 := [some (eR a0), some (eI (0)), some (eI (0)), some (eI (0)), some (eI (1))]) (rest := []) rfl rfl rfl (Nat.ble_eq.mp rfl) rfl rfl rfl (hI.kd gA0 (by decide) (n := 69) rfl) rfl ?_
      refine s_228 (a1 := 0) (a2 := 0) (a3 := 0) (a4 := 1) hI gA0 (by decide) (by decide) (by decide) (by decide) ?_
      intro m3 I4 F5
      have F6 : Fr l_229 0 0 g μ m3 := F0.t F5 rfl
      show ex_q (dt_fg L ρ) rc (d + 4, (229, 65, [some (eR a0), some (eI (a1)), none], []), f :: F, m3)
      refine w_t (np := 66) (l2 := [some (eR a0), some (eI (a1)), none]) (s2 := [eI (a1)]) rfl rfl rfl ?_
      refine w_t (np := 67) (l2 := [some (eR a0), some (eI (a1)), none]) (s2 := [eI (2), eI (a1)]) rfl rfl rfl ?_
      refine b_clt (t1 := 78) (t2 := 70) rfl rfl rfl (ev_w_in (by omega) (by omega)) rfl (fun g7 => ?_) (fun g7 => False.elim (by omega))
      refine w_t (np := 79) (l2 := [some (eR a0), some (eI (a1)), none]) (s2 := [eI (a1)]) rfl rfl rfl ?_
      refine w_t (np := 80) (l2 := [some (eR a0), some (eI (a1)), none]) (s2 := [eI (3), eI (a1)]) rfl rfl rfl ?_
      refine b_cne (t1 := 145) (t2 := 83) rfl rfl rfl (ev_w_in (by omega) (by omega)) rfl (fun g8 => ?_) (fun g8 => False.elim (by omega))
      refine w_t (np := 146) (l2 := [some (eR a0), some (eI (a1)), none]) (s2 := [eR a0]) rfl (s_an rfl (pos_g I4 gA0 (by decide))) rfl ?_
      refine j_gr (np := 149) rfl rfl I4 gA0 (by decide) (n := 69) rfl rfl rfl ?_
      intro v9 e10 b11 z12
      have b11 : g v9 = 53 := Nat.eq_of_beq_eq_true b11
      refine w_t (np := 150) (l2 := [some (eR a0), some (eI (a1)), none]) (s2 := [eI (0), eR v9]) rfl rfl rfl ?_
      refine w_t (np := 151) (l2 := [some (eR a0), some (eI (a1)), none]) (s2 := [eI (a1), eI (0), eR v9]) rfl rfl rfl ?_
      refine b_ine (t1 := 159) (t2 := 154) rfl rfl rfl (ev_w_in (by omega) (by omega)) (fun g13 => ?_) (fun g13 => False.elim (by omega))
      refine w_t (np := 160) (l2 := [some (eR a0), some (eI (a1)), none]) (s2 := [eI (a1), eI (0), eR v9]) rfl rfl rfl ?_
      refine w_t (np := 161) (l2 := [some (eR a0), some (eI (a1)), none]) (s2 := [eI (3), eI (a1), eI (0), eR v9]) rfl rfl rfl ?_
      refine b_cne (t1 := 168) (t2 := 164) rfl rfl rfl (ev_w_in (by omega) (by omega)) rfl (fun g14 => ?_) (fun g14 => False.elim (by omega))
      refine w_t (np := 169) (l2 := [some (eR a0), some (eI (a1)), none]) (s2 := [eI (1), eI (0), eR v9]) rfl rfl rfl ?_
      refine j_as (np := 170) rfl rfl I4 b11 (by decide) (n := 6) rfl rfl (lo := 0) (hi := 890) (fun _ => rfl) (by decide) (by decide) (by decide) ?_
      intro m15 I16 W17
      have F18 : Fr l_229 0 0 g μ m15 := F6.v W17 b11 rfl rfl
      refine w_t (np := 171) (l2 := [some (eR a0), some (eI (a1)), none]) (s2 := [eI (0)]) rfl rfl rfl ?_
      refine w_t (np := 172) (l2 := [some (eR a0), some (eI (a1)), some (eI (0))]) (s2 := []) rfl rfl rfl ?_
      have hL172 : ∀ (n19 : Nat) (m23 : eM) (i21 : Int), SI g m23 → Fr l_229 0 0 g μ m23 → (0 ≤ i21 ∧ i21 ≤ 890) → m23.1 a0 9 = ((v9 : Nat) : Int) → n19 = (890 - i21).toNat → ex_q (dt_fg L ρ) rc (d + 4, (229, 172, [some (eR a0), some (eI (a1)), some (eI (i21))], []), f :: F, m23) := by
        intro n19
        induction n19 using Nat.strongRecOn with
        | _ n19 ih20 =>
        intro m23 i21 I24 F25 b22 k26 hn27
        refine w_t (np := 173) (l2 := [some (eR a0), some (eI (a1)), some (eI (i21))]) (s2 := [eI (i21)]) rfl rfl rfl ?_
        refine w_t (np := 174) (l2 := [some (eR a0), some (eI (a1)), some (eI (i21))]) (s2 := [eR a0, eI (i21)]) rfl (s_an rfl (pos_g I24 gA0 (by decide))) rfl ?_
        refine w_gf (np := 177) (v := eR v9) rfl rfl (I24.kd gA0 (by decide) (n := 69) rfl) (by rw [k26]; rfl) ?_
        refine w_t (np := 178) (l2 := [some (eR a0), some (eI (a1)), some (eI (i21))]) (s2 := [eI (0), eR v9, eI (i21)]) rfl rfl rfl ?_
        refine j_al (np := 179) rfl rfl I24 b11 (by decide) (n := 6) rfl rfl (lo := 0) (hi := 890) (fun _ => rfl) (by decide) (by decide) ?_
        intro v28 e29 b30
        refine b_cge (t1 := 209) (t2 := 182) rfl rfl rfl (ev_w_in (by omega) (by omega)) (ev_w_in (by omega) (by omega)) (fun g31 => ?_) (fun g31 => ?_)
        · exact v_rv rfl rfl (K m23 I24 F25)
        · have b32 : 0 ≤ i21 ∧ i21 ≤ 889 := by omega
          have b33 : 1 ≤ v28 ∧ v28 ≤ 890 := by omega
          refine w_t (np := 183) (l2 := [some (eR a0), some (eI (a1)), some (eI (i21))]) (s2 := [eR a0]) rfl (s_an rfl (pos_g I24 gA0 (by decide))) rfl ?_
          refine j_gr (np := 186) rfl rfl I24 gA0 (by decide) (n := 69) rfl rfl rfl ?_
          intro v32 e33 b34 z35
          have b34 : g v32 = 58 := Nat.eq_of_beq_eq_true b34
          refine w_t (np := 187) (l2 := [some (eR a0), some (eI (a1)), some (eI (i21))]) (s2 := [eI (i21), eR v32]) rfl rfl rfl ?_
          refine w_t (np := 188) (l2 := [some (eR a0), some (eI (a1)), some (eI (i21))]) (s2 := [eI (-1), eI (i21), eR v32]) rfl rfl rfl ?_
          refine j_as (np := 189) rfl rfl I24 b34 (by decide) (n := 5340) rfl rfl (lo := -1) (hi := 889) (fun _ => rfl) (by omega) (by omega) (by decide) ?_
          intro m36 I37 W38
          have F39 : Fr l_229 0 0 g μ m36 := F25.v W38 b34 rfl rfl
          refine w_t (np := 190) (l2 := [some (eR a0), some (eI (a1)), some (eI (i21))]) (s2 := [eR a0]) rfl (s_an rfl (pos_g I37 gA0 (by decide))) rfl ?_
          refine j_gr (np := 193) rfl rfl I37 gA0 (by decide) (n := 69) rfl rfl rfl ?_
          intro v40 e41 b42 z43
          have b42 : g v40 = 59 := Nat.eq_of_beq_eq_true b42
          refine w_t (np := 194) (l2 := [some (eR a0), some (eI (a1)), some (eI (i21))]) (s2 := [eI (i21), eR v40]) rfl rfl rfl ?_
          refine w_t (np := 195) (l2 := [some (eR a0), some (eI (a1)), some (eI (i21))]) (s2 := [eI (-1), eI (i21), eR v40]) rfl rfl rfl ?_
          refine j_as (np := 196) rfl rfl I37 b42 (by decide) (n := 5340) rfl rfl (lo := -2147483648) (hi := 2147483647) (fun _ => rfl) (by omega) (by omega) (by decide) ?_
          intro m44 I45 W46
          have F47 : Fr l_229 0 0 g μ m44 := F39.v W46 b42 rfl rfl
          refine w_t (np := 197) (l2 := [some (eR a0), some (eI (a1)), some (eI (i21))]) (s2 := [eR a0]) rfl (s_an rfl (pos_g I45 gA0 (by decide))) rfl ?_
          refine j_gr (np := 200) rfl rfl I45 gA0 (by decide) (n := 69) rfl rfl rfl ?_
          intro v48 e49 b50 z51
          have b50 : g v48 = 60 := Nat.eq_of_beq_eq_true b50
          refine w_t (np := 201) (l2 := [some (eR a0), some (eI (a1)), some (eI (i21))]) (s2 := [eI (i21), eR v48]) rfl rfl rfl ?_
          refine w_t (np := 202) (l2 := [some (eR a0), some (eI (a1)), some (eI (i21))]) (s2 := [eI (i21), eI (i21), eR v48]) rfl rfl rfl ?_
          refine j_as (np := 203) rfl rfl I45 b50 (by decide) (n := 890) rfl rfl (lo := -2147483648) (hi := 2147483647) (fun _ => rfl) (by omega) (by omega) (by omega) ?_
          intro m52 I53 W54
          have F55 : Fr l_229 0 0 g μ m52 := F47.v W54 b50 rfl rfl
          obtain ⟨v56, e57⟩ : ∃ zz : Int, zz = (i21) + (1) := ⟨_, rfl⟩
          have b58 : 1 ≤ v56 ∧ v56 ≤ 890 := by omega
          refine w_t (np := 206) (l2 := [some (eR a0), some (eI (a1)), some (eI (v56))]) (s2 := []) rfl (b_iinc rfl (by rw [← e57]; exact ev_w_in (by omega) (by omega)) rfl) rfl ?_
          refine w_go (t1 := 172) rfl rfl ?_
          exact ih20 (890 - (v56)).toNat (by omega) m52 (v56) I53 F55 (by omega) (W54.addr (W46.addr (W38.addr k26 b34 gA0 (by decide)) b42 gA0 (by decide)) b50 gA0 (by decide))  rfl
      exact hL172 _ m15 (0) I16 F18 (by decide) (W17.addr e10 b11 gA0 (by decide))  rfl
  · have b2 : 0 ≤ a1 ∧ a1 ≤ 0 := by omega
    refine w_t (np := 5) (l2 := [some (eR a0), some (eI (a1)), none]) (s2 := [eI (0)]) rfl rfl rfl ?_
    refine w_t (np := 6) (l2 := [some (eR a0), some (eI (a1)), some (eI (0))]) (s2 := []) rfl rfl rfl ?_
    have hL6 : ∀ (n2 : Nat) (m6 : eM) (i4 : Int), SI g m6 → Fr l_229 0 0 g μ m6 → (0 ≤ i4 ∧ i4 ≤ 10) → n2 = (10 - i4).toNat → ex_q (dt_fg L ρ) rc (d + 4, (229, 6, [some (eR a0), some (eI (a1)), some (eI (i4))], []), f :: F, m6) := by
      intro n2
      induction n2 using Nat.strongRecOn with
      | _ n2 ih3 =>
      intro m6 i4 I7 F8 b5 hn9
      refine w_t (np := 7) (l2 := [some (eR a0), some (eI (a1)), some (eI (i4))]) (s2 := [eI (i4)]) rfl rfl rfl ?_
      refine w_t (np := 9) (l2 := [some (eR a0), some (eI (a1)), some (eI (i4))]) (s2 := [eI (10), eI (i4)]) rfl rfl rfl ?_
      refine b_cge (t1 := 52) (t2 := 12) rfl rfl rfl (ev_w_in (by omega) (by omega)) rfl (fun g10 => ?_) (fun g10 => ?_)
      · have b11 : 10 ≤ i4 ∧ i4 ≤ 10 := by omega
        refine w_t (np := 53) (l2 := [some (eR a0), some (eI (a1)), some (eI (i4))]) (s2 := [eI (a1)]) rfl rfl rfl ?_
        refine w_t (np := 54) (l2 := [some (eR a0), some (eI (a1)), some (eI (i4))]) (s2 := [eI (1), eI (a1)]) rfl rfl rfl ?_
        refine b_cne (t1 := 65) (t2 := 57) rfl rfl rfl (ev_w_in (by omega) (by omega)) rfl (fun g11 => ?_) (fun g11 => False.elim (by omega))
        refine w_t (np := 66) (l2 := [some (eR a0), some (eI (a1)), some (eI (i4))]) (s2 := [eI (a1)]) rfl rfl rfl ?_
        refine w_t (np := 67) (l2 := [some (eR a0), some (eI (a1)), some (eI (i4))]) (s2 := [eI (2), eI (a1)]) rfl rfl rfl ?_
        refine b_clt (t1 := 78) (t2 := 70) rfl rfl rfl (ev_w_in (by omega) (by omega)) rfl (fun g12 => ?_) (fun g12 => False.elim (by omega))
        refine w_t (np := 79) (l2 := [some (eR a0), some (eI (a1)), some (eI (i4))]) (s2 := [eI (a1)]) rfl rfl rfl ?_
        refine w_t (np := 80) (l2 := [some (eR a0), some (eI (a1)), some (eI (i4))]) (s2 := [eI (3), eI (a1)]) rfl rfl rfl ?_
        refine b_cne (t1 := 145) (t2 := 83) rfl rfl rfl (ev_w_in (by omega) (by omega)) rfl (fun g13 => ?_) (fun g13 => False.elim (by omega))
        refine w_t (np := 146) (l2 := [some (eR a0), some (eI (a1)), some (eI (i4))]) (s2 := [eR a0]) rfl (s_an rfl (pos_g I7 gA0 (by decide))) rfl ?_
        refine j_gr (np := 149) rfl rfl I7 gA0 (by decide) (n := 69) rfl rfl rfl ?_
        intro v14 e15 b16 z17
        have b16 : g v14 = 53 := Nat.eq_of_beq_eq_true b16
        refine w_t (np := 150) (l2 := [some (eR a0), some (eI (a1)), some (eI (i4))]) (s2 := [eI (0), eR v14]) rfl rfl rfl ?_
        refine w_t (np := 151) (l2 := [some (eR a0), some (eI (a1)), some (eI (i4))]) (s2 := [eI (a1), eI (0), eR v14]) rfl rfl rfl ?_
        refine b_ine (t1 := 159) (t2 := 154) rfl rfl rfl (ev_w_in (by omega) (by omega)) (fun g18 => False.elim (by omega)) (fun g18 => ?_)
        refine w_t (np := 156) (l2 := [some (eR a0), some (eI (a1)), some (eI (i4))]) (s2 := [eI (10), eI (0), eR v14]) rfl rfl rfl ?_
        refine w_go (t1 := 169) rfl rfl ?_
        refine j_as (np := 170) rfl rfl I7 b16 (by decide) (n := 6) rfl rfl (lo := 0) (hi := 890) (fun _ => rfl) (by decide) (by decide) (by decide) ?_
        intro m19 I20 W21
        have F22 : Fr l_229 0 0 g μ m19 := F8.v W21 b16 rfl rfl
        refine w_t (np := 171) (l2 := [some (eR a0), some (eI (a1)), some (eI (i4))]) (s2 := [eI (0)]) rfl rfl rfl ?_
        refine w_t (np := 172) (l2 := [some (eR a0), some (eI (a1)), some (eI (0))]) (s2 := []) rfl rfl rfl ?_
        have hL172 : ∀ (n23 : Nat) (m27 : eM) (i25 : Int), SI g m27 → Fr l_229 0 0 g μ m27 → (0 ≤ i25 ∧ i25 ≤ 890) → m27.1 a0 9 = ((v14 : Nat) : Int) → n23 = (890 - i25).toNat → ex_q (dt_fg L ρ) rc (d + 4, (229, 172, [some (eR a0), some (eI (a1)), some (eI (i25))], []), f :: F, m27) := by
          intro n23
          induction n23 using Nat.strongRecOn with
          | _ n23 ih24 =>
          intro m27 i25 I28 F29 b26 k30 hn31
          refine w_t (np := 173) (l2 := [some (eR a0), some (eI (a1)), some (eI (i25))]) (s2 := [eI (i25)]) rfl rfl rfl ?_
          refine w_t (np := 174) (l2 := [some (eR a0), some (eI (a1)), some (eI (i25))]) (s2 := [eR a0, eI (i25)]) rfl (s_an rfl (pos_g I28 gA0 (by decide))) rfl ?_
          refine w_gf (np := 177) (v := eR v14) rfl rfl (I28.kd gA0 (by decide) (n := 69) rfl) (by rw [k30]; rfl) ?_
          refine w_t (np := 178) (l2 := [some (eR a0), some (eI (a1)), some (eI (i25))]) (s2 := [eI (0), eR v14, eI (i25)]) rfl rfl rfl ?_
          refine j_al (np := 179) rfl rfl I28 b16 (by decide) (n := 6) rfl rfl (lo := 0) (hi := 890) (fun _ => rfl) (by decide) (by decide) ?_
          intro v32 e33 b34
          refine b_cge (t1 := 209) (t2 := 182) rfl rfl rfl (ev_w_in (by omega) (by omega)) (ev_w_in (by omega) (by omega)) (fun g35 => ?_) (fun g35 => ?_)
          · exact v_rv rfl rfl (K m27 I28 F29)
          · have b36 : 0 ≤ i25 ∧ i25 ≤ 889 := by omega
            have b37 : 1 ≤ v32 ∧ v32 ≤ 890 := by omega
            refine w_t (np := 183) (l2 := [some (eR a0), some (eI (a1)), some (eI (i25))]) (s2 := [eR a0]) rfl (s_an rfl (pos_g I28 gA0 (by decide))) rfl ?_
            refine j_gr (np := 186) rfl rfl I28 gA0 (by decide) (n := 69) rfl rfl rfl ?_
            intro v36 e37 b38 z39
            have b38 : g v36 = 58 := Nat.eq_of_beq_eq_true b38
            refine w_t (np := 187) (l2 := [some (eR a0), some (eI (a1)), some (eI (i25))]) (s2 := [eI (i25), eR v36]) rfl rfl rfl ?_
            refine w_t (np := 188) (l2 := [some (eR a0), some (eI (a1)), some (eI (i25))]) (s2 := [eI (-1), eI (i25), eR v36]) rfl rfl rfl ?_
            refine j_as (np := 189) rfl rfl I28 b38 (by decide) (n := 5340) rfl rfl (lo := -1) (hi := 889) (fun _ => rfl) (by omega) (by omega) (by decide) ?_
            intro m40 I41 W42
            have F43 : Fr l_229 0 0 g μ m40 := F29.v W42 b38 rfl rfl
            refine w_t (np := 190) (l2 := [some (eR a0), some (eI (a1)), some (eI (i25))]) (s2 := [eR a0]) rfl (s_an rfl (pos_g I41 gA0 (by decide))) rfl ?_
            refine j_gr (np := 193) rfl rfl I41 gA0 (by decide) (n := 69) rfl rfl rfl ?_
            intro v44 e45 b46 z47
            have b46 : g v44 = 59 := Nat.eq_of_beq_eq_true b46
            refine w_t (np := 194) (l2 := [some (eR a0), some (eI (a1)), some (eI (i25))]) (s2 := [eI (i25), eR v44]) rfl rfl rfl ?_
            refine w_t (np := 195) (l2 := [some (eR a0), some (eI (a1)), some (eI (i25))]) (s2 := [eI (-1), eI (i25), eR v44]) rfl rfl rfl ?_
            refine j_as (np := 196) rfl rfl I41 b46 (by decide) (n := 5340) rfl rfl (lo := -2147483648) (hi := 2147483647) (fun _ => rfl) (by omega) (by omega) (by decide) ?_
            intro m48 I49 W50
            have F51 : Fr l_229 0 0 g μ m48 := F43.v W50 b46 rfl rfl
            refine w_t (np := 197) (l2 := [some (eR a0), some (eI (a1)), some (eI (i25))]) (s2 := [eR a0]) rfl (s_an rfl (pos_g I49 gA0 (by decide))) rfl ?_
            refine j_gr (np := 200) rfl rfl I49 gA0 (by decide) (n := 69) rfl rfl rfl ?_
            intro v52 e53 b54 z55
            have b54 : g v52 = 60 := Nat.eq_of_beq_eq_true b54
            refine w_t (np := 201) (l2 := [some (eR a0), some (eI (a1)), some (eI (i25))]) (s2 := [eI (i25), eR v52]) rfl rfl rfl ?_
            refine w_t (np := 202) (l2 := [some (eR a0), some (eI (a1)), some (eI (i25))]) (s2 := [eI (i25), eI (i25), eR v52]) rfl rfl rfl ?_
            refine j_as (np := 203) rfl rfl I49 b54 (by decide) (n := 890) rfl rfl (lo := -2147483648) (hi := 2147483647) (fun _ => rfl) (by omega) (by omega) (by omega) ?_
            intro m56 I57 W58
            have F59 : Fr l_229 0 0 g μ m56 := F51.v W58 b54 rfl rfl
            obtain ⟨v60, e61⟩ : ∃ zz : Int, zz = (i25) + (1) := ⟨_, rfl⟩
            have b62 : 1 ≤ v60 ∧ v60 ≤ 890 := by omega
            refine w_t (np := 206) (l2 := [some (eR a0), some (eI (a1)), some (eI (v60))]) (s2 := []) rfl (b_iinc rfl (by rw [← e61]; exact ev_w_in (by omega) (by omega)) rfl) rfl ?_
            refine w_go (t1 := 172) rfl rfl ?_
            exact ih24 (890 - (v60)).toNat (by omega) m56 (v60) I57 F59 (by omega) (W58.addr (W50.addr (W42.addr k30 b38 gA0 (by decide)) b46 gA0 (by decide)) b54 gA0 (by decide))  rfl
        exact hL172 _ m19 (0) I20 F22 (by decide) (W21.addr e15 b16 gA0 (by decide))  rfl
      · have b11 : 0 ≤ i4 ∧ i4 ≤ 9 := by omega
        refine w_t (np := 13) (l2 := [some (eR a0), some (eI (a1)), some (eI (i4))]) (s2 := [eR a0]) rfl (s_an rfl (pos_g I7 gA0 (by decide))) rfl ?_
        refine w_t (np := 14) (l2 := [some (eR a0), some (eI (a1)), some (eI (i4))]) (s2 := [eI (i4), eR a0]) rfl rfl rfl ?_
        refine w_t (np := 15) (l2 := [some (eR a0), some (eI (a1)), some (eI (i4))]) (s2 := [eI (0), eI (i4), eR a0]) rfl rfl rfl ?_
        refine w_t (np := 16) (l2 := [some (eR a0), some (eI (a1)), some (eI (i4))]) (s2 := [eI (i4), eI (0), eI (i4), eR a0]) rfl rfl rfl ?_
        refine w_t (np := 17) (l2 := [some (eR a0), some (eI (a1)), some (eI (i4))]) (s2 := [eI (2), eI (i4), eI (0), eI (i4), eR a0]) rfl rfl rfl ?_
        obtain ⟨v11, e12, b13⟩ := h_irem (a := i4) (k := 2) (by decide) (by decide) (show (-2147483648 : Int) ≤ i4 ∧ (i4 : Int) ≤ 2147483647 by omega)
        have b14 : 0 ≤ v11 ∧ v11 ≤ 1 := by omega
        refine w_t (np := 18) (l2 := [some (eR a0), some (eI (a1)), some (eI (i4))]) (s2 := [eI (v11), eI (0), eI (i4), eR a0]) rfl (e12 _ _) rfl ?_
        refine w_t (np := 19) (l2 := [some (eR a0), some (eI (a1)), some (eI (i4))]) (s2 := [eI (1), eI (v11), eI (0), eI (i4), eR a0]) rfl rfl rfl ?_
        refine b_cne (t1 := 26) (t2 := 22) rfl rfl rfl (ev_w_in (by omega) (by omega)) rfl (fun g15 => ?_) (fun g15 => ?_)
        · have b16 : 0 ≤ v11 ∧ v11 ≤ 0 := by omega
          refine w_t (np := 27) (l2 := [some (eR a0), some (eI (a1)), some (eI (i4))]) (s2 := [eI (i4), eI (0), eI (i4), eR a0]) rfl rfl rfl ?_
          refine w_t (np := 28) (l2 := [some (eR a0), some (eI (a1)), some (eI (i4))]) (s2 := [eI (1), eI (i4), eI (0), eI (i4), eR a0]) rfl rfl rfl ?_
          obtain ⟨v16, e17⟩ : ∃ zz : Int, zz = (i4) + (1) := ⟨_, rfl⟩
          have b18 : 1 ≤ v16 ∧ v16 ≤ 10 := by omega
          refine w_t (np := 29) (l2 := [some (eR a0), some (eI (a1)), some (eI (i4))]) (s2 := [eI (v16), eI (0), eI (i4), eR a0]) rfl (b_iadd (by rw [← e17]; exact ev_w_in (by omega) (by omega))) rfl ?_
          refine w_t (np := 30) (l2 := [some (eR a0), some (eI (a1)), some (eI (i4))]) (s2 := [eI (i4), eI (v16), eI (0), eI (i4), eR a0]) rfl rfl rfl ?_
          refine w_t (np := 31) (l2 := [some (eR a0), some (eI (a1)), some (eI (i4))]) (s2 := [eI (2), eI (i4), eI (v16), eI (0), eI (i4), eR a0]) rfl rfl rfl ?_
          obtain ⟨v19, e20, b21⟩ := h_irem (a := i4) (k := 2) (by decide) (by decide) (show (-2147483648 : Int) ≤ i4 ∧ (i4 : Int) ≤ 2147483647 by omega)
          have b22 : 0 ≤ v19 ∧ v19 ≤ 1 := by omega
          refine w_t (np := 32) (l2 := [some (eR a0), some (eI (a1)), some (eI (i4))]) (s2 := [eI (v19), eI (v16), eI (0), eI (i4), eR a0]) rfl (e20 _ _) rfl ?_
          refine w_t (np := 33) (l2 := [some (eR a0), some (eI (a1)), some (eI (i4))]) (s2 := [eI (1), eI (v19), eI (v16), eI (0), eI (i4), eR a0]) rfl rfl rfl ?_
          refine b_cne (t1 := 42) (t2 := 36) rfl rfl rfl (ev_w_in (by omega) (by omega)) rfl (fun g23 => ?_) (fun g23 => ?_)
          · have b24 : 0 ≤ v19 ∧ v19 ≤ 0 := by omega
            refine w_t (np := 43) (l2 := [some (eR a0), some (eI (a1)), some (eI (i4))]) (s2 := [eI (i4), eI (v16), eI (0), eI (i4), eR a0]) rfl rfl rfl ?_
            refine w_cw (np := 46) (as := [eI (i4), eI (0), eI (v16), eI (i4)]) (l2 := [some (eR a0), some (eI (i4)), some (eI (0)), some (eI (v16)), some (eI (i4))]) (rest := []) rfl rfl rfl (Nat.ble_eq.mp rfl) rfl rfl rfl (I7.kd gA0 (by decide) (n := 69) rfl) rfl ?_
            refine s_228 (a1 := i4) (a2 := 0) (a3 := v16) (a4 := i4) I7 gA0 (by omega) (by decide) (by omega) (by omega) ?_
            intro m24 I25 F26
            have F27 : Fr l_229 0 0 g μ m24 := F8.t F26 rfl
            show ex_q (dt_fg L ρ) rc (d + 4, (229, 46, [some (eR a0), some (eI (a1)), some (eI (i4))], []), f :: F, m24)
            obtain ⟨v28, e29⟩ : ∃ zz : Int, zz = (i4) + (1) := ⟨_, rfl⟩
            have b30 : 1 ≤ v28 ∧ v28 ≤ 10 := by omega
            refine w_t (np := 49) (l2 := [some (eR a0), some (eI (a1)), some (eI (v28))]) (s2 := []) rfl (b_iinc rfl (by rw [← e29]; exact ev_w_in (by omega) (by omega)) rfl) rfl ?_
            refine w_go (t1 := 6) rfl rfl ?_
            exact ih3 (10 - (v28)).toNat (by omega) m24 (v28) I25 F27 (by omega)   rfl
          · have b24 : 1 ≤ v19 ∧ v19 ≤ 1 := by omega
            refine w_t (np := 37) (l2 := [some (eR a0), some (eI (a1)), some (eI (i4))]) (s2 := [eI (i4), eI (v16), eI (0), eI (i4), eR a0]) rfl rfl rfl ?_
            refine w_t (np := 38) (l2 := [some (eR a0), some (eI (a1)), some (eI (i4))]) (s2 := [eI (1), eI (i4), eI (v16), eI (0), eI (i4), eR a0]) rfl rfl rfl ?_
            obtain ⟨v24, e25⟩ : ∃ zz : Int, zz = (i4) + (1) := ⟨_, rfl⟩
            have b26 : 1 ≤ v24 ∧ v24 ≤ 10 := by omega
            refine w_t (np := 39) (l2 := [some (eR a0), some (eI (a1)), some (eI (i4))]) (s2 := [eI (v24), eI (v16), eI (0), eI (i4), eR a0]) rfl (b_iadd (by rw [← e25]; exact ev_w_in (by omega) (by omega))) rfl ?_
            refine w_go (t1 := 43) rfl rfl ?_
            refine w_cw (np := 46) (as := [eI (i4), eI (0), eI (v16), eI (v24)]) (l2 := [some (eR a0), some (eI (i4)), some (eI (0)), some (eI (v16)), some (eI (v24))]) (rest := []) rfl rfl rfl (Nat.ble_eq.mp rfl) rfl rfl rfl (I7.kd gA0 (by decide) (n := 69) rfl) rfl ?_
            refine s_228 (a1 := i4) (a2 := 0) (a3 := v16) (a4 := v24) I7 gA0 (by omega) (by decide) (by omega) (by omega) ?_
            intro m27 I28 F29
            have F30 : Fr l_229 0 0 g μ m27 := F8.t F29 rfl
            show ex_q (dt_fg L ρ) rc (d + 4, (229, 46, [some (eR a0), some (eI (a1)), some (eI (i4))], []), f :: F, m27)
            obtain ⟨v31, e32⟩ : ∃ zz : Int, zz = (i4) + (1) := ⟨_, rfl⟩
            have b33 : 1 ≤ v31 ∧ v31 ≤ 10 := by omega
            refine w_t (np := 49) (l2 := [some (eR a0), some (eI (a1)), some (eI (v31))]) (s2 := []) rfl (b_iinc rfl (by rw [← e32]; exact ev_w_in (by omega) (by omega)) rfl) rfl ?_
            refine w_go (t1 := 6) rfl rfl ?_
            exact ih3 (10 - (v31)).toNat (by omega) m27 (v31) I28 F30 (by omega)   rfl
        · have b16 : 1 ≤ v11 ∧ v11 ≤ 1 := by omega
          refine w_t (np := 23) (l2 := [some (eR a0), some (eI (a1)), some (eI (i4))]) (s2 := [eI (i4), eI (0), eI (i4), eR a0]) rfl rfl rfl ?_
          refine w_go (t1 := 29) rfl rfl ?_
          refine w_t (np := 30) (l2 := [some (eR a0), some (eI (a1)), some (eI (i4))]) (s2 := [eI (i4), eI (i4), eI (0), eI (i4), eR a0]) rfl rfl rfl ?_
          refine w_t (np := 31) (l2 := [some (eR a0), some (eI (a1)), some (eI (i4))]) (s2 := [eI (2), eI (i4), eI (i4), eI (0), eI (i4), eR a0]) rfl rfl rfl ?_
          obtain ⟨v16, e17, b18⟩ := h_irem (a := i4) (k := 2) (by decide) (by decide) (show (-2147483648 : Int) ≤ i4 ∧ (i4 : Int) ≤ 2147483647 by omega)
          have b19 : 0 ≤ v16 ∧ v16 ≤ 1 := by omega
          refine w_t (np := 32) (l2 := [some (eR a0), some (eI (a1)), some (eI (i4))]) (s2 := [eI (v16), eI (i4), eI (0), eI (i4), eR a0]) rfl (e17 _ _) rfl ?_
          refine w_t (np := 33) (l2 := [some (eR a0), some (eI (a1)), some (eI (i4))]) (s2 := [eI (1), eI (v16), eI (i4), eI (0), eI (i4), eR a0]) rfl rfl rfl ?_
          refine b_cne (t1 := 42) (t2 := 36) rfl rfl rfl (ev_w_in (by omega) (by omega)) rfl (fun g20 => ?_) (fun g20 => ?_)
          · have b21 : 0 ≤ v16 ∧ v16 ≤ 0 := by omega
            refine w_t (np := 43) (l2 := [some (eR a0), some (eI (a1)), some (eI (i4))]) (s2 := [eI (i4), eI (i4), eI (0), eI (i4), eR a0]) rfl rfl rfl ?_
            refine w_cw (np := 46) (as := [eI (i4), eI (0), eI (i4), eI (i4)]) (l2 := [some (eR a0), some (eI (i4)), some (eI (0)), some (eI (i4)), some (eI (i4))]) (rest := []) rfl rfl rfl (Nat.ble_eq.mp rfl) rfl rfl rfl (I7.kd gA0 (by decide) (n := 69) rfl) rfl ?_
            refine s_228 (a1 := i4) (a2 := 0) (a3 := i4) (a4 := i4) I7 gA0 (by omega) (by decide) (by omega) (by omega) ?_
            intro m21 I22 F23
            have F24 : Fr l_229 0 0 g μ m21 := F8.t F23 rfl
            show ex_q (dt_fg L ρ) rc (d + 4, (229, 46, [some (eR a0), some (eI (a1)), some (eI (i4))], []), f :: F, m21)
            obtain ⟨v25, e26⟩ : ∃ zz : Int, zz = (i4) + (1) := ⟨_, rfl⟩
            have b27 : 1 ≤ v25 ∧ v25 ≤ 10 := by omega
            refine w_t (np := 49) (l2 := [some (eR a0), some (eI (a1)), some (eI (v25))]) (s2 := []) rfl (b_iinc rfl (by rw [← e26]; exact ev_w_in (by omega) (by omega)) rfl) rfl ?_
            refine w_go (t1 := 6) rfl rfl ?_
            exact ih3 (10 - (v25)).toNat (by omega) m21 (v25) I22 F24 (by omega)   rfl
          · have b21 : 1 ≤ v16 ∧ v16 ≤ 1 := by omega
            refine w_t (np := 37) (l2 := [some (eR a0), some (eI (a1)), some (eI (i4))]) (s2 := [eI (i4), eI (i4), eI (0), eI (i4), eR a0]) rfl rfl rfl ?_
            refine w_t (np := 38) (l2 := [some (eR a0), some (eI (a1)), some (eI (i4))]) (s2 := [eI (1), eI (i4), eI (i4), eI (0), eI (i4), eR a0]) rfl rfl rfl ?_
            obtain ⟨v21, e22⟩ : ∃ zz : Int, zz = (i4) + (1) := ⟨_, rfl⟩
            have b23 : 1 ≤ v21 ∧ v21 ≤ 10 := by omega
            refine w_t (np := 39) (l2 := [some (eR a0), some (eI (a1)), some (eI (i4))]) (s2 := [eI (v21), eI (i4), eI (0), eI (i4), eR a0]) rfl (b_iadd (by rw [← e22]; exact ev_w_in (by omega) (by omega))) rfl ?_
            refine w_go (t1 := 43) rfl rfl ?_
            refine w_cw (np := 46) (as := [eI (i4), eI (0), eI (i4), eI (v21)]) (l2 := [some (eR a0), some (eI (i4)), some (eI (0)), some (eI (i4)), some (eI (v21))]) (rest := []) rfl rfl rfl (Nat.ble_eq.mp rfl) rfl rfl rfl (I7.kd gA0 (by decide) (n := 69) rfl) rfl ?_
            refine s_228 (a1 := i4) (a2 := 0) (a3 := i4) (a4 := v21) I7 gA0 (by omega) (by decide) (by omega) (by omega) ?_
            intro m24 I25 F26
            have F27 : Fr l_229 0 0 g μ m24 := F8.t F26 rfl
            show ex_q (dt_fg L ρ) rc (d + 4, (229, 46, [some (eR a0), some (eI (a1)), some (eI (i4))], []), f :: F, m24)
            obtain ⟨v28, e29⟩ : ∃ zz : Int, zz = (i4) + (1) := ⟨_, rfl⟩
            have b30 : 1 ≤ v28 ∧ v28 ≤ 10 := by omega
            refine w_t (np := 49) (l2 := [some (eR a0), some (eI (a1)), some (eI (v28))]) (s2 := []) rfl (b_iinc rfl (by rw [← e29]; exact ev_w_in (by omega) (by omega)) rfl) rfl ?_
            refine w_go (t1 := 6) rfl rfl ?_
            exact ih3 (10 - (v28)).toNat (by omega) m24 (v28) I25 F27 (by omega)   rfl
    exact hL6 _ μ (0) hI F0 (by decide)   rfl
def l_230 : List Nat := [13315, 13316, 13317, 13318]
theorem s_230 {L : Nat} {ρ : Nat → Int} {rc : eQ} {d : Nat} {f : eFr} {F : List eFr} {μ : eM} {g : Nat → Nat} {a0 : Nat} {a1 : Int} (hI : SI g μ) (gA0 : g a0 = 52) (bA1 : 0 ≤ a1 ∧ a1 ≤ 10676) (K : ∀ (μ2 : eM), SI g μ2 → Fr l_230 0 0 g μ μ2 → ex_q (dt_fg L ρ) rc (d + 3, (f.1, f.2.1, f.2.2.1, f.2.2.2), F, μ2)) : ex_q (dt_fg L ρ) rc (d + 2, (230, 0, [some (eR a0), some (eI (a1)), none, none, none, none, none, none, none, none, none], []), f :: F, μ) := by
  have F0 : Fr l_230 0 0 g μ μ := Fr.r
  refine w_t (np := 1) (l2 := [some (eR a0), some (eI (a1)), none, none, none, none, none, none, none, none, none]) (s2 := [eR a0]) rfl (s_an rfl (pos_g hI gA0 (by decide))) rfl ?_
  refine w_t (np := 2) (l2 := [some (eR a0), some (eI (a1)), none, none, none, none, none, none, none, none, none]) (s2 := [eR a0, eR a0]) rfl (s_an rfl (pos_g hI gA0 (by decide))) rfl ?_
  refine j_gr (np := 5) rfl rfl hI gA0 (by decide) (n := 69) rfl rfl rfl ?_
  intro v1 e2 b3 z4
  have b3 : g v1 = 54 := Nat.eq_of_beq_eq_true b3
  refine w_t (np := 6) (l2 := [some (eR a0), some (eI (a1)), none, none, none, none, none, none, none, none, none]) (s2 := [eI (a1), eR v1, eR a0]) rfl rfl rfl ?_
  refine j_al (np := 7) rfl rfl hI b3 (by decide) (n := 10680) rfl rfl (lo := -2147483648) (hi := 2147483647) (fun _ => rfl) (by omega) (by omega) ?_
  intro v5 e6 b7
  refine w_t (np := 8) (l2 := [some (eR a0), some (eI (a1)), none, none, none, none, none, none, none, none, none]) (s2 := [eJ (v5), eR a0]) rfl (b_i2l (ev_w_in (by omega) (by omega))) rfl ?_
  refine w_t (np := 9) (l2 := [some (eR a0), some (eI (a1)), none, none, none, none, none, none, none, none, none]) (s2 := [eR a0, eJ (v5), eR a0]) rfl (s_an rfl (pos_g hI gA0 (by decide))) rfl ?_
  refine w_gf (np := 12) (v := eR v1) rfl rfl (hI.kd gA0 (by decide) (n := 69) rfl) (by rw [e2]; rfl) ?_
  refine w_t (np := 13) (l2 := [some (eR a0), some (eI (a1)), none, none, none, none, none, none, none, none, none]) (s2 := [eI (a1), eR v1, eJ (v5), eR a0]) rfl rfl rfl ?_
  refine w_t (np := 14) (l2 := [some (eR a0), some (eI (a1)), none, none, none, none, none, none, none, none, none]) (s2 := [eI (1), eI (a1), eR v1, eJ (v5), eR a0]) rfl rfl rfl ?_
  obtain ⟨v8, e9⟩ : ∃ zz : Int, zz = (a1) + (1) := ⟨_, rfl⟩
  have b10 : 1 ≤ v8 ∧ v8 ≤ 10677 := by omega
  refine w_t (np := 15) (l2 := [some (eR a0), some (eI (a1)), none, none, none, none, none, none, none, none, none]) (s2 := [eI (v8), eR v1, eJ (v5), eR a0]) rfl (b_iadd (by rw [← e9]; exact ev_w_in (by omega) (by omega))) rfl ?_
  refine j_al (np := 16) rfl rfl hI b3 (by decide) (n := 10680) rfl rfl (lo := -2147483648) (hi := 2147483647) (fun _ => rfl) (by omega) (by omega) ?_
  intro v11 e12 b13
  refine w_t (np := 17) (l2 := [some (eR a0), some (eI (a1)), none, none, none, none, none, none, none, none, none]) (s2 := [eJ (v11), eJ (v5), eR a0]) rfl (b_i2l (ev_w_in (by omega) (by omega))) rfl ?_
  refine w_t (np := 18) (l2 := [some (eR a0), some (eI (a1)), none, none, none, none, none, none, none, none, none]) (s2 := [eR a0, eJ (v11), eJ (v5), eR a0]) rfl (s_an rfl (pos_g hI gA0 (by decide))) rfl ?_
  refine w_gf (np := 21) (v := eR v1) rfl rfl (hI.kd gA0 (by decide) (n := 69) rfl) (by rw [e2]; rfl) ?_
  refine w_t (np := 22) (l2 := [some (eR a0), some (eI (a1)), none, none, none, none, none, none, none, none, none]) (s2 := [eI (a1), eR v1, eJ (v11), eJ (v5), eR a0]) rfl rfl rfl ?_
  refine w_t (np := 23) (l2 := [some (eR a0), some (eI (a1)), none, none, none, none, none, none, none, none, none]) (s2 := [eI (2), eI (a1), eR v1, eJ (v11), eJ (v5), eR a0]) rfl rfl rfl ?_
  obtain ⟨v14, e15⟩ : ∃ zz : Int, zz = (a1) + (2) := ⟨_, rfl⟩
  have b16 : 2 ≤ v14 ∧ v14 ≤ 10678 := by omega
  refine w_t (np := 24) (l2 := [some (eR a0), some (eI (a1)), none, none, none, none, none, none, none, none, none]) (s2 := [eI (v14), eR v1, eJ (v11), eJ (v5), eR a0]) rfl (b_iadd (by rw [← e15]; exact ev_w_in (by omega) (by omega))) rfl ?_
  refine j_al (np := 25) rfl rfl hI b3 (by decide) (n := 10680) rfl rfl (lo := -2147483648) (hi := 2147483647) (fun _ => rfl) (by omega) (by omega) ?_
  intro v17 e18 b19
  refine w_t (np := 26) (l2 := [some (eR a0), some (eI (a1)), none, none, none, none, none, none, none, none, none]) (s2 := [eJ (v17), eJ (v11), eJ (v5), eR a0]) rfl (b_i2l (ev_w_in (by omega) (by omega))) rfl ?_
  refine w_t (np := 27) (l2 := [some (eR a0), some (eI (a1)), none, none, none, none, none, none, none, none, none]) (s2 := [eR a0, eJ (v17), eJ (v11), eJ (v5), eR a0]) rfl (s_an rfl (pos_g hI gA0 (by decide))) rfl ?_
  refine w_gf (np := 30) (v := eR v1) rfl rfl (hI.kd gA0 (by decide) (n := 69) rfl) (by rw [e2]; rfl) ?_
  refine w_t (np := 31) (l2 := [some (eR a0), some (eI (a1)), none, none, none, none, none, none, none, none, none]) (s2 := [eI (a1), eR v1, eJ (v17), eJ (v11), eJ (v5), eR a0]) rfl rfl rfl ?_
  refine w_t (np := 32) (l2 := [some (eR a0), some (eI (a1)), none, none, none, none, none, none, none, none, none]) (s2 := [eI (3), eI (a1), eR v1, eJ (v17), eJ (v11), eJ (v5), eR a0]) rfl rfl rfl ?_
  obtain ⟨v20, e21⟩ : ∃ zz : Int, zz = (a1) + (3) := ⟨_, rfl⟩
  have b22 : 3 ≤ v20 ∧ v20 ≤ 10679 := by omega
  refine w_t (np := 33) (l2 := [some (eR a0), some (eI (a1)), none, none, none, none, none, none, none, none, none]) (s2 := [eI (v20), eR v1, eJ (v17), eJ (v11), eJ (v5), eR a0]) rfl (b_iadd (by rw [← e21]; exact ev_w_in (by omega) (by omega))) rfl ?_
  refine j_al (np := 34) rfl rfl hI b3 (by decide) (n := 10680) rfl rfl (lo := -2147483648) (hi := 2147483647) (fun _ => rfl) (by omega) (by omega) ?_
  intro v23 e24 b25
  refine w_t (np := 35) (l2 := [some (eR a0), some (eI (a1)), none, none, none, none, none, none, none, none, none]) (s2 := [eJ (v23), eJ (v17), eJ (v11), eJ (v5), eR a0]) rfl (b_i2l (ev_w_in (by omega) (by omega))) rfl ?_
  refine w_cw (np := 38) (as := [eJ (v5), eJ (v11), eJ (v17), eJ (v23)]) (l2 := [some (eR a0), some (eJ (v5)), none, some (eJ (v11)), none, some (eJ (v17)), none, some (eJ (v23)), none]) (rest := []) rfl rfl rfl (Nat.ble_eq.mp rfl) rfl rfl rfl (hI.kd gA0 (by decide) (n := 69) rfl) rfl ?_
  refine s_219 hI gA0 (by omega) (by omega) (by omega) (by omega) ?_
  intro m26 I27 F28
  have F29 : Fr l_230 0 0 g μ m26 := F0.t F28 rfl
  show ex_q (dt_fg L ρ) rc (d + 2, (230, 38, [some (eR a0), some (eI (a1)), none, none, none, none, none, none, none, none, none], []), f :: F, m26)
  refine w_t (np := 39) (l2 := [some (eR a0), some (eI (a1)), none, none, none, none, none, none, none, none, none]) (s2 := [eR a0]) rfl (s_an rfl (pos_g I27 gA0 (by decide))) rfl ?_
  refine w_cw (np := 42) (as := []) (l2 := [some (eR a0)]) (rest := []) rfl rfl rfl (Nat.ble_eq.mp rfl) rfl rfl rfl (I27.kd gA0 (by decide) (n := 69) rfl) rfl ?_
  refine s_220 I27 gA0 ?_
  intro m30 I31 F32
  have F33 : Fr l_230 0 0 g μ m30 := F29.t F32 rfl
  show ex_q (dt_fg L ρ) rc (d + 2, (230, 42, [some (eR a0), some (eI (a1)), none, none, none, none, none, none, none, none, none], []), f :: F, m30)
  refine w_t (np := 43) (l2 := [some (eR a0), some (eI (a1)), none, none, none, none, none, none, none, none, none]) (s2 := [eR a0]) rfl (s_an rfl (pos_g I31 gA0 (by decide))) rfl ?_
  refine j_gj (np := 46) rfl rfl I31 gA0 (by decide) (n := 69) rfl rfl (lo := -9223372036854775808) (hi := 9223372036854775807) rfl ?_
  intro v34 e35 b36
  refine w_t (np := 47) (l2 := [some (eR a0), some (eI (a1)), some (eJ (v34)), none, none, none, none, none, none, none, none]) (s2 := []) rfl rfl rfl ?_
  refine w_t (np := 48) (l2 := [some (eR a0), some (eI (a1)), some (eJ (v34)), none, none, none, none, none, none, none, none]) (s2 := [eR a0]) rfl (s_an rfl (pos_g I31 gA0 (by decide))) rfl ?_
  refine j_gj (np := 51) rfl rfl I31 gA0 (by decide) (n := 69) rfl rfl (lo := -9223372036854775808) (hi := 9223372036854775807) rfl ?_
  intro v37 e38 b39
  refine w_t (np := 53) (l2 := [some (eR a0), some (eI (a1)), some (eJ (v34)), none, some (eJ (v37)), none, none, none, none, none, none]) (s2 := []) rfl rfl rfl ?_
  refine w_t (np := 54) (l2 := [some (eR a0), some (eI (a1)), some (eJ (v34)), none, some (eJ (v37)), none, none, none, none, none, none]) (s2 := [eR a0]) rfl (s_an rfl (pos_g I31 gA0 (by decide))) rfl ?_
  refine j_gj (np := 57) rfl rfl I31 gA0 (by decide) (n := 69) rfl rfl (lo := -9223372036854775808) (hi := 9223372036854775807) rfl ?_
  intro v40 e41 b42
  refine w_t (np := 59) (l2 := [some (eR a0), some (eI (a1)), some (eJ (v34)), none, some (eJ (v37)), none, some (eJ (v40)), none, none, none, none]) (s2 := []) rfl rfl rfl ?_
  refine w_t (np := 60) (l2 := [some (eR a0), some (eI (a1)), some (eJ (v34)), none, some (eJ (v37)), none, some (eJ (v40)), none, none, none, none]) (s2 := [eR a0]) rfl (s_an rfl (pos_g I31 gA0 (by decide))) rfl ?_
  refine j_gj (np := 63) rfl rfl I31 gA0 (by decide) (n := 69) rfl rfl (lo := -9223372036854775808) (hi := 9223372036854775807) rfl ?_
  intro v43 e44 b45
  refine w_t (np := 65) (l2 := [some (eR a0), some (eI (a1)), some (eJ (v34)), none, some (eJ (v37)), none, some (eJ (v40)), none, some (eJ (v43)), none, none]) (s2 := []) rfl rfl rfl ?_
  refine w_t (np := 66) (l2 := [some (eR a0), some (eI (a1)), some (eJ (v34)), none, some (eJ (v37)), none, some (eJ (v40)), none, some (eJ (v43)), none, none]) (s2 := [eI (0)]) rfl rfl rfl ?_
  refine w_t (np := 68) (l2 := [some (eR a0), some (eI (a1)), some (eJ (v34)), none, some (eJ (v37)), none, some (eJ (v40)), none, some (eJ (v43)), none, some (eI (0))]) (s2 := []) rfl rfl rfl ?_
  have hL68 : ∀ (n46 : Nat) (m50 : eM) (i48 : Int), SI g m50 → Fr l_230 0 0 g μ m50 → (0 ≤ i48 ∧ i48 ≤ 8) → m50.1 a0 10 = ((v1 : Nat) : Int) → m50.1 v1 (a1).toNat = v5 → m50.1 v1 (v8).toNat = v11 → m50.1 v1 (v14).toNat = v17 → m50.1 v1 (v20).toNat = v23 → n46 = (8 - i48).toNat → ex_q (dt_fg L ρ) rc (d + 2, (230, 68, [some (eR a0), some (eI (a1)), some (eJ (v34)), none, some (eJ (v37)), none, some (eJ (v40)), none, some (eJ (v43)), none, some (eI (i48))], []), f :: F, m50) := by
    intro n46
    induction n46 using Nat.strongRecOn with
    | _ n46 ih47 =>
    intro m50 i48 I51 F52 b49 k53 k54 k55 k56 k57 hn58
    refine w_t (np := 70) (l2 := [some (eR a0), some (eI (a1)), some (eJ (v34)), none, some (eJ (v37)), none, some (eJ (v40)), none, some (eJ (v43)), none, some (eI (i48))]) (s2 := [eI (i48)]) rfl rfl rfl ?_
    refine w_t (np := 72) (l2 := [some (eR a0), some (eI (a1)), some (eJ (v34)), none, some (eJ (v37)), none, some (eJ (v40)), none, some (eJ (v43)), none, some (eI (i48))]) (s2 := [eI (8), eI (i48)]) rfl rfl rfl ?_
    refine b_cge (t1 := 85) (t2 := 75) rfl rfl rfl (ev_w_in (by omega) (by omega)) rfl (fun g59 => ?_) (fun g59 => ?_)
    · have b60 : 8 ≤ i48 ∧ i48 ≤ 8 := by omega
      refine w_t (np := 86) (l2 := [some (eR a0), some (eI (a1)), some (eJ (v34)), none, some (eJ (v37)), none, some (eJ (v40)), none, some (eJ (v43)), none, some (eI (i48))]) (s2 := [eR a0]) rfl (s_an rfl (pos_g I51 gA0 (by decide))) rfl ?_
      refine w_t (np := 87) (l2 := [some (eR a0), some (eI (a1)), some (eJ (v34)), none, some (eJ (v37)), none, some (eJ (v40)), none, some (eJ (v43)), none, some (eI (i48))]) (s2 := [eJ (v34), eR a0]) rfl rfl rfl ?_
      refine w_t (np := 88) (l2 := [some (eR a0), some (eI (a1)), some (eJ (v34)), none, some (eJ (v37)), none, some (eJ (v40)), none, some (eJ (v43)), none, some (eI (i48))]) (s2 := [eR a0, eJ (v34), eR a0]) rfl (s_an rfl (pos_g I51 gA0 (by decide))) rfl ?_
      refine j_gj (np := 91) rfl rfl I51 gA0 (by decide) (n := 69) rfl rfl (lo := -9223372036854775808) (hi := 9223372036854775807) rfl ?_
      intro v60 e61 b62
      obtain ⟨v63, e64, b65⟩ : ∃ zz : Int, ev_W ((v34) + (v60)) = zz ∧ (-9223372036854775808 ≤ zz ∧ zz ≤ 9223372036854775807) := ⟨_, rfl, hW_bd _⟩
      refine w_t (np := 92) (l2 := [some (eR a0), some (eI (a1)), some (eJ (v34)), none, some (eJ (v37)), none, some (eJ (v40)), none, some (eJ (v43)), none, some (eI (i48))]) (s2 := [eJ (v63), eR a0]) rfl (b_ladd e64) rfl ?_
      refine w_t (np := 94) (l2 := [some (eR a0), some (eI (a1)), some (eJ (v34)), none, some (eJ (v37)), none, some (eJ (v40)), none, some (eJ (v43)), none, some (eI (i48))]) (s2 := [eJ (v37), eJ (v63), eR a0]) rfl rfl rfl ?_
      refine w_t (np := 95) (l2 := [some (eR a0), some (eI (a1)), some (eJ (v34)), none, some (eJ (v37)), none, some (eJ (v40)), none, some (eJ (v43)), none, some (eI (i48))]) (s2 := [eR a0, eJ (v37), eJ (v63), eR a0]) rfl (s_an rfl (pos_g I51 gA0 (by decide))) rfl ?_
      refine j_gj (np := 98) rfl rfl I51 gA0 (by decide) (n := 69) rfl rfl (lo := -9223372036854775808) (hi := 9223372036854775807) rfl ?_
      intro v66 e67 b68
      obtain ⟨v69, e70, b71⟩ : ∃ zz : Int, ev_W ((v37) + (v66)) = zz ∧ (-9223372036854775808 ≤ zz ∧ zz ≤ 9223372036854775807) := ⟨_, rfl, hW_bd _⟩
      refine w_t (np := 99) (l2 := [some (eR a0), some (eI (a1)), some (eJ (v34)), none, some (eJ (v37)), none, some (eJ (v40)), none, some (eJ (v43)), none, some (eI (i48))]) (s2 := [eJ (v69), eJ (v63), eR a0]) rfl (b_ladd e70) rfl ?_
      refine w_t (np := 101) (l2 := [some (eR a0), some (eI (a1)), some (eJ (v34)), none, some (eJ (v37)), none, some (eJ (v40)), none, some (eJ (v43)), none, some (eI (i48))]) (s2 := [eJ (v40), eJ (v69), eJ (v63), eR a0]) rfl rfl rfl ?_
      refine w_t (np := 102) (l2 := [some (eR a0), some (eI (a1)), some (eJ (v34)), none, some (eJ (v37)), none, some (eJ (v40)), none, some (eJ (v43)), none, some (eI (i48))]) (s2 := [eR a0, eJ (v40), eJ (v69), eJ (v63), eR a0]) rfl (s_an rfl (pos_g I51 gA0 (by decide))) rfl ?_
      refine j_gj (np := 105) rfl rfl I51 gA0 (by decide) (n := 69) rfl rfl (lo := -9223372036854775808) (hi := 9223372036854775807) rfl ?_
      intro v72 e73 b74
      obtain ⟨v75, e76, b77⟩ : ∃ zz : Int, ev_W ((v40) + (v72)) = zz ∧ (-9223372036854775808 ≤ zz ∧ zz ≤ 9223372036854775807) := ⟨_, rfl, hW_bd _⟩
      refine w_t (np := 106) (l2 := [some (eR a0), some (eI (a1)), some (eJ (v34)), none, some (eJ (v37)), none, some (eJ (v40)), none, some (eJ (v43)), none, some (eI (i48))]) (s2 := [eJ (v75), eJ (v69), eJ (v63), eR a0]) rfl (b_ladd e76) rfl ?_
      refine w_t (np := 108) (l2 := [some (eR a0), some (eI (a1)), some (eJ (v34)), none, some (eJ (v37)), none, some (eJ (v40)), none, some (eJ (v43)), none, some (eI (i48))]) (s2 := [eJ (v43), eJ (v75), eJ (v69), eJ (v63), eR a0]) rfl rfl rfl ?_
      refine w_t (np := 109) (l2 := [some (eR a0), some (eI (a1)), some (eJ (v34)), none, some (eJ (v37)), none, some (eJ (v40)), none, some (eJ (v43)), none, some (eI (i48))]) (s2 := [eR a0, eJ (v43), eJ (v75), eJ (v69), eJ (v63), eR a0]) rfl (s_an rfl (pos_g I51 gA0 (by decide))) rfl ?_
      refine j_gj (np := 112) rfl rfl I51 gA0 (by decide) (n := 69) rfl rfl (lo := -9223372036854775808) (hi := 9223372036854775807) rfl ?_
      intro v78 e79 b80
      obtain ⟨v81, e82, b83⟩ : ∃ zz : Int, ev_W ((v43) + (v78)) = zz ∧ (-9223372036854775808 ≤ zz ∧ zz ≤ 9223372036854775807) := ⟨_, rfl, hW_bd _⟩
      refine w_t (np := 113) (l2 := [some (eR a0), some (eI (a1)), some (eJ (v34)), none, some (eJ (v37)), none, some (eJ (v40)), none, some (eJ (v43)), none, some (eI (i48))]) (s2 := [eJ (v81), eJ (v75), eJ (v69), eJ (v63), eR a0]) rfl (b_ladd e82) rfl ?_
      refine w_cw (np := 116) (as := [eJ (v63), eJ (v69), eJ (v75), eJ (v81)]) (l2 := [some (eR a0), some (eJ (v63)), none, some (eJ (v69)), none, some (eJ (v75)), none, some (eJ (v81)), none]) (rest := []) rfl rfl rfl (Nat.ble_eq.mp rfl) rfl rfl rfl (I51.kd gA0 (by decide) (n := 69) rfl) rfl ?_
      refine s_219 I51 gA0 b65 b71 b77 b83 ?_
      intro m84 I85 F86
      have F87 : Fr l_230 0 0 g μ m84 := F52.t F86 rfl
      show ex_q (dt_fg L ρ) rc (d + 2, (230, 116, [some (eR a0), some (eI (a1)), some (eJ (v34)), none, some (eJ (v37)), none, some (eJ (v40)), none, some (eJ (v43)), none, some (eI (i48))], []), f :: F, m84)
      exact v_rv rfl rfl (K m84 I85 F87)
    · have b60 : 0 ≤ i48 ∧ i48 ≤ 7 := by omega
      refine w_t (np := 76) (l2 := [some (eR a0), some (eI (a1)), some (eJ (v34)), none, some (eJ (v37)), none, some (eJ (v40)), none, some (eJ (v43)), none, some (eI (i48))]) (s2 := [eR a0]) rfl (s_an rfl (pos_g I51 gA0 (by decide))) rfl ?_
      refine w_cw (np := 79) (as := []) (l2 := [some (eR a0)]) (rest := []) rfl rfl rfl (Nat.ble_eq.mp rfl) rfl rfl rfl (I51.kd gA0 (by decide) (n := 69) rfl) rfl ?_
      refine s_220 I51 gA0 ?_
      intro m60 I61 F62
      have F63 : Fr l_230 0 0 g μ m60 := F52.t F62 rfl
      show ex_q (dt_fg L ρ) rc (d + 2, (230, 79, [some (eR a0), some (eI (a1)), some (eJ (v34)), none, some (eJ (v37)), none, some (eJ (v40)), none, some (eJ (v43)), none, some (eI (i48))], []), f :: F, m60)
      obtain ⟨v64, e65⟩ : ∃ zz : Int, zz = (i48) + (1) := ⟨_, rfl⟩
      have b66 : 1 ≤ v64 ∧ v64 ≤ 8 := by omega
      refine w_t (np := 82) (l2 := [some (eR a0), some (eI (a1)), some (eJ (v34)), none, some (eJ (v37)), none, some (eJ (v40)), none, some (eJ (v43)), none, some (eI (v64))]) (s2 := []) rfl (b_iinc rfl (by rw [← e65]; exact ev_w_in (by omega) (by omega)) rfl) rfl ?_
      refine w_go (t1 := 68) rfl rfl ?_
      exact ih47 (8 - (v64)).toNat (by omega) m60 (v64) I61 F63 (by omega) (F62.k k53 gA0 (by decide) rfl) (F62.kr k54 b3 (by decide) rfl rfl) (F62.kr k55 b3 (by decide) rfl rfl) (F62.kr k56 b3 (by decide) rfl rfl) (F62.kr k57 b3 (by decide) rfl rfl)  rfl
  exact hL68 _ m30 (0) I31 F33 (by decide) (F32.k (F28.k e2 gA0 (by decide) rfl) gA0 (by decide) rfl) (F32.kr (F28.kr e6 b3 (by decide) rfl rfl) b3 (by decide) rfl rfl) (F32.kr (F28.kr e12 b3 (by decide) rfl rfl) b3 (by decide) rfl rfl) (F32.kr (F28.kr e18 b3 (by decide) rfl rfl) b3 (by decide) rfl rfl) (F32.kr (F28.kr e24 b3 (by decide) rfl rfl) b3 (by decide) rfl rfl)  rfl
