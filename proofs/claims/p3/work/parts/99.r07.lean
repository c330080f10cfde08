/-! methods, walked -/
def l_313 : List Nat := [13313, 13315, 13316, 13317, 13362, 13318, 21504, 21248]
theorem s_313 {L : Nat} {ρ : Nat → Int} {rc : eQ} {d : Nat} {f : eFr} {F : List eFr} {μ : eM} {g : Nat → Nat} {a0 : Nat} {rh : Int} (hI : SI g μ) (gA0 : g a0 = 52) (h_rh : μ.1 a0 49 = rh) (hp0 : rh ≤ 23) (K : ∀ (μ2 : eM) (v : Int) (rh2 : Int), SI g μ2 → Fr l_313 0 0 g μ μ2 → (-2147483648 ≤ v ∧ v ≤ 2147483647) → μ2.1 a0 49 = rh2 → ex_q (dt_fg L ρ) rc (d + 8, (f.1, f.2.1, f.2.2.1, eI v :: f.2.2.2), F, μ2)) : ex_q (dt_fg L ρ) rc (d + 7, (313, 0, [some (eR a0), none], []), f :: F, μ) := by
  have F0 : Fr l_313 0 0 g μ μ := Fr.r
  have b_rh : 0 ≤ rh ∧ rh ≤ 24 := by
    rw [← h_rh]
    exact hI.int gA0 (by decide) (n := 69) rfl (by decide) rfl
  refine w_t (np := 1) (l2 := [some (eR a0), none]) (s2 := [eR a0]) rfl (s_an rfl (pos_g hI gA0 (by decide))) rfl ?_
  refine w_cw (np := 4) (as := []) (l2 := [some (eR a0), none, none, none, none]) (rest := []) rfl rfl rfl (Nat.ble_eq.mp rfl) rfl rfl rfl (hI.kd gA0 (by decide) (n := 69) rfl) rfl ?_
  refine s_311 hI gA0 h_rh (by omega) ?_
  intro m1 v4 v6 I2 F3 b5 e7 h8
  have F9 : Fr l_313 0 0 g μ m1 := F0.t F3 rfl
  have b10 : 0 ≤ v6 ∧ v6 ≤ 24 := by
    rw [← e7]
    exact I2.int gA0 (by decide) (n := 69) rfl (by decide) rfl
  show ex_q (dt_fg L ρ) rc (d + 7, (313, 4, [some (eR a0), none], [eI (v4)]), f :: F, m1)
  refine w_t (np := 5) (l2 := [some (eR a0), some (eI (v4))]) (s2 := []) rfl rfl rfl ?_
  refine w_t (np := 6) (l2 := [some (eR a0), some (eI (v4))]) (s2 := [eI (v4)]) rfl rfl rfl ?_
  refine b_ile (t1 := 15) (t2 := 9) rfl rfl rfl (ev_w_in (by omega) (by omega)) (fun g11 => ?_) (fun g11 => ?_)
  · have b12 : 0 ≤ v4 ∧ v4 ≤ 0 := by omega
    refine w_t (np := 16) (l2 := [some (eR a0), some (eI (v4))]) (s2 := [eR a0]) rfl (s_an rfl (pos_g I2 gA0 (by decide))) rfl ?_
    refine w_t (np := 17) (l2 := [some (eR a0), some (eI (v4))]) (s2 := [eR a0, eR a0]) rfl rfl rfl ?_
    refine w_gf (np := 20) (v := eI (v6)) rfl rfl (I2.kd gA0 (by decide) (n := 69) rfl) (by rw [e7]; rfl) ?_
    refine w_t (np := 21) (l2 := [some (eR a0), some (eI (v4))]) (s2 := [eI (1), eI (v6), eR a0]) rfl rfl rfl ?_
    obtain ⟨v12, e13⟩ : ∃ zz : Int, zz = (v6) + (1) := ⟨_, rfl⟩
    have b14 : 1 ≤ v12 ∧ v12 ≤ 25 := by omega
    refine w_t (np := 22) (l2 := [some (eR a0), some (eI (v4))]) (s2 := [eI (v12), eR a0]) rfl (b_iadd (by rw [← e13]; exact ev_w_in (by omega) (by omega))) rfl ?_
    refine j_pf (np := 25) (w := v12) rfl rfl I2 gA0 (by decide) (n := 69) rfl rfl (hO_i (lo := 0) (hi := 24) rfl (by omega)) ?_
    intro m15 I16 W17
    have F18 : Fr l_313 0 0 g μ m15 := F9.w W17 gA0 rfl
    refine w_t (np := 26) (l2 := [some (eR a0), some (eI (v4))]) (s2 := [eR a0]) rfl (s_an rfl (pos_g I16 gA0 (by decide))) rfl ?_
    refine w_gf (np := 29) (v := eI (v12)) rfl rfl (I16.kd gA0 (by decide) (n := 69) rfl) (by rw [W17.at]; rfl) ?_
    refine w_t (np := 30) (l2 := [some (eR a0), some (eI (v4))]) (s2 := [eI (1), eI (v12)]) rfl rfl rfl ?_
    obtain ⟨v19, e20⟩ : ∃ zz : Int, zz = (v12) - (1) := ⟨_, rfl⟩
    have b21 : 0 ≤ v19 ∧ v19 ≤ 24 := by omega
    refine w_t (np := 31) (l2 := [some (eR a0), some (eI (v4))]) (s2 := [eI (v19)]) rfl (b_isub (by rw [← e20]; exact ev_w_in (by omega) (by omega))) rfl ?_
    exact b_ri rfl rfl (K m15 (v19) (v12) I16 F18 (by omega) W17.at)
  · have b12 : 1 ≤ v4 ∧ v4 ≤ 7 := by omega
    refine w_t (np := 10) (l2 := [some (eR a0), some (eI (v4))]) (s2 := [eR a0]) rfl (s_an rfl (pos_g I2 gA0 (by decide))) rfl ?_
    refine w_t (np := 11) (l2 := [some (eR a0), some (eI (v4))]) (s2 := [eI (v4), eR a0]) rfl rfl rfl ?_
    refine w_cw (np := 14) (as := [eI (v4)]) (l2 := [some (eR a0), some (eI (v4))]) (rest := []) rfl rfl rfl (Nat.ble_eq.mp rfl) rfl rfl rfl (I2.kd gA0 (by decide) (n := 69) rfl) rfl ?_
    refine w_t (np := 1) (l2 := [some (eR a0), some (eI (v4))]) (s2 := [eR a0]) rfl (s_an rfl (pos_g I2 gA0 (by decide))) rfl ?_
    refine w_t (np := 2) (l2 := [some (eR a0), some (eI (v4))]) (s2 := [eI (v4), eR a0]) rfl rfl rfl ?_
    refine j_pf (np := 5) (w := v4) rfl rfl I2 gA0 (by decide) (n := 69) rfl rfl (hO_i (lo := -2147483648) (hi := 2147483647) rfl (by omega)) ?_
    intro m12 I13 W14
    have F15 : Fr l_313 0 0 g μ m12 := F9.w W14 gA0 rfl
    refine w_t (np := 6) (l2 := [some (eR a0), some (eI (v4))]) (s2 := [eI (-1)]) rfl rfl rfl ?_
    refine b_ri rfl rfl ?_
    show ex_q (dt_fg L ρ) rc (d + 7, (313, 14, [some (eR a0), some (eI (v4))], [eI (-1)]), f :: F, m12)
    exact b_ri rfl rfl (K m12 (-1) (v6) I13 F15 (by decide) (W14.slot e7 (by decide)))
def l_314 : List Nat := [13313, 13314, 13315, 13316, 13317, 13362, 13318, 21504, 21248, 20224]
theorem s_314 {L : Nat} {ρ : Nat → Int} {rc : eQ} {d : Nat} {f : eFr} {F : List eFr} {μ : eM} {g : Nat → Nat} {a0 : Nat} {a1 : Int} {a2 : Int} {a3 : Int} {a4 : Int} {a5 : Int} {a6 : Int} {a7 : Int} (hI : SI g μ) (gA0 : g a0 = 52) (bA1 : -2147483648 ≤ a1 ∧ a1 ≤ 2147483647) (bA2 : -2147483648 ≤ a2 ∧ a2 ≤ 2147483647) (bA3 : -2147483648 ≤ a3 ∧ a3 ≤ 2147483647) (bA4 : -2147483648 ≤ a4 ∧ a4 ≤ 2147483647) (bA5 : -2147483648 ≤ a5 ∧ a5 ≤ 2147483647) (bA6 : -2147483648 ≤ a6 ∧ a6 ≤ 2147483647) (bA7 : -2147483648 ≤ a7 ∧ a7 ≤ 2147483647) (K : ∀ (μ2 : eM) (v : Int), SI g μ2 → Fr l_314 0 0 g μ μ2 → (-2147483648 ≤ v ∧ v ≤ 2147483647) → ex_q (dt_fg L ρ) rc (d + 9, (f.1, f.2.1, f.2.2.1, eI v :: f.2.2.2), F, μ2)) : ex_q (dt_fg L ρ) rc (d + 8, (314, 0, [some (eR a0), some (eI (a1)), some (eI (a2)), some (eI (a3)), some (eI (a4)), some (eI (a5)), some (eI (a6)), some (eI (a7))], []), f :: F, μ) := by
  have F0 : Fr l_314 0 0 g μ μ := Fr.r
  refine w_t (np := 1) (l2 := [some (eR a0), some (eI (a1)), some (eI (a2)), some (eI (a3)), some (eI (a4)), some (eI (a5)), some (eI (a6)), some (eI (a7))]) (s2 := [eR a0]) rfl (s_an rfl (pos_g hI gA0 (by decide))) rfl ?_
  refine w_t (np := 2) (l2 := [some (eR a0), some (eI (a1)), some (eI (a2)), some (eI (a3)), some (eI (a4)), some (eI (a5)), some (eI (a6)), some (eI (a7))]) (s2 := [eI (a1), eR a0]) rfl rfl rfl ?_
  refine w_t (np := 3) (l2 := [some (eR a0), some (eI (a1)), some (eI (a2)), some (eI (a3)), some (eI (a4)), some (eI (a5)), some (eI (a6)), some (eI (a7))]) (s2 := [eI (0), eI (a1), eR a0]) rfl rfl rfl ?_
  refine w_t (np := 4) (l2 := [some (eR a0), some (eI (a1)), some (eI (a2)), some (eI (a3)), some (eI (a4)), some (eI (a5)), some (eI (a6)), some (eI (a7))]) (s2 := [eI (1), eI (0), eI (a1), eR a0]) rfl rfl rfl ?_
  refine w_cu (np := 7) (as := [eI (a1), eI (0), eI (1)]) (l2 := [some (eI (a1)), some (eI (0)), some (eI (1))]) (rest := [eR a0]) rfl rfl rfl (Nat.ble_eq.mp rfl) rfl rfl rfl rfl ?_
  refine w_t (np := 1) (l2 := [some (eI (a1)), some (eI (0)), some (eI (1))]) (s2 := [eI (a1)]) rfl rfl rfl ?_
  refine w_t (np := 2) (l2 := [some (eI (a1)), some (eI (0)), some (eI (1))]) (s2 := [eI (0), eI (a1)]) rfl rfl rfl ?_
  refine b_clt (t1 := 14) (t2 := 5) rfl rfl rfl (ev_w_in (by omega) (by omega)) rfl (fun g1 => ?_) (fun g1 => ?_)
  · have b2 : -2147483648 ≤ a1 ∧ a1 ≤ -1 := by omega
    refine w_t (np := 15) (l2 := [some (eI (a1)), some (eI (0)), some (eI (1))]) (s2 := [eI (0)]) rfl rfl rfl ?_
    refine b_rz rfl rfl (Or.inl rfl) ?_
    show ex_q (dt_fg L ρ) rc (d + 8, (314, 7, [some (eR a0), some (eI (a1)), some (eI (a2)), some (eI (a3)), some (eI (a4)), some (eI (a5)), some (eI (a6)), some (eI (a7))], [eI (0), eR a0]), f :: F, μ)
    refine b_ieq (t1 := 46) (t2 := 10) rfl rfl rfl rfl (fun g2 => ?_) (fun g2 => absurd g2 (by decide))
    refine w_t (np := 47) (l2 := [some (eR a0), some (eI (a1)), some (eI (a2)), some (eI (a3)), some (eI (a4)), some (eI (a5)), some (eI (a6)), some (eI (a7))]) (s2 := [eI (1), eR a0]) rfl rfl rfl ?_
    refine w_go (t1 := 64) rfl rfl ?_
    refine w_cw (np := 67) (as := [eI (1)]) (l2 := [some (eR a0), some (eI (1))]) (rest := []) rfl rfl rfl (Nat.ble_eq.mp rfl) rfl rfl rfl (hI.kd gA0 (by decide) (n := 69) rfl) rfl ?_
    refine w_t (np := 1) (l2 := [some (eR a0), some (eI (1))]) (s2 := [eR a0]) rfl (s_an rfl (pos_g hI gA0 (by decide))) rfl ?_
    refine w_t (np := 2) (l2 := [some (eR a0), some (eI (1))]) (s2 := [eI (0), eR a0]) rfl rfl rfl ?_
    refine j_pf (np := 5) (w := 0) rfl rfl hI gA0 (by decide) (n := 69) rfl rfl (hO_i (lo := -2147483648) (hi := 2147483647) rfl (by decide)) ?_
    intro m3 I4 W5
    have F6 : Fr l_314 0 0 g μ m3 := F0.w W5 gA0 rfl
    refine w_t (np := 6) (l2 := [some (eR a0), some (eI (1))]) (s2 := [eR a0]) rfl (s_an rfl (pos_g I4 gA0 (by decide))) rfl ?_
    refine w_t (np := 7) (l2 := [some (eR a0), some (eI (1))]) (s2 := [eI (1), eR a0]) rfl rfl rfl ?_
    refine j_pf (np := 10) (w := 1) rfl rfl I4 gA0 (by decide) (n := 69) rfl rfl (hO_i (lo := -2147483648) (hi := 2147483647) rfl (by decide)) ?_
    intro m7 I8 W9
    have F10 : Fr l_314 0 0 g μ m7 := F6.w W9 gA0 rfl
    refine w_t (np := 11) (l2 := [some (eR a0), some (eI (1))]) (s2 := [eI (1)]) rfl rfl rfl ?_
    refine b_ine (t1 := 18) (t2 := 14) rfl rfl rfl rfl (fun g11 => ?_) (fun g11 => absurd g11 (by decide))
    refine w_t (np := 19) (l2 := [some (eR a0), some (eI (1))]) (s2 := [eI (0)]) rfl rfl rfl ?_
    refine b_rz rfl rfl (Or.inl rfl) ?_
    show ex_q (dt_fg L ρ) rc (d + 8, (314, 67, [some (eR a0), some (eI (a1)), some (eI (a2)), some (eI (a3)), some (eI (a4)), some (eI (a5)), some (eI (a6)), some (eI (a7))], [eI (0)]), f :: F, m7)
    refine b_ine (t1 := 72) (t2 := 70) rfl rfl rfl rfl (fun g12 => absurd g12 (by decide)) (fun g12 => ?_)
    refine w_t (np := 71) (l2 := [some (eR a0), some (eI (a1)), some (eI (a2)), some (eI (a3)), some (eI (a4)), some (eI (a5)), some (eI (a6)), some (eI (a7))]) (s2 := [eI (-1)]) rfl rfl rfl ?_
    exact b_ri rfl rfl (K m7 (-1) I8 F10 (by decide))
  · have b2 : 0 ≤ a1 ∧ a1 ≤ 2147483647 := by omega
    refine w_t (np := 6) (l2 := [some (eI (a1)), some (eI (0)), some (eI (1))]) (s2 := [eI (a1)]) rfl rfl rfl ?_
    refine w_t (np := 7) (l2 := [some (eI (a1)), some (eI (0)), some (eI (1))]) (s2 := [eI (1), eI (a1)]) rfl rfl rfl ?_
    refine b_cgt (t1 := 14) (t2 := 10) rfl rfl rfl (ev_w_in (by omega) (by omega)) rfl (fun g2 => ?_) (fun g2 => ?_)
    · have b3 : 2 ≤ a1 ∧ a1 ≤ 2147483647 := by omega
      refine w_t (np := 15) (l2 := [some (eI (a1)), some (eI (0)), some (eI (1))]) (s2 := [eI (0)]) rfl rfl rfl ?_
      refine b_rz rfl rfl (Or.inl rfl) ?_
      show ex_q (dt_fg L ρ) rc (d + 8, (314, 7, [some (eR a0), some (eI (a1)), some (eI (a2)), some (eI (a3)), some (eI (a4)), some (eI (a5)), some (eI (a6)), some (eI (a7))], [eI (0), eR a0]), f :: F, μ)
      refine b_ieq (t1 := 46) (t2 := 10) rfl rfl rfl rfl (fun g3 => ?_) (fun g3 => absurd g3 (by decide))
      refine w_t (np := 47) (l2 := [some (eR a0), some (eI (a1)), some (eI (a2)), some (eI (a3)), some (eI (a4)), some (eI (a5)), some (eI (a6)), some (eI (a7))]) (s2 := [eI (1), eR a0]) rfl rfl rfl ?_
      refine w_go (t1 := 64) rfl rfl ?_
      refine w_cw (np := 67) (as := [eI (1)]) (l2 := [some (eR a0), some (eI (1))]) (rest := []) rfl rfl rfl (Nat.ble_eq.mp rfl) rfl rfl rfl (hI.kd gA0 (by decide) (n := 69) rfl) rfl ?_
      refine w_t (np := 1) (l2 := [some (eR a0), some (eI (1))]) (s2 := [eR a0]) rfl (s_an rfl (pos_g hI gA0 (by decide))) rfl ?_
      refine w_t (np := 2) (l2 := [some (eR a0), some (eI (1))]) (s2 := [eI (0), eR a0]) rfl rfl rfl ?_
      refine j_pf (np := 5) (w := 0) rfl rfl hI gA0 (by decide) (n := 69) rfl rfl (hO_i (lo := -2147483648) (hi := 2147483647) rfl (by decide)) ?_
      intro m4 I5 W6
      have F7 : Fr l_314 0 0 g μ m4 := F0.w W6 gA0 rfl
      refine w_t (np := 6) (l2 := [some (eR a0), some (eI (1))]) (s2 := [eR a0]) rfl (s_an rfl (pos_g I5 gA0 (by decide))) rfl ?_
      refine w_t (np := 7) (l2 := [some (eR a0), some (eI (1))]) (s2 := [eI (1), eR a0]) rfl rfl rfl ?_
      refine j_pf (np := 10) (w := 1) rfl rfl I5 gA0 (by decide) (n := 69) rfl rfl (hO_i (lo := -2147483648) (hi := 2147483647) rfl (by decide)) ?_
      intro m8 I9 W10
      have F11 : Fr l_314 0 0 g μ m8 := F7.w W10 gA0 rfl
      refine w_t (np := 11) (l2 := [some (eR a0), some (eI (1))]) (s2 := [eI (1)]) rfl rfl rfl ?_
      refine b_ine (t1 := 18) (t2 := 14) rfl rfl rfl rfl (fun g12 => ?_) (fun g12 => absurd g12 (by decide))
      refine w_t (np := 19) (l2 := [some (eR a0), some (eI (1))]) (s2 := [eI (0)]) rfl rfl rfl ?_
      refine b_rz rfl rfl (Or.inl rfl) ?_
      show ex_q (dt_fg L ρ) rc (d + 8, (314, 67, [some (eR a0), some (eI (a1)), some (eI (a2)), some (eI (a3)), some (eI (a4)), some (eI (a5)), some (eI (a6)), some (eI (a7))], [eI (0)]), f :: F, m8)
      refine b_ine (t1 := 72) (t2 := 70) rfl rfl rfl rfl (fun g13 => absurd g13 (by decide)) (fun g13 => ?_)
      refine w_t (np := 71) (l2 := [some (eR a0), some (eI (a1)), some (eI (a2)), some (eI (a3)), some (eI (a4)), some (eI (a5)), some (eI (a6)), some (eI (a7))]) (s2 := [eI (-1)]) rfl rfl rfl ?_
      exact b_ri rfl rfl (K m8 (-1) I9 F11 (by decide))
    · have b3 : 0 ≤ a1 ∧ a1 ≤ 1 := by omega
      refine w_t (np := 11) (l2 := [some (eI (a1)), some (eI (0)), some (eI (1))]) (s2 := [eI (1)]) rfl rfl rfl ?_
      refine w_go (t1 := 15) rfl rfl ?_
      refine b_rz rfl rfl (Or.inr rfl) ?_
      show ex_q (dt_fg L ρ) rc (d + 8, (314, 7, [some (eR a0), some (eI (a1)), some (eI (a2)), some (eI (a3)), some (eI (a4)), some (eI (a5)), some (eI (a6)), some (eI (a7))], [eI (1), eR a0]), f :: F, μ)
      refine b_ieq (t1 := 46) (t2 := 10) rfl rfl rfl rfl (fun g3 => absurd g3 (by decide)) (fun g3 => ?_)
      refine w_t (np := 11) (l2 := [some (eR a0), some (eI (a1)), some (eI (a2)), some (eI (a3)), some (eI (a4)), some (eI (a5)), some (eI (a6)), some (eI (a7))]) (s2 := [eI (a2), eR a0]) rfl rfl rfl ?_
      refine w_t (np := 12) (l2 := [some (eR a0), some (eI (a1)), some (eI (a2)), some (eI (a3)), some (eI (a4)), some (eI (a5)), some (eI (a6)), some (eI (a7))]) (s2 := [eI (a3), eI (a2), eR a0]) rfl rfl rfl ?_
      refine w_t (np := 14) (l2 := [some (eR a0), some (eI (a1)), some (eI (a2)), some (eI (a3)), some (eI (a4)), some (eI (a5)), some (eI (a6)), some (eI (a7))]) (s2 := [eI (a4), eI (a3), eI (a2), eR a0]) rfl rfl rfl ?_
      refine w_t (np := 16) (l2 := [some (eR a0), some (eI (a1)), some (eI (a2)), some (eI (a3)), some (eI (a4)), some (eI (a5)), some (eI (a6)), some (eI (a7))]) (s2 := [eI (a5), eI (a4), eI (a3), eI (a2), eR a0]) rfl rfl rfl ?_
      refine w_t (np := 19) (l2 := [some (eR a0), some (eI (a1)), some (eI (a2)), some (eI (a3)), some (eI (a4)), some (eI (a5)), some (eI (a6)), some (eI (a7))]) (s2 := [eI (999), eI (a5), eI (a4), eI (a3), eI (a2), eR a0]) rfl rfl rfl ?_
      refine w_cu (np := 22) (as := [eI (a2), eI (a3), eI (a4), eI (a5), eI (999)]) (l2 := [some (eI (a2)), some (eI (a3)), some (eI (a4)), some (eI (a5)), some (eI (999))]) (rest := [eR a0]) rfl rfl rfl (Nat.ble_eq.mp rfl) rfl rfl rfl rfl ?_
      refine s_267 (a0 := a2) (a1 := a3) (a2 := a4) (a3 := a5) (a4 := 999) hI (by omega) (by omega) (by omega) (by omega) (by decide) ?_
      intro v4 b5
      show ex_q (dt_fg L ρ) rc (d + 8, (314, 22, [some (eR a0), some (eI (a1)), some (eI (a2)), some (eI (a3)), some (eI (a4)), some (eI (a5)), some (eI (a6)), some (eI (a7))], [eI (v4), eR a0]), f :: F, μ)
      refine b_ieq (t1 := 46) (t2 := 25) rfl rfl rfl (ev_w_in (by omega) (by omega)) (fun g6 => ?_) (fun g6 => ?_)
      · have b7 : 0 ≤ v4 ∧ v4 ≤ 0 := by omega
        refine w_t (np := 47) (l2 := [some (eR a0), some (eI (a1)), some (eI (a2)), some (eI (a3)), some (eI (a4)), some (eI (a5)), some (eI (a6)), some (eI (a7))]) (s2 := [eI (1), eR a0]) rfl rfl rfl ?_
        refine w_go (t1 := 64) rfl rfl ?_
        refine w_cw (np := 67) (as := [eI (1)]) (l2 := [some (eR a0), some (eI (1))]) (rest := []) rfl rfl rfl (Nat.ble_eq.mp rfl) rfl rfl rfl (hI.kd gA0 (by decide) (n := 69) rfl) rfl ?_
        refine w_t (np := 1) (l2 := [some (eR a0), some (eI (1))]) (s2 := [eR a0]) rfl (s_an rfl (pos_g hI gA0 (by decide))) rfl ?_
        refine w_t (np := 2) (l2 := [some (eR a0), some (eI (1))]) (s2 := [eI (0), eR a0]) rfl rfl rfl ?_
        refine j_pf (np := 5) (w := 0) rfl rfl hI gA0 (by decide) (n := 69) rfl rfl (hO_i (lo := -2147483648) (hi := 2147483647) rfl (by decide)) ?_
        intro m7 I8 W9
        have F10 : Fr l_314 0 0 g μ m7 := F0.w W9 gA0 rfl
        refine w_t (np := 6) (l2 := [some (eR a0), some (eI (1))]) (s2 := [eR a0]) rfl (s_an rfl (pos_g I8 gA0 (by decide))) rfl ?_
        refine w_t (np := 7) (l2 := [some (eR a0), some (eI (1))]) (s2 := [eI (1), eR a0]) rfl rfl rfl ?_
        refine j_pf (np := 10) (w := 1) rfl rfl I8 gA0 (by decide) (n := 69) rfl rfl (hO_i (lo := -2147483648) (hi := 2147483647) rfl (by decide)) ?_
        intro m11 I12 W13
        have F14 : Fr l_314 0 0 g μ m11 := F10.w W13 gA0 rfl
        refine w_t (np := 11) (l2 := [some (eR a0), some (eI (1))]) (s2 := [eI (1)]) rfl rfl rfl ?_
        refine b_ine (t1 := 18) (t2 := 14) rfl rfl rfl rfl (fun g15 => ?_) (fun g15 => absurd g15 (by decide))
        refine w_t (np := 19) (l2 := [some (eR a0), some (eI (1))]) (s2 := [eI (0)]) rfl rfl rfl ?_
        refine b_rz rfl rfl (Or.inl rfl) ?_
        show ex_q (dt_fg L ρ) rc (d + 8, (314, 67, [some (eR a0), some (eI (a1)), some (eI (a2)), some (eI (a3)), some (eI (a4)), some (eI (a5)), some (eI (a6)), some (eI (a7))], [eI (0)]), f :: F, m11)
        refine b_ine (t1 := 72) (t2 := 70) rfl rfl rfl rfl (fun g16 => absurd g16 (by decide)) (fun g16 => ?_)
        refine w_t (np := 71) (l2 := [some (eR a0), some (eI (a1)), some (eI (a2)), some (eI (a3)), some (eI (a4)), some (eI (a5)), some (eI (a6)), some (eI (a7))]) (s2 := [eI (-1)]) rfl rfl rfl ?_
        exact b_ri rfl rfl (K m11 (-1) I12 F14 (by decide))
      · have b7 : 1 ≤ v4 ∧ v4 ≤ 1 := by omega
        refine w_t (np := 27) (l2 := [some (eR a0), some (eI (a1)), some (eI (a2)), some (eI (a3)), some (eI (a4)), some (eI (a5)), some (eI (a6)), some (eI (a7))]) (s2 := [eI (a6), eR a0]) rfl rfl rfl ?_
        refine w_t (np := 28) (l2 := [some (eR a0), some (eI (a1)), some (eI (a2)), some (eI (a3)), some (eI (a4)), some (eI (a5)), some (eI (a6)), some (eI (a7))]) (s2 := [eI (0), eI (a6), eR a0]) rfl rfl rfl ?_
        refine w_t (np := 30) (l2 := [some (eR a0), some (eI (a1)), some (eI (a2)), some (eI (a3)), some (eI (a4)), some (eI (a5)), some (eI (a6)), some (eI (a7))]) (s2 := [eI (9), eI (0), eI (a6), eR a0]) rfl rfl rfl ?_
        refine w_cu (np := 33) (as := [eI (a6), eI (0), eI (9)]) (l2 := [some (eI (a6)), some (eI (0)), some (eI (9))]) (rest := [eR a0]) rfl rfl rfl (Nat.ble_eq.mp rfl) rfl rfl rfl rfl ?_
        refine w_t (np := 1) (l2 := [some (eI (a6)), some (eI (0)), some (eI (9))]) (s2 := [eI (a6)]) rfl rfl rfl ?_
        refine w_t (np := 2) (l2 := [some (eI (a6)), some (eI (0)), some (eI (9))]) (s2 := [eI (0), eI (a6)]) rfl rfl rfl ?_
        refine b_clt (t1 := 14) (t2 := 5) rfl rfl rfl (ev_w_in (by omega) (by omega)) rfl (fun g7 => ?_) (fun g7 => ?_)
        · have b8 : -2147483648 ≤ a6 ∧ a6 ≤ -1 := by omega
          refine w_t (np := 15) (l2 := [some (eI (a6)), some (eI (0)), some (eI (9))]) (s2 := [eI (0)]) rfl rfl rfl ?_
          refine b_rz rfl rfl (Or.inl rfl) ?_
          show ex_q (dt_fg L ρ) rc (d + 8, (314, 33, [some (eR a0), some (eI (a1)), some (eI (a2)), some (eI (a3)), some (eI (a4)), some (eI (a5)), some (eI (a6)), some (eI (a7))], [eI (0), eR a0]), f :: F, μ)
          refine b_ieq (t1 := 46) (t2 := 36) rfl rfl rfl rfl (fun g8 => ?_) (fun g8 => absurd g8 (by decide))
          refine w_t (np := 47) (l2 := [some (eR a0), some (eI (a1)), some (eI (a2)), some (eI (a3)), some (eI (a4)), some (eI (a5)), some (eI (a6)), some (eI (a7))]) (s2 := [eI (1), eR a0]) rfl rfl rfl ?_
          refine w_go (t1 := 64) rfl rfl ?_
          refine w_cw (np := 67) (as := [eI (1)]) (l2 := [some (eR a0), some (eI (1))]) (rest := []) rfl rfl rfl (Nat.ble_eq.mp rfl) rfl rfl rfl (hI.kd gA0 (by decide) (n := 69) rfl) rfl ?_
          refine w_t (np := 1) (l2 := [some (eR a0), some (eI (1))]) (s2 := [eR a0]) rfl (s_an rfl (pos_g hI gA0 (by decide))) rfl ?_
          refine w_t (np := 2) (l2 := [some (eR a0), some (eI (1))]) (s2 := [eI (0), eR a0]) rfl rfl rfl ?_
          refine j_pf (np := 5) (w := 0) rfl rfl hI gA0 (by decide) (n := 69) rfl rfl (hO_i (lo := -2147483648) (hi := 2147483647) rfl (by decide)) ?_
          intro m9 I10 W11
          have F12 : Fr l_314 0 0 g μ m9 := F0.w W11 gA0 rfl
          refine w_t (np := 6) (l2 := [some (eR a0), some (eI (1))]) (s2 := [eR a0]) rfl (s_an rfl (pos_g I10 gA0 (by decide))) rfl ?_
          refine w_t (np := 7) (l2 := [some (eR a0), some (eI (1))]) (s2 := [eI (1), eR a0]) rfl rfl rfl ?_
          refine j_pf (np := 10) (w := 1) rfl rfl I10 gA0 (by decide) (n := 69) rfl rfl (hO_i (lo := -2147483648) (hi := 2147483647) rfl (by decide)) ?_
          intro m13 I14 W15
          have F16 : Fr l_314 0 0 g μ m13 := F12.w W15 gA0 rfl
          refine w_t (np := 11) (l2 := [some (eR a0), some (eI (1))]) (s2 := [eI (1)]) rfl rfl rfl ?_
          refine b_ine (t1 := 18) (t2 := 14) rfl rfl rfl rfl (fun g17 => ?_) (fun g17 => absurd g17 (by decide))
          refine w_t (np := 19) (l2 := [some (eR a0), some (eI (1))]) (s2 := [eI (0)]) rfl rfl rfl ?_
          refine b_rz rfl rfl (Or.inl rfl) ?_
          show ex_q (dt_fg L ρ) rc (d + 8, (314, 67, [some (eR a0), some (eI (a1)), some (eI (a2)), some (eI (a3)), some (eI (a4)), some (eI (a5)), some (eI (a6)), some (eI (a7))], [eI (0)]), f :: F, m13)
          refine b_ine (t1 := 72) (t2 := 70) rfl rfl rfl rfl (fun g18 => absurd g18 (by decide)) (fun g18 => ?_)
          refine w_t (np := 71) (l2 := [some (eR a0), some (eI (a1)), some (eI (a2)), some (eI (a3)), some (eI (a4)), some (eI (a5)), some (eI (a6)), some (eI (a7))]) (s2 := [eI (-1)]) rfl rfl rfl ?_
          exact b_ri rfl rfl (K m13 (-1) I14 F16 (by decide))
        · have b8 : 0 ≤ a6 ∧ a6 ≤ 2147483647 := by omega
          refine w_t (np := 6) (l2 := [some (eI (a6)), some (eI (0)), some (eI (9))]) (s2 := [eI (a6)]) rfl rfl rfl ?_
          refine w_t (np := 7) (l2 := [some (eI (a6)), some (eI (0)), some (eI (9))]) (s2 := [eI (9), eI (a6)]) rfl rfl rfl ?_
          refine b_cgt (t1 := 14) (t2 := 10) rfl rfl rfl (ev_w_in (by omega) (by omega)) rfl (fun g8 => ?_) (fun g8 => ?_)
          · have b9 : 10 ≤ a6 ∧ a6 ≤ 2147483647 := by omega
            refine w_t (np := 15) (l2 := [some (eI (a6)), some (eI (0)), some (eI (9))]) (s2 := [eI (0)]) rfl rfl rfl ?_
            refine b_rz rfl rfl (Or.inl rfl) ?_
            show ex_q (dt_fg L ρ) rc (d + 8, (314, 33, [some (eR a0), some (eI (a1)), some (eI (a2)), some (eI (a3)), some (eI (a4)), some (eI (a5)), some (eI (a6)), some (eI (a7))], [eI (0), eR a0]), f :: F, μ)
            refine b_ieq (t1 := 46) (t2 := 36) rfl rfl rfl rfl (fun g9 => ?_) (fun g9 => absurd g9 (by decide))
            refine w_t (np := 47) (l2 := [some (eR a0), some (eI (a1)), some (eI (a2)), some (eI (a3)), some (eI (a4)), some (eI (a5)), some (eI (a6)), some (eI (a7))]) (s2 := [eI (1), eR a0]) rfl rfl rfl ?_
            refine w_go (t1 := 64) rfl rfl ?_
            refine w_cw (np := 67) (as := [eI (1)]) (l2 := [some (eR a0), some (eI (1))]) (rest := []) rfl rfl rfl (Nat.ble_eq.mp rfl) rfl rfl rfl (hI.kd gA0 (by decide) (n := 69) rfl) rfl ?_
            refine w_t (np := 1) (l2 := [some (eR a0), some (eI (1))]) (s2 := [eR a0]) rfl (s_an rfl (pos_g hI gA0 (by decide))) rfl ?_
            refine w_t (np := 2) (l2 := [some (eR a0), some (eI (1))]) (s2 := [eI (0), eR a0]) rfl rfl rfl ?_
            refine j_pf (np := 5) (w := 0) rfl rfl hI gA0 (by decide) (n := 69) rfl rfl (hO_i (lo := -2147483648) (hi := 2147483647) rfl (by decide)) ?_
            intro m10 I11 W12
            have F13 : Fr l_314 0 0 g μ m10 := F0.w W12 gA0 rfl
            refine w_t (np := 6) (l2 := [some (eR a0), some (eI (1))]) (s2 := [eR a0]) rfl (s_an rfl (pos_g I11 gA0 (by decide))) rfl ?_
            refine w_t (np := 7) (l2 := [some (eR a0), some (eI (1))]) (s2 := [eI (1), eR a0]) rfl rfl rfl ?_
            refine j_pf (np := 10) (w := 1) rfl rfl I11 gA0 (by decide) (n := 69) rfl rfl (hO_i (lo := -2147483648) (hi := 2147483647) rfl (by decide)) ?_
            intro m14 I15 W16
            have F17 : Fr l_314 0 0 g μ m14 := F13.w W16 gA0 rfl
            refine w_t (np := 11) (l2 := [some (eR a0), some (eI (1))]) (s2 := [eI (1)]) rfl rfl rfl ?_
            refine b_ine (t1 := 18) (t2 := 14) rfl rfl rfl rfl (fun g18 => ?_) (fun g18 => absurd g18 (by decide))
            refine w_t (np := 19) (l2 := [some (eR a0), some (eI (1))]) (s2 := [eI (0)]) rfl rfl rfl ?_
            refine b_rz rfl rfl (Or.inl rfl) ?_
            show ex_q (dt_fg L ρ) rc (d + 8, (314, 67, [some (eR a0), some (eI (a1)), some (eI (a2)), some (eI (a3)), some (eI (a4)), some (eI (a5)), some (eI (a6)), some (eI (a7))], [eI (0)]), f :: F, m14)
            refine b_ine (t1 := 72) (t2 := 70) rfl rfl rfl rfl (fun g19 => absurd g19 (by decide)) (fun g19 => ?_)
            refine w_t (np := 71) (l2 := [some (eR a0), some (eI (a1)), some (eI (a2)), some (eI (a3)), some (eI (a4)), some (eI (a5)), some (eI (a6)), some (eI (a7))]) (s2 := [eI (-1)]) rfl rfl rfl ?_
            exact b_ri rfl rfl (K m14 (-1) I15 F17 (by decide))
          · have b9 : 0 ≤ a6 ∧ a6 ≤ 9 := by omega
            refine w_t (np := 11) (l2 := [some (eI (a6)), some (eI (0)), some (eI (9))]) (s2 := [eI (1)]) rfl rfl rfl ?_
            refine w_go (t1 := 15) rfl rfl ?_
            refine b_rz rfl rfl (Or.inr rfl) ?_
            show ex_q (dt_fg L ρ) rc (d + 8, (314, 33, [some (eR a0), some (eI (a1)), some (eI (a2)), some (eI (a3)), some (eI (a4)), some (eI (a5)), some (eI (a6)), some (eI (a7))], [eI (1), eR a0]), f :: F, μ)
            refine b_ieq (t1 := 46) (t2 := 36) rfl rfl rfl rfl (fun g9 => absurd g9 (by decide)) (fun g9 => ?_)
            refine w_t (np := 38) (l2 := [some (eR a0), some (eI (a1)), some (eI (a2)), some (eI (a3)), some (eI (a4)), some (eI (a5)), some (eI (a6)), some (eI (a7))]) (s2 := [eI (a7), eR a0]) rfl rfl rfl ?_
            refine w_t (np := 39) (l2 := [some (eR a0), some (eI (a1)), some (eI (a2)), some (eI (a3)), some (eI (a4)), some (eI (a5)), some (eI (a6)), some (eI (a7))]) (s2 := [eI (0), eI (a7), eR a0]) rfl rfl rfl ?_
            refine w_t (np := 40) (l2 := [some (eR a0), some (eI (a1)), some (eI (a2)), some (eI (a3)), some (eI (a4)), some (eI (a5)), some (eI (a6)), some (eI (a7))]) (s2 := [eI (1), eI (0), eI (a7), eR a0]) rfl rfl rfl ?_
            refine w_cu (np := 43) (as := [eI (a7), eI (0), eI (1)]) (l2 := [some (eI (a7)), some (eI (0)), some (eI (1))]) (rest := [eR a0]) rfl rfl rfl (Nat.ble_eq.mp rfl) rfl rfl rfl rfl ?_
            refine w_t (np := 1) (l2 := [some (eI (a7)), some (eI (0)), some (eI (1))]) (s2 := [eI (a7)]) rfl rfl rfl ?_
            refine w_t (np := 2) (l2 := [some (eI (a7)), some (eI (0)), some (eI (1))]) (s2 := [eI (0), eI (a7)]) rfl rfl rfl ?_
            refine b_clt (t1 := 14) (t2 := 5) rfl rfl rfl (ev_w_in (by omega) (by omega)) rfl (fun g10 => ?_) (fun g10 => ?_)
            · have b11 : -2147483648 ≤ a7 ∧ a7 ≤ -1 := by omega
              refine w_t (np := 15) (l2 := [some (eI (a7)), some (eI (0)), some (eI (1))]) (s2 := [eI (0)]) rfl rfl rfl ?_
              refine b_rz rfl rfl (Or.inl rfl) ?_
              show ex_q (dt_fg L ρ) rc (d + 8, (314, 43, [some (eR a0), some (eI (a1)), some (eI (a2)), some (eI (a3)), some (eI (a4)), some (eI (a5)), some (eI (a6)), some (eI (a7))], [eI (0), eR a0]), f :: F, μ)
              refine b_ine (t1 := 50) (t2 := 46) rfl rfl rfl rfl (fun g11 => absurd g11 (by decide)) (fun g11 => ?_)
              refine w_t (np := 47) (l2 := [some (eR a0), some (eI (a1)), some (eI (a2)), some (eI (a3)), some (eI (a4)), some (eI (a5)), some (eI (a6)), some (eI (a7))]) (s2 := [eI (1), eR a0]) rfl rfl rfl ?_
              refine w_go (t1 := 64) rfl rfl ?_
              refine w_cw (np := 67) (as := [eI (1)]) (l2 := [some (eR a0), some (eI (1))]) (rest := []) rfl rfl rfl (Nat.ble_eq.mp rfl) rfl rfl rfl (hI.kd gA0 (by decide) (n := 69) rfl) rfl ?_
              refine w_t (np := 1) (l2 := [some (eR a0), some (eI (1))]) (s2 := [eR a0]) rfl (s_an rfl (pos_g hI gA0 (by decide))) rfl ?_
              refine w_t (np := 2) (l2 := [some (eR a0), some (eI (1))]) (s2 := [eI (0), eR a0]) rfl rfl rfl ?_
              refine j_pf (np := 5) (w := 0) rfl rfl hI gA0 (by decide) (n := 69) rfl rfl (hO_i (lo := -2147483648) (hi := 2147483647) rfl (by decide)) ?_
              intro m12 I13 W14
              have F15 : Fr l_314 0 0 g μ m12 := F0.w W14 gA0 rfl
              refine w_t (np := 6) (l2 := [some (eR a0), some (eI (1))]) (s2 := [eR a0]) rfl (s_an rfl (pos_g I13 gA0 (by decide))) rfl ?_
              refine w_t (np := 7) (l2 := [some (eR a0), some (eI (1))]) (s2 := [eI (1), eR a0]) rfl rfl rfl ?_
              refine j_pf (np := 10) (w := 1) rfl rfl I13 gA0 (by decide) (n := 69) rfl rfl (hO_i (lo := -2147483648) (hi := 2147483647) rfl (by decide)) ?_
              intro m16 I17 W18
              have F19 : Fr l_314 0 0 g μ m16 := F15.w W18 gA0 rfl
              refine w_t (np := 11) (l2 := [some (eR a0), some (eI (1))]) (s2 := [eI (1)]) rfl rfl rfl ?_
              refine b_ine (t1 := 18) (t2 := 14) rfl rfl rfl rfl (fun g20 => ?_) (fun g20 => absurd g20 (by decide))
              refine w_t (np := 19) (l2 := [some (eR a0), some (eI (1))]) (s2 := [eI (0)]) rfl rfl rfl ?_
              refine b_rz rfl rfl (Or.inl rfl) ?_
              show ex_q (dt_fg L ρ) rc (d + 8, (314, 67, [some (eR a0), some (eI (a1)), some (eI (a2)), some (eI (a3)), some (eI (a4)), some (eI (a5)), some (eI (a6)), some (eI (a7))], [eI (0)]), f :: F, m16)
              refine b_ine (t1 := 72) (t2 := 70) rfl rfl rfl rfl (fun g21 => absurd g21 (by decide)) (fun g21 => ?_)
              refine w_t (np := 71) (l2 := [some (eR a0), some (eI (a1)), some (eI (a2)), some (eI (a3)), some (eI (a4)), some (eI (a5)), some (eI (a6)), some (eI (a7))]) (s2 := [eI (-1)]) rfl rfl rfl ?_
              exact b_ri rfl rfl (K m16 (-1) I17 F19 (by decide))
            · have b11 : 0 ≤ a7 ∧ a7 ≤ 2147483647 := by omega
              refine w_t (np := 6) (l2 := [some (eI (a7)), some (eI (0)), some (eI (1))]) (s2 := [eI (a7)]) rfl rfl rfl ?_
              refine w_t (np := 7) (l2 := [some (eI (a7)), some (eI (0)), some (eI (1))]) (s2 := [eI (1), eI (a7)]) rfl rfl rfl ?_
              refine b_cgt (t1 := 14) (t2 := 10) rfl rfl rfl (ev_w_in (by omega) (by omega)) rfl (fun g11 => ?_) (fun g11 => ?_)
              · have b12 : 2 ≤ a7 ∧ a7 ≤ 2147483647 := by omega
                refine w_t (np := 15) (l2 := [some (eI (a7)), some (eI (0)), some (eI (1))]) (s2 := [eI (0)]) rfl rfl rfl ?_
                refine b_rz rfl rfl (Or.inl rfl) ?_
                show ex_q (dt_fg L ρ) rc (d + 8, (314, 43, [some (eR a0), some (eI (a1)), some (eI (a2)), some (eI (a3)), some (eI (a4)), some (eI (a5)), some (eI (a6)), some (eI (a7))], [eI (0), eR a0]), f :: F, μ)
                refine b_ine (t1 := 50) (t2 := 46) rfl rfl rfl rfl (fun g12 => absurd g12 (by decide)) (fun g12 => ?_)
                refine w_t (np := 47) (l2 := [some (eR a0), some (eI (a1)), some (eI (a2)), some (eI (a3)), some (eI (a4)), some (eI (a5)), some (eI (a6)), some (eI (a7))]) (s2 := [eI (1), eR a0]) rfl rfl rfl ?_
                refine w_go (t1 := 64) rfl rfl ?_
                refine w_cw (np := 67) (as := [eI (1)]) (l2 := [some (eR a0), some (eI (1))]) (rest := []) rfl rfl rfl (Nat.ble_eq.mp rfl) rfl rfl rfl (hI.kd gA0 (by decide) (n := 69) rfl) rfl ?_
                refine w_t (np := 1) (l2 := [some (eR a0), some (eI (1))]) (s2 := [eR a0]) rfl (s_an rfl (pos_g hI gA0 (by decide))) rfl ?_
                refine w_t (np := 2) (l2 := [some (eR a0), some (eI (1))]) (s2 := [eI (0), eR a0]) rfl rfl rfl ?_
                refine j_pf (np := 5) (w := 0) rfl rfl hI gA0 (by decide) (n := 69) rfl rfl (hO_i (lo := -2147483648) (hi := 2147483647) rfl (by decide)) ?_
                intro m13 I14 W15
                have F16 : Fr l_314 0 0 g μ m13 := F0.w W15 gA0 rfl
                refine w_t (np := 6) (l2 := [some (eR a0), some (eI (1))]) (s2 := [eR a0]) rfl (s_an rfl (pos_g I14 gA0 (by decide))) rfl ?_
                refine w_t (np := 7) (l2 := [some (eR a0), some (eI (1))]) (s2 := [eI (1), eR a0]) rfl rfl rfl ?_
                refine j_pf (np := 10) (w := 1) rfl rfl I14 gA0 (by decide) (n := 69) rfl rfl (hO_i (lo := -2147483648) (hi := 2147483647) rfl (by decide)) ?_
                intro m17 I18 W19
                have F20 : Fr l_314 0 0 g μ m17 := F16.w W19 gA0 rfl
                refine w_t (np := 11) (l2 := [some (eR a0), some (eI (1))]) (s2 := [eI (1)]) rfl rfl rfl ?_
                refine b_ine (t1 := 18) (t2 := 14) rfl rfl rfl rfl (fun g21 => ?_) (fun g21 => absurd g21 (by decide))
                refine w_t (np := 19) (l2 := [some (eR a0), some (eI (1))]) (s2 := [eI (0)]) rfl rfl rfl ?_
                refine b_rz rfl rfl (Or.inl rfl) ?_
                show ex_q (dt_fg L ρ) rc (d + 8, (314, 67, [some (eR a0), some (eI (a1)), some (eI (a2)), some (eI (a3)), some (eI (a4)), some (eI (a5)), some (eI (a6)), some (eI (a7))], [eI (0)]), f :: F, m17)
                refine b_ine (t1 := 72) (t2 := 70) rfl rfl rfl rfl (fun g22 => absurd g22 (by decide)) (fun g22 => ?_)
                refine w_t (np := 71) (l2 := [some (eR a0), some (eI (a1)), some (eI (a2)), some (eI (a3)), some (eI (a4)), some (eI (a5)), some (eI (a6)), some (eI (a7))]) (s2 := [eI (-1)]) rfl rfl rfl ?_
                exact b_ri rfl rfl (K m17 (-1) I18 F20 (by decide))
              · have b12 : 0 ≤ a7 ∧ a7 ≤ 1 := by omega
                refine w_t (np := 11) (l2 := [some (eI (a7)), some (eI (0)), some (eI (1))]) (s2 := [eI (1)]) rfl rfl rfl ?_
                refine w_go (t1 := 15) rfl rfl ?_
                refine b_rz rfl rfl (Or.inr rfl) ?_
                show ex_q (dt_fg L ρ) rc (d + 8, (314, 43, [some (eR a0), some (eI (a1)), some (eI (a2)), some (eI (a3)), some (eI (a4)), some (eI (a5)), some (eI (a6)), some (eI (a7))], [eI (1), eR a0]), f :: F, μ)
                refine b_ine (t1 := 50) (t2 := 46) rfl rfl rfl rfl (fun g12 => ?_) (fun g12 => absurd g12 (by decide))
                refine w_t (np := 51) (l2 := [some (eR a0), some (eI (a1)), some (eI (a2)), some (eI (a3)), some (eI (a4)), some (eI (a5)), some (eI (a6)), some (eI (a7))]) (s2 := [eR a0, eR a0]) rfl (s_an rfl (pos_g hI gA0 (by decide))) rfl ?_
                refine j_gi (np := 54) rfl rfl rfl hI gA0 (by decide) (n := 69) rfl rfl (lo := 0) (hi := 24) rfl ?_
                intro v13 e14 b15
                refine w_t (np := 56) (l2 := [some (eR a0), some (eI (a1)), some (eI (a2)), some (eI (a3)), some (eI (a4)), some (eI (a5)), some (eI (a6)), some (eI (a7))]) (s2 := [eI (24), eI (v13), eR a0]) rfl rfl rfl ?_
                refine b_cne (t1 := 63) (t2 := 59) rfl rfl rfl (ev_w_in (by omega) (by omega)) rfl (fun g16 => ?_) (fun g16 => ?_)
                · have b17 : 0 ≤ v13 ∧ v13 ≤ 23 := by omega
                  refine w_t (np := 64) (l2 := [some (eR a0), some (eI (a1)), some (eI (a2)), some (eI (a3)), some (eI (a4)), some (eI (a5)), some (eI (a6)), some (eI (a7))]) (s2 := [eI (0), eR a0]) rfl rfl rfl ?_
                  refine w_cw (np := 67) (as := [eI (0)]) (l2 := [some (eR a0), some (eI (0))]) (rest := []) rfl rfl rfl (Nat.ble_eq.mp rfl) rfl rfl rfl (hI.kd gA0 (by decide) (n := 69) rfl) rfl ?_
                  refine w_t (np := 1) (l2 := [some (eR a0), some (eI (0))]) (s2 := [eR a0]) rfl (s_an rfl (pos_g hI gA0 (by decide))) rfl ?_
                  refine w_t (np := 2) (l2 := [some (eR a0), some (eI (0))]) (s2 := [eI (0), eR a0]) rfl rfl rfl ?_
                  refine j_pf (np := 5) (w := 0) rfl rfl hI gA0 (by decide) (n := 69) rfl rfl (hO_i (lo := -2147483648) (hi := 2147483647) rfl (by decide)) ?_
                  intro m17 I18 W19
                  have F20 : Fr l_314 0 0 g μ m17 := F0.w W19 gA0 rfl
                  refine w_t (np := 6) (l2 := [some (eR a0), some (eI (0))]) (s2 := [eR a0]) rfl (s_an rfl (pos_g I18 gA0 (by decide))) rfl ?_
                  refine w_t (np := 7) (l2 := [some (eR a0), some (eI (0))]) (s2 := [eI (0), eR a0]) rfl rfl rfl ?_
                  refine j_pf (np := 10) (w := 0) rfl rfl I18 gA0 (by decide) (n := 69) rfl rfl (hO_i (lo := -2147483648) (hi := 2147483647) rfl (by decide)) ?_
                  intro m21 I22 W23
                  have F24 : Fr l_314 0 0 g μ m21 := F20.w W23 gA0 rfl
                  refine w_t (np := 11) (l2 := [some (eR a0), some (eI (0))]) (s2 := [eI (0)]) rfl rfl rfl ?_
                  refine b_ine (t1 := 18) (t2 := 14) rfl rfl rfl rfl (fun g25 => absurd g25 (by decide)) (fun g25 => ?_)
                  refine w_t (np := 15) (l2 := [some (eR a0), some (eI (0))]) (s2 := [eI (1)]) rfl rfl rfl ?_
                  refine w_go (t1 := 19) rfl rfl ?_
                  refine b_rz rfl rfl (Or.inr rfl) ?_
                  show ex_q (dt_fg L ρ) rc (d + 8, (314, 67, [some (eR a0), some (eI (a1)), some (eI (a2)), some (eI (a3)), some (eI (a4)), some (eI (a5)), some (eI (a6)), some (eI (a7))], [eI (1)]), f :: F, m21)
                  refine b_ine (t1 := 72) (t2 := 70) rfl rfl rfl rfl (fun g26 => ?_) (fun g26 => absurd g26 (by decide))
                  refine w_t (np := 73) (l2 := [some (eR a0), some (eI (a1)), some (eI (a2)), some (eI (a3)), some (eI (a4)), some (eI (a5)), some (eI (a6)), some (eI (a7))]) (s2 := [eR a0]) rfl (s_an rfl (pos_g I22 gA0 (by decide))) rfl ?_
                  refine w_t (np := 74) (l2 := [some (eR a0), some (eI (a1)), some (eI (a2)), some (eI (a3)), some (eI (a4)), some (eI (a5)), some (eI (a6)), some (eI (a7))]) (s2 := [eI (a1), eR a0]) rfl rfl rfl ?_
                  refine w_t (np := 75) (l2 := [some (eR a0), some (eI (a1)), some (eI (a2)), some (eI (a3)), some (eI (a4)), some (eI (a5)), some (eI (a6)), some (eI (a7))]) (s2 := [eI (a2), eI (a1), eR a0]) rfl rfl rfl ?_
                  refine w_t (np := 76) (l2 := [some (eR a0), some (eI (a1)), some (eI (a2)), some (eI (a3)), some (eI (a4)), some (eI (a5)), some (eI (a6)), some (eI (a7))]) (s2 := [eI (a3), eI (a2), eI (a1), eR a0]) rfl rfl rfl ?_
                  refine w_t (np := 78) (l2 := [some (eR a0), some (eI (a1)), some (eI (a2)), some (eI (a3)), some (eI (a4)), some (eI (a5)), some (eI (a6)), some (eI (a7))]) (s2 := [eI (a4), eI (a3), eI (a2), eI (a1), eR a0]) rfl rfl rfl ?_
                  refine w_t (np := 80) (l2 := [some (eR a0), some (eI (a1)), some (eI (a2)), some (eI (a3)), some (eI (a4)), some (eI (a5)), some (eI (a6)), some (eI (a7))]) (s2 := [eI (a5), eI (a4), eI (a3), eI (a2), eI (a1), eR a0]) rfl rfl rfl ?_
                  refine w_t (np := 82) (l2 := [some (eR a0), some (eI (a1)), some (eI (a2)), some (eI (a3)), some (eI (a4)), some (eI (a5)), some (eI (a6)), some (eI (a7))]) (s2 := [eI (a6), eI (a5), eI (a4), eI (a3), eI (a2), eI (a1), eR a0]) rfl rfl rfl ?_
                  refine w_t (np := 84) (l2 := [some (eR a0), some (eI (a1)), some (eI (a2)), some (eI (a3)), some (eI (a4)), some (eI (a5)), some (eI (a6)), some (eI (a7))]) (s2 := [eI (a7), eI (a6), eI (a5), eI (a4), eI (a3), eI (a2), eI (a1), eR a0]) rfl rfl rfl ?_
                  refine w_cw (np := 87) (as := [eI (a1), eI (a2), eI (a3), eI (a4), eI (a5), eI (a6), eI (a7)]) (l2 := [some (eR a0), some (eI (a1)), some (eI (a2)), some (eI (a3)), some (eI (a4)), some (eI (a5)), some (eI (a6)), some (eI (a7)), none]) (rest := []) rfl rfl rfl (Nat.ble_eq.mp rfl) rfl rfl rfl (I22.kd gA0 (by decide) (n := 69) rfl) rfl ?_
                  refine s_312 (a1 := a1) (a2 := a2) (a3 := a3) (a4 := a4) (a5 := a5) (a6 := a6) (a7 := a7) I22 gA0 (by omega) (by omega) (by omega) (by omega) (by omega) (by omega) (by omega) (W23.slot (W19.slot e14 (by decide)) (by decide)) (by omega) ?_
                  intro m27 v30 I28 F29 e31 h32
                  have F33 : Fr l_314 0 0 g μ m27 := F24.t F29 rfl
                  have b34 : 0 ≤ v30 ∧ v30 ≤ 24 := by
                    rw [← e31]
                    exact I28.int gA0 (by decide) (n := 69) rfl (by decide) rfl
                  show ex_q (dt_fg L ρ) rc (d + 8, (314, 87, [some (eR a0), some (eI (a1)), some (eI (a2)), some (eI (a3)), some (eI (a4)), some (eI (a5)), some (eI (a6)), some (eI (a7))], []), f :: F, m27)
                  refine w_t (np := 88) (l2 := [some (eR a0), some (eI (a1)), some (eI (a2)), some (eI (a3)), some (eI (a4)), some (eI (a5)), some (eI (a6)), some (eI (a7))]) (s2 := [eR a0]) rfl (s_an rfl (pos_g I28 gA0 (by decide))) rfl ?_
                  refine w_cw (np := 91) (as := []) (l2 := [some (eR a0), none]) (rest := []) rfl rfl rfl (Nat.ble_eq.mp rfl) rfl rfl rfl (I28.kd gA0 (by decide) (n := 69) rfl) rfl ?_
                  refine s_313 I28 gA0 e31 (by omega) ?_
                  intro m35 v38 v40 I36 F37 b39 e41
                  have F42 : Fr l_314 0 0 g μ m35 := F33.t F37 rfl
                  have b43 : 0 ≤ v40 ∧ v40 ≤ 24 := by
                    rw [← e41]
                    exact I36.int gA0 (by decide) (n := 69) rfl (by decide) rfl
                  show ex_q (dt_fg L ρ) rc (d + 8, (314, 91, [some (eR a0), some (eI (a1)), some (eI (a2)), some (eI (a3)), some (eI (a4)), some (eI (a5)), some (eI (a6)), some (eI (a7))], [eI (v38)]), f :: F, m35)
                  exact b_ri rfl rfl (K m35 (v38) I36 F42 (by omega))
                · have b17 : 24 ≤ v13 ∧ v13 ≤ 24 := by omega
                  refine w_t (np := 60) (l2 := [some (eR a0), some (eI (a1)), some (eI (a2)), some (eI (a3)), some (eI (a4)), some (eI (a5)), some (eI (a6)), some (eI (a7))]) (s2 := [eI (3), eR a0]) rfl rfl rfl ?_
                  refine w_go (t1 := 64) rfl rfl ?_
                  refine w_cw (np := 67) (as := [eI (3)]) (l2 := [some (eR a0), some (eI (3))]) (rest := []) rfl rfl rfl (Nat.ble_eq.mp rfl) rfl rfl rfl (hI.kd gA0 (by decide) (n := 69) rfl) rfl ?_
                  refine w_t (np := 1) (l2 := [some (eR a0), some (eI (3))]) (s2 := [eR a0]) rfl (s_an rfl (pos_g hI gA0 (by decide))) rfl ?_
                  refine w_t (np := 2) (l2 := [some (eR a0), some (eI (3))]) (s2 := [eI (0), eR a0]) rfl rfl rfl ?_
                  refine j_pf (np := 5) (w := 0) rfl rfl hI gA0 (by decide) (n := 69) rfl rfl (hO_i (lo := -2147483648) (hi := 2147483647) rfl (by decide)) ?_
                  intro m17 I18 W19
                  have F20 : Fr l_314 0 0 g μ m17 := F0.w W19 gA0 rfl
                  refine w_t (np := 6) (l2 := [some (eR a0), some (eI (3))]) (s2 := [eR a0]) rfl (s_an rfl (pos_g I18 gA0 (by decide))) rfl ?_
                  refine w_t (np := 7) (l2 := [some (eR a0), some (eI (3))]) (s2 := [eI (3), eR a0]) rfl rfl rfl ?_
                  refine j_pf (np := 10) (w := 3) rfl rfl I18 gA0 (by decide) (n := 69) rfl rfl (hO_i (lo := -2147483648) (hi := 2147483647) rfl (by decide)) ?_
                  intro m21 I22 W23
                  have F24 : Fr l_314 0 0 g μ m21 := F20.w W23 gA0 rfl
                  refine w_t (np := 11) (l2 := [some (eR a0), some (eI (3))]) (s2 := [eI (3)]) rfl rfl rfl ?_
                  refine b_ine (t1 := 18) (t2 := 14) rfl rfl rfl rfl (fun g25 => ?_) (fun g25 => absurd g25 (by decide))
                  refine w_t (np := 19) (l2 := [some (eR a0), some (eI (3))]) (s2 := [eI (0)]) rfl rfl rfl ?_
                  refine b_rz rfl rfl (Or.inl rfl) ?_
                  show ex_q (dt_fg L ρ) rc (d + 8, (314, 67, [some (eR a0), some (eI (a1)), some (eI (a2)), some (eI (a3)), some (eI (a4)), some (eI (a5)), some (eI (a6)), some (eI (a7))], [eI (0)]), f :: F, m21)
                  refine b_ine (t1 := 72) (t2 := 70) rfl rfl rfl rfl (fun g26 => absurd g26 (by decide)) (fun g26 => ?_)
                  refine w_t (np := 71) (l2 := [some (eR a0), some (eI (a1)), some (eI (a2)), some (eI (a3)), some (eI (a4)), some (eI (a5)), some (eI (a6)), some (eI (a7))]) (s2 := [eI (-1)]) rfl rfl rfl ?_
                  exact b_ri rfl rfl (K m21 (-1) I22 F24 (by decide))
def l_317 : List Nat := [13313, 13314, 13362, 20224]
theorem s_317 {L : Nat} {ρ : Nat → Int} {rc : eQ} {d : Nat} {f : eFr} {F : List eFr} {μ : eM} {g : Nat → Nat} {a0 : Nat} {a1 : Int} (hI : SI g μ) (gA0 : g a0 = 52) (bA1 : -2147483648 ≤ a1 ∧ a1 ≤ 2147483647) (K : ∀ (μ2 : eM) (v : Int), SI g μ2 → Fr l_317 0 0 g μ μ2 → (-2147483648 ≤ v ∧ v ≤ 2147483647) → ex_q (dt_fg L ρ) rc (d + 3, (f.1, f.2.1, f.2.2.1, eI v :: f.2.2.2), F, μ2)) : ex_q (dt_fg L ρ) rc (d + 2, (317, 0, [some (eR a0), some (eI (a1)), none], []), f :: F, μ) := by
  have F0 : Fr l_317 0 0 g μ μ := Fr.r
  refine w_t (np := 1) (l2 := [some (eR a0), some (eI (a1)), none]) (s2 := [eR a0]) rfl (s_an rfl (pos_g hI gA0 (by decide))) rfl ?_
  refine w_t (np := 2) (l2 := [some (eR a0), some (eI (a1)), none]) (s2 := [eR a0, eR a0]) rfl (s_an rfl (pos_g hI gA0 (by decide))) rfl ?_
  refine w_t (np := 3) (l2 := [some (eR a0), some (eI (a1)), none]) (s2 := [eI (a1), eR a0, eR a0]) rfl rfl rfl ?_
  refine w_cw (np := 6) (as := [eI (a1)]) (l2 := [some (eR a0), some (eI (a1))]) (rest := [eR a0]) rfl rfl rfl (Nat.ble_eq.mp rfl) rfl rfl rfl (hI.kd gA0 (by decide) (n := 69) rfl) rfl ?_
  refine w_t (np := 1) (l2 := [some (eR a0), some (eI (a1))]) (s2 := [eI (a1)]) rfl rfl rfl ?_
  refine w_t (np := 2) (l2 := [some (eR a0), some (eI (a1))]) (s2 := [eI (0), eI (a1)]) rfl rfl rfl ?_
  refine w_t (np := 3) (l2 := [some (eR a0), some (eI (a1))]) (s2 := [eR a0, eI (0), eI (a1)]) rfl (s_an rfl (pos_g hI gA0 (by decide))) rfl ?_
  refine j_gi (np := 6) rfl rfl rfl hI gA0 (by decide) (n := 69) rfl rfl (lo := 0) (hi := 24) rfl ?_
  intro v1 e2 b3
  refine w_t (np := 7) (l2 := [some (eR a0), some (eI (a1))]) (s2 := [eI (1), eI (v1), eI (0), eI (a1)]) rfl rfl rfl ?_
  obtain ⟨v4, e5⟩ : ∃ zz : Int, zz = (v1) - (1) := ⟨_, rfl⟩
  have b6 : -1 ≤ v4 ∧ v4 ≤ 23 := by omega
  refine w_t (np := 8) (l2 := [some (eR a0), some (eI (a1))]) (s2 := [eI (v4), eI (0), eI (a1)]) rfl (b_isub (by rw [← e5]; exact ev_w_in (by omega) (by omega))) rfl ?_
  refine w_cu (np := 11) (as := [eI (a1), eI (0), eI (v4)]) (l2 := [some (eI (a1)), some (eI (0)), some (eI (v4))]) (rest := []) rfl rfl rfl (Nat.ble_eq.mp rfl) rfl rfl rfl rfl ?_
  refine w_t (np := 1) (l2 := [some (eI (a1)), some (eI (0)), some (eI (v4))]) (s2 := [eI (a1)]) rfl rfl rfl ?_
  refine w_t (np := 2) (l2 := [some (eI (a1)), some (eI (0)), some (eI (v4))]) (s2 := [eI (0), eI (a1)]) rfl rfl rfl ?_
  refine b_clt (t1 := 14) (t2 := 5) rfl rfl rfl (ev_w_in (by omega) (by omega)) rfl (fun g7 => ?_) (fun g7 => ?_)
  · have b8 : -2147483648 ≤ a1 ∧ a1 ≤ -1 := by omega
    refine w_t (np := 15) (l2 := [some (eI (a1)), some (eI (0)), some (eI (v4))]) (s2 := [eI (0)]) rfl rfl rfl ?_
    refine b_rz rfl rfl (Or.inl rfl) ?_
    show ex_q (dt_fg L ρ) rc (d + 1, (316, 11, [some (eR a0), some (eI (a1))], [eI (0)]), (317, 6, [some (eR a0), some (eI (a1)), none], [eR a0]) :: f :: F, μ)
    refine b_rz rfl rfl (Or.inl rfl) ?_
    show ex_q (dt_fg L ρ) rc (d + 2, (317, 6, [some (eR a0), some (eI (a1)), none], [eI (0), eR a0]), f :: F, μ)
    refine b_ieq (t1 := 13) (t2 := 9) rfl rfl rfl rfl (fun g8 => ?_) (fun g8 => absurd g8 (by decide))
    refine w_t (np := 14) (l2 := [some (eR a0), some (eI (a1)), none]) (s2 := [eI (2), eR a0]) rfl rfl rfl ?_
    refine w_cw (np := 17) (as := [eI (2)]) (l2 := [some (eR a0), some (eI (2))]) (rest := []) rfl rfl rfl (Nat.ble_eq.mp rfl) rfl rfl rfl (hI.kd gA0 (by decide) (n := 69) rfl) rfl ?_
    refine w_t (np := 1) (l2 := [some (eR a0), some (eI (2))]) (s2 := [eR a0]) rfl (s_an rfl (pos_g hI gA0 (by decide))) rfl ?_
    refine w_t (np := 2) (l2 := [some (eR a0), some (eI (2))]) (s2 := [eI (0), eR a0]) rfl rfl rfl ?_
    refine j_pf (np := 5) (w := 0) rfl rfl hI gA0 (by decide) (n := 69) rfl rfl (hO_i (lo := -2147483648) (hi := 2147483647) rfl (by decide)) ?_
    intro m9 I10 W11
    have F12 : Fr l_317 0 0 g μ m9 := F0.w W11 gA0 rfl
    refine w_t (np := 6) (l2 := [some (eR a0), some (eI (2))]) (s2 := [eR a0]) rfl (s_an rfl (pos_g I10 gA0 (by decide))) rfl ?_
    refine w_t (np := 7) (l2 := [some (eR a0), some (eI (2))]) (s2 := [eI (2), eR a0]) rfl rfl rfl ?_
    refine j_pf (np := 10) (w := 2) rfl rfl I10 gA0 (by decide) (n := 69) rfl rfl (hO_i (lo := -2147483648) (hi := 2147483647) rfl (by decide)) ?_
    intro m13 I14 W15
    have F16 : Fr l_317 0 0 g μ m13 := F12.w W15 gA0 rfl
    refine w_t (np := 11) (l2 := [some (eR a0), some (eI (2))]) (s2 := [eI (2)]) rfl rfl rfl ?_
    refine b_ine (t1 := 18) (t2 := 14) rfl rfl rfl rfl (fun g17 => ?_) (fun g17 => absurd g17 (by decide))
    refine w_t (np := 19) (l2 := [some (eR a0), some (eI (2))]) (s2 := [eI (0)]) rfl rfl rfl ?_
    refine b_rz rfl rfl (Or.inl rfl) ?_
    show ex_q (dt_fg L ρ) rc (d + 2, (317, 17, [some (eR a0), some (eI (a1)), none], [eI (0)]), f :: F, m13)
    refine b_ine (t1 := 22) (t2 := 20) rfl rfl rfl rfl (fun g18 => absurd g18 (by decide)) (fun g18 => ?_)
    refine w_t (np := 21) (l2 := [some (eR a0), some (eI (a1)), none]) (s2 := [eI (-1)]) rfl rfl rfl ?_
    exact b_ri rfl rfl (K m13 (-1) I14 F16 (by decide))
  · have b8 : 0 ≤ a1 ∧ a1 ≤ 2147483647 := by omega
    refine w_t (np := 6) (l2 := [some (eI (a1)), some (eI (0)), some (eI (v4))]) (s2 := [eI (a1)]) rfl rfl rfl ?_
    refine w_t (np := 7) (l2 := [some (eI (a1)), some (eI (0)), some (eI (v4))]) (s2 := [eI (v4), eI (a1)]) rfl rfl rfl ?_
    refine b_cgt (t1 := 14) (t2 := 10) rfl rfl rfl (ev_w_in (by omega) (by omega)) (ev_w_in (by omega) (by omega)) (fun g8 => ?_) (fun g8 => ?_)
    · refine w_t (np := 15) (l2 := [some (eI (a1)), some (eI (0)), some (eI (v4))]) (s2 := [eI (0)]) rfl rfl rfl ?_
      refine b_rz rfl rfl (Or.inl rfl) ?_
      show ex_q (dt_fg L ρ) rc (d + 1, (316, 11, [some (eR a0), some (eI (a1))], [eI (0)]), (317, 6, [some (eR a0), some (eI (a1)), none], [eR a0]) :: f :: F, μ)
      refine b_rz rfl rfl (Or.inl rfl) ?_
      show ex_q (dt_fg L ρ) rc (d + 2, (317, 6, [some (eR a0), some (eI (a1)), none], [eI (0), eR a0]), f :: F, μ)
      refine b_ieq (t1 := 13) (t2 := 9) rfl rfl rfl rfl (fun g9 => ?_) (fun g9 => absurd g9 (by decide))
      refine w_t (np := 14) (l2 := [some (eR a0), some (eI (a1)), none]) (s2 := [eI (2), eR a0]) rfl rfl rfl ?_
      refine w_cw (np := 17) (as := [eI (2)]) (l2 := [some (eR a0), some (eI (2))]) (rest := []) rfl rfl rfl (Nat.ble_eq.mp rfl) rfl rfl rfl (hI.kd gA0 (by decide) (n := 69) rfl) rfl ?_
      refine w_t (np := 1) (l2 := [some (eR a0), some (eI (2))]) (s2 := [eR a0]) rfl (s_an rfl (pos_g hI gA0 (by decide))) rfl ?_
      refine w_t (np := 2) (l2 := [some (eR a0), some (eI (2))]) (s2 := [eI (0), eR a0]) rfl rfl rfl ?_
      refine j_pf (np := 5) (w := 0) rfl rfl hI gA0 (by decide) (n := 69) rfl rfl (hO_i (lo := -2147483648) (hi := 2147483647) rfl (by decide)) ?_
      intro m10 I11 W12
      have F13 : Fr l_317 0 0 g μ m10 := F0.w W12 gA0 rfl
      refine w_t (np := 6) (l2 := [some (eR a0), some (eI (2))]) (s2 := [eR a0]) rfl (s_an rfl (pos_g I11 gA0 (by decide))) rfl ?_
      refine w_t (np := 7) (l2 := [some (eR a0), some (eI (2))]) (s2 := [eI (2), eR a0]) rfl rfl rfl ?_
      refine j_pf (np := 10) (w := 2) rfl rfl I11 gA0 (by decide) (n := 69) rfl rfl (hO_i (lo := -2147483648) (hi := 2147483647) rfl (by decide)) ?_
      intro m14 I15 W16
      have F17 : Fr l_317 0 0 g μ m14 := F13.w W16 gA0 rfl
      refine w_t (np := 11) (l2 := [some (eR a0), some (eI (2))]) (s2 := [eI (2)]) rfl rfl rfl ?_
      refine b_ine (t1 := 18) (t2 := 14) rfl rfl rfl rfl (fun g18 => ?_) (fun g18 => absurd g18 (by decide))
      refine w_t (np := 19) (l2 := [some (eR a0), some (eI (2))]) (s2 := [eI (0)]) rfl rfl rfl ?_
      refine b_rz rfl rfl (Or.inl rfl) ?_
      show ex_q (dt_fg L ρ) rc (d + 2, (317, 17, [some (eR a0), some (eI (a1)), none], [eI (0)]), f :: F, m14)
      refine b_ine (t1 := 22) (t2 := 20) rfl rfl rfl rfl (fun g19 => absurd g19 (by decide)) (fun g19 => ?_)
      refine w_t (np := 21) (l2 := [some (eR a0), some (eI (a1)), none]) (s2 := [eI (-1)]) rfl rfl rfl ?_
      exact b_ri rfl rfl (K m14 (-1) I15 F17 (by decide))
    · have b9 : 0 ≤ a1 ∧ a1 ≤ 23 := by omega
      have b10 : 0 ≤ v4 ∧ v4 ≤ 23 := by omega
      refine w_t (np := 11) (l2 := [some (eI (a1)), some (eI (0)), some (eI (v4))]) (s2 := [eI (1)]) rfl rfl rfl ?_
      refine w_go (t1 := 15) rfl rfl ?_
      refine b_rz rfl rfl (Or.inr rfl) ?_
      show ex_q (dt_fg L ρ) rc (d + 1, (316, 11, [some (eR a0), some (eI (a1))], [eI (1)]), (317, 6, [some (eR a0), some (eI (a1)), none], [eR a0]) :: f :: F, μ)
      refine b_rz rfl rfl (Or.inr rfl) ?_
      show ex_q (dt_fg L ρ) rc (d + 2, (317, 6, [some (eR a0), some (eI (a1)), none], [eI (1), eR a0]), f :: F, μ)
      refine b_ieq (t1 := 13) (t2 := 9) rfl rfl rfl rfl (fun g9 => absurd g9 (by decide)) (fun g9 => ?_)
      refine w_t (np := 10) (l2 := [some (eR a0), some (eI (a1)), none]) (s2 := [eI (0), eR a0]) rfl rfl rfl ?_
      refine w_go (t1 := 14) rfl rfl ?_
      refine w_cw (np := 17) (as := [eI (0)]) (l2 := [some (eR a0), some (eI (0))]) (rest := []) rfl rfl rfl (Nat.ble_eq.mp rfl) rfl rfl rfl (hI.kd gA0 (by decide) (n := 69) rfl) rfl ?_
      refine w_t (np := 1) (l2 := [some (eR a0), some (eI (0))]) (s2 := [eR a0]) rfl (s_an rfl (pos_g hI gA0 (by decide))) rfl ?_
      refine w_t (np := 2) (l2 := [some (eR a0), some (eI (0))]) (s2 := [eI (0), eR a0]) rfl rfl rfl ?_
      refine j_pf (np := 5) (w := 0) rfl rfl hI gA0 (by decide) (n := 69) rfl rfl (hO_i (lo := -2147483648) (hi := 2147483647) rfl (by decide)) ?_
      intro m10 I11 W12
      have F13 : Fr l_317 0 0 g μ m10 := F0.w W12 gA0 rfl
      refine w_t (np := 6) (l2 := [some (eR a0), some (eI (0))]) (s2 := [eR a0]) rfl (s_an rfl (pos_g I11 gA0 (by decide))) rfl ?_
      refine w_t (np := 7) (l2 := [some (eR a0), some (eI (0))]) (s2 := [eI (0), eR a0]) rfl rfl rfl ?_
      refine j_pf (np := 10) (w := 0) rfl rfl I11 gA0 (by decide) (n := 69) rfl rfl (hO_i (lo := -2147483648) (hi := 2147483647) rfl (by decide)) ?_
      intro m14 I15 W16
      have F17 : Fr l_317 0 0 g μ m14 := F13.w W16 gA0 rfl
      refine w_t (np := 11) (l2 := [some (eR a0), some (eI (0))]) (s2 := [eI (0)]) rfl rfl rfl ?_
      refine b_ine (t1 := 18) (t2 := 14) rfl rfl rfl rfl (fun g18 => absurd g18 (by decide)) (fun g18 => ?_)
      refine w_t (np := 15) (l2 := [some (eR a0), some (eI (0))]) (s2 := [eI (1)]) rfl rfl rfl ?_
      refine w_go (t1 := 19) rfl rfl ?_
      refine b_rz rfl rfl (Or.inr rfl) ?_
      show ex_q (dt_fg L ρ) rc (d + 2, (317, 17, [some (eR a0), some (eI (a1)), none], [eI (1)]), f :: F, m14)
      refine b_ine (t1 := 22) (t2 := 20) rfl rfl rfl rfl (fun g19 => ?_) (fun g19 => absurd g19 (by decide))
      refine w_t (np := 23) (l2 := [some (eR a0), some (eI (a1)), none]) (s2 := [eR a0]) rfl (s_an rfl (pos_g I15 gA0 (by decide))) rfl ?_
      refine w_t (np := 24) (l2 := [some (eR a0), some (eI (a1)), none]) (s2 := [eR a0, eR a0]) rfl rfl rfl ?_
      refine w_gf (np := 27) (v := eI (v1)) rfl rfl (I15.kd gA0 (by decide) (n := 69) rfl) (by rw [(W16.slot (W12.slot e2 (by decide)) (by decide))]; rfl) ?_
      refine w_t (np := 28) (l2 := [some (eR a0), some (eI (a1)), none]) (s2 := [eI (1), eI (v1), eR a0]) rfl rfl rfl ?_
      obtain ⟨v20, e21⟩ : ∃ zz : Int, zz = (v1) - (1) := ⟨_, rfl⟩
      have b22 : -1 ≤ v20 ∧ v20 ≤ 23 := by omega
      refine w_t (np := 29) (l2 := [some (eR a0), some (eI (a1)), none]) (s2 := [eI (v20), eR a0]) rfl (b_isub (by rw [← e21]; exact ev_w_in (by omega) (by omega))) rfl ?_
      refine j_pf (np := 32) (w := v20) rfl rfl I15 gA0 (by decide) (n := 69) rfl rfl (hO_i (lo := 0) (hi := 24) rfl (by omega)) ?_
      intro m23 I24 W25
      have F26 : Fr l_317 0 0 g μ m23 := F17.w W25 gA0 rfl
      refine w_t (np := 34) (l2 := [some (eR a0), some (eI (a1)), none]) (s2 := [eI (7)]) rfl rfl rfl ?_
      refine w_t (np := 35) (l2 := [some (eR a0), some (eI (a1)), none]) (s2 := [eI (a1), eI (7)]) rfl rfl rfl ?_
      obtain ⟨v27, e28⟩ : ∃ zz : Int, zz = (7) * (a1) := ⟨_, rfl⟩
      have b29 : 0 ≤ v27 ∧ v27 ≤ 161 := by omega
      refine w_t (np := 36) (l2 := [some (eR a0), some (eI (a1)), none]) (s2 := [eI (v27)]) rfl (b_imul (by rw [← e28]; exact ev_w_in (by omega) (by omega))) rfl ?_
      refine w_t (np := 37) (l2 := [some (eR a0), some (eI (a1)), some (eI (v27))]) (s2 := []) rfl rfl rfl ?_
      have hL37 : ∀ (n30 : Nat) (m34 : eM) (i32 : Int), SI g m34 → Fr l_317 0 0 g μ m34 → (0 ≤ i32 ∧ i32 ≤ 168) → m34.1 a0 1 = 0 → m34.1 a0 0 = 0 → m34.1 a0 49 = v20 → n30 = (168 - i32).toNat → ex_q (dt_fg L ρ) rc (d + 2, (317, 37, [some (eR a0), some (eI (a1)), some (eI (i32))], []), f :: F, m34) := by
        intro n30
        induction n30 using Nat.strongRecOn with
        | _ n30 ih31 =>
        intro m34 i32 I35 F36 b33 k37 k38 k39 hn40
        refine w_t (np := 38) (l2 := [some (eR a0), some (eI (a1)), some (eI (i32))]) (s2 := [eI (i32)]) rfl rfl rfl ?_
        refine w_t (np := 40) (l2 := [some (eR a0), some (eI (a1)), some (eI (i32))]) (s2 := [eI (7), eI (i32)]) rfl rfl rfl ?_
        refine w_t (np := 41) (l2 := [some (eR a0), some (eI (a1)), some (eI (i32))]) (s2 := [eR a0, eI (7), eI (i32)]) rfl (s_an rfl (pos_g I35 gA0 (by decide))) rfl ?_
        refine w_gf (np := 44) (v := eI (v20)) rfl rfl (I35.kd gA0 (by decide) (n := 69) rfl) (by rw [k39]; rfl) ?_
        obtain ⟨v41, e42⟩ : ∃ zz : Int, zz = (7) * (v20) := ⟨_, rfl⟩
        have b43 : -7 ≤ v41 ∧ v41 ≤ 161 := by omega
        refine w_t (np := 45) (l2 := [some (eR a0), some (eI (a1)), some (eI (i32))]) (s2 := [eI (v41), eI (i32)]) rfl (b_imul (by rw [← e42]; exact ev_w_in (by omega) (by omega))) rfl ?_
        refine b_cge (t1 := 69) (t2 := 48) rfl rfl rfl (ev_w_in (by omega) (by omega)) (ev_w_in (by omega) (by omega)) (fun g44 => ?_) (fun g44 => ?_)
        · refine w_t (np := 70) (l2 := [some (eR a0), some (eI (a1)), some (eI (i32))]) (s2 := [eR a0]) rfl (s_an rfl (pos_g I35 gA0 (by decide))) rfl ?_
          refine w_gf (np := 73) (v := eI (v20)) rfl rfl (I35.kd gA0 (by decide) (n := 69) rfl) (by rw [k39]; rfl) ?_
          exact b_ri rfl rfl (K m34 (v20) I35 F36 (by omega))
        · have b45 : 0 ≤ i32 ∧ i32 ≤ 160 := by omega
          have b46 : 1 ≤ v41 ∧ v41 ≤ 161 := by omega
          refine w_t (np := 49) (l2 := [some (eR a0), some (eI (a1)), some (eI (i32))]) (s2 := [eR a0]) rfl (s_an rfl (pos_g I35 gA0 (by decide))) rfl ?_
          refine j_gr (np := 52) rfl rfl I35 gA0 (by decide) (n := 69) rfl rfl rfl ?_
          intro v45 e46 b47 z48
          have b47 : g v45 = 79 := Nat.eq_of_beq_eq_true b47
          refine w_t (np := 53) (l2 := [some (eR a0), some (eI (a1)), some (eI (i32))]) (s2 := [eI (i32), eR v45]) rfl rfl rfl ?_
          refine w_t (np := 54) (l2 := [some (eR a0), some (eI (a1)), some (eI (i32))]) (s2 := [eR a0, eI (i32), eR v45]) rfl (s_an rfl (pos_g I35 gA0 (by decide))) rfl ?_
          refine w_gf (np := 57) (v := eR v45) rfl rfl (I35.kd gA0 (by decide) (n := 69) rfl) (by rw [e46]; rfl) ?_
          refine w_t (np := 58) (l2 := [some (eR a0), some (eI (a1)), some (eI (i32))]) (s2 := [eI (i32), eR v45, eI (i32), eR v45]) rfl rfl rfl ?_
          refine w_t (np := 60) (l2 := [some (eR a0), some (eI (a1)), some (eI (i32))]) (s2 := [eI (7), eI (i32), eR v45, eI (i32), eR v45]) rfl rfl rfl ?_
          obtain ⟨v49, e50⟩ : ∃ zz : Int, zz = (i32) + (7) := ⟨_, rfl⟩
          have b51 : 7 ≤ v49 ∧ v49 ≤ 167 := by omega
          refine w_t (np := 61) (l2 := [some (eR a0), some (eI (a1)), some (eI (i32))]) (s2 := [eI (v49), eR v45, eI (i32), eR v45]) rfl (b_iadd (by rw [← e50]; exact ev_w_in (by omega) (by omega))) rfl ?_
          refine j_al (np := 62) rfl rfl I35 b47 (by decide) (n := 168) rfl rfl (lo := -2147483648) (hi := 2147483647) (fun _ => rfl) (by omega) (by omega) ?_
          intro v52 e53 b54
          refine j_as (np := 63) rfl rfl I35 b47 (by decide) (n := 168) rfl rfl (lo := -2147483648) (hi := 2147483647) (fun _ => rfl) (by omega) (by omega) (by omega) ?_
          intro m55 I56 W57
          have F58 : Fr l_317 0 0 g μ m55 := F36.v W57 b47 rfl rfl
          obtain ⟨v59, e60⟩ : ∃ zz : Int, zz = (i32) + (1) := ⟨_, rfl⟩
          have b61 : 1 ≤ v59 ∧ v59 ≤ 161 := by omega
          refine w_t (np := 66) (l2 := [some (eR a0), some (eI (a1)), some (eI (v59))]) (s2 := []) rfl (b_iinc rfl (by rw [← e60]; exact ev_w_in (by omega) (by omega)) rfl) rfl ?_
          refine w_go (t1 := 37) rfl rfl ?_
          exact ih31 (168 - (v59)).toNat (by omega) m55 (v59) I56 F58 (by omega) (W57.addr k37 b47 gA0 (by decide)) (W57.addr k38 b47 gA0 (by decide)) (W57.addr k39 b47 gA0 (by decide))    rfl
      exact hL37 _ m23 (v27) I24 F26 (by omega) (W25.slot (W16.slot W12.at (by decide)) (by decide)) (W25.slot W16.at (by decide)) W25.at    rfl
def l_318 : List Nat := [13313, 13314, 13362]
theorem s_318 {L : Nat} {ρ : Nat → Int} {rc : eQ} {d : Nat} {f : eFr} {F : List eFr} {μ : eM} {g : Nat → Nat} {a0 : Nat} (hI : SI g μ) (gA0 : g a0 = 52) (K : ∀ (μ2 : eM) (v : Int), SI g μ2 → Fr l_318 0 0 g μ μ2 → (-2147483648 ≤ v ∧ v ≤ 2147483647) → ex_q (dt_fg L ρ) rc (d + 2, (f.1, f.2.1, f.2.2.1, eI v :: f.2.2.2), F, μ2)) : ex_q (dt_fg L ρ) rc (d + 1, (318, 0, [some (eR a0), none], []), f :: F, μ) := by
  have F0 : Fr l_318 0 0 g μ μ := Fr.r
  refine w_t (np := 1) (l2 := [some (eR a0), none]) (s2 := [eR a0]) rfl (s_an rfl (pos_g hI gA0 (by decide))) rfl ?_
  refine w_t (np := 2) (l2 := [some (eR a0), none]) (s2 := [eI (0), eR a0]) rfl rfl rfl ?_
  refine w_cw (np := 5) (as := [eI (0)]) (l2 := [some (eR a0), some (eI (0))]) (rest := []) rfl rfl rfl (Nat.ble_eq.mp rfl) rfl rfl rfl (hI.kd gA0 (by decide) (n := 69) rfl) rfl ?_
  refine w_t (np := 1) (l2 := [some (eR a0), some (eI (0))]) (s2 := [eR a0]) rfl (s_an rfl (pos_g hI gA0 (by decide))) rfl ?_
  refine w_t (np := 2) (l2 := [some (eR a0), some (eI (0))]) (s2 := [eI (0), eR a0]) rfl rfl rfl ?_
  refine j_pf (np := 5) (w := 0) rfl rfl hI gA0 (by decide) (n := 69) rfl rfl (hO_i (lo := -2147483648) (hi := 2147483647) rfl (by decide)) ?_
  intro m1 I2 W3
  have F4 : Fr l_318 0 0 g μ m1 := F0.w W3 gA0 rfl
  refine w_t (np := 6) (l2 := [some (eR a0), some (eI (0))]) (s2 := [eR a0]) rfl (s_an rfl (pos_g I2 gA0 (by decide))) rfl ?_
  refine w_t (np := 7) (l2 := [some (eR a0), some (eI (0))]) (s2 := [eI (0), eR a0]) rfl rfl rfl ?_
  refine j_pf (np := 10) (w := 0) rfl rfl I2 gA0 (by decide) (n := 69) rfl rfl (hO_i (lo := -2147483648) (hi := 2147483647) rfl (by decide)) ?_
  intro m5 I6 W7
  have F8 : Fr l_318 0 0 g μ m5 := F4.w W7 gA0 rfl
  refine w_t (np := 11) (l2 := [some (eR a0), some (eI (0))]) (s2 := [eI (0)]) rfl rfl rfl ?_
  refine b_ine (t1 := 18) (t2 := 14) rfl rfl rfl rfl (fun g9 => absurd g9 (by decide)) (fun g9 => ?_)
  refine w_t (np := 15) (l2 := [some (eR a0), some (eI (0))]) (s2 := [eI (1)]) rfl rfl rfl ?_
  refine w_go (t1 := 19) rfl rfl ?_
  refine b_rz rfl rfl (Or.inr rfl) ?_
  show ex_q (dt_fg L ρ) rc (d + 1, (318, 5, [some (eR a0), none], [eI (1)]), f :: F, m5)
  refine w_t (np := 6) (l2 := [some (eR a0), none]) (s2 := []) rfl rfl rfl ?_
  refine w_t (np := 7) (l2 := [some (eR a0), none]) (s2 := [eR a0]) rfl (s_an rfl (pos_g I6 gA0 (by decide))) rfl ?_
  refine j_gi (np := 10) rfl rfl rfl I6 gA0 (by decide) (n := 69) rfl rfl (lo := 0) (hi := 24) rfl ?_
  intro v10 e11 b12
  refine w_t (np := 11) (l2 := [some (eR a0), some (eI (v10))]) (s2 := []) rfl rfl rfl ?_
  refine w_t (np := 12) (l2 := [some (eR a0), some (eI (v10))]) (s2 := [eR a0]) rfl (s_an rfl (pos_g I6 gA0 (by decide))) rfl ?_
  refine w_t (np := 13) (l2 := [some (eR a0), some (eI (v10))]) (s2 := [eI (0), eR a0]) rfl rfl rfl ?_
  refine j_pf (np := 16) (w := 0) rfl rfl I6 gA0 (by decide) (n := 69) rfl rfl (hO_i (lo := 0) (hi := 24) rfl (by decide)) ?_
  intro m13 I14 W15
  have F16 : Fr l_318 0 0 g μ m13 := F8.w W15 gA0 rfl
  refine w_t (np := 17) (l2 := [some (eR a0), some (eI (v10))]) (s2 := [eI (v10)]) rfl rfl rfl ?_
  exact b_ri rfl rfl (K m13 (v10) I14 F16 (by omega))
def l_319 : List Nat := [13313, 13314]
theorem s_319 {L : Nat} {ρ : Nat → Int} {rc : eQ} {d : Nat} {f : eFr} {F : List eFr} {μ : eM} {g : Nat → Nat} {a0 : Nat} {a1 : Int} {a2 : Int} (hI : SI g μ) (gA0 : g a0 = 52) (bA1 : -2147483648 ≤ a1 ∧ a1 ≤ 2147483647) (bA2 : -2147483648 ≤ a2 ∧ a2 ≤ 2147483647) (K : ∀ (μ2 : eM) (v : Int), SI g μ2 → Fr l_319 0 0 g μ μ2 → (-2147483648 ≤ v ∧ v ≤ 2147483647) → ex_q (dt_fg L ρ) rc (d + 3, (f.1, f.2.1, f.2.2.1, eI v :: f.2.2.2), F, μ2)) : ex_q (dt_fg L ρ) rc (d + 2, (319, 0, [some (eR a0), some (eI (a1)), some (eI (a2))], []), f :: F, μ) := by
  have F0 : Fr l_319 0 0 g μ μ := Fr.r
  refine w_t (np := 1) (l2 := [some (eR a0), some (eI (a1)), some (eI (a2))]) (s2 := [eR a0]) rfl (s_an rfl (pos_g hI gA0 (by decide))) rfl ?_
  refine w_t (np := 2) (l2 := [some (eR a0), some (eI (a1)), some (eI (a2))]) (s2 := [eI (a2), eR a0]) rfl rfl rfl ?_
  refine w_t (np := 3) (l2 := [some (eR a0), some (eI (a1)), some (eI (a2))]) (s2 := [eI (0), eI (a2), eR a0]) rfl rfl rfl ?_
  refine w_t (np := 4) (l2 := [some (eR a0), some (eI (a1)), some (eI (a2))]) (s2 := [eI (2), eI (0), eI (a2), eR a0]) rfl rfl rfl ?_
  refine w_cu (np := 7) (as := [eI (a2), eI (0), eI (2)]) (l2 := [some (eI (a2)), some (eI (0)), some (eI (2))]) (rest := [eR a0]) rfl rfl rfl (Nat.ble_eq.mp rfl) rfl rfl rfl rfl ?_
  refine w_t (np := 1) (l2 := [some (eI (a2)), some (eI (0)), some (eI (2))]) (s2 := [eI (a2)]) rfl rfl rfl ?_
  refine w_t (np := 2) (l2 := [some (eI (a2)), some (eI (0)), some (eI (2))]) (s2 := [eI (0), eI (a2)]) rfl rfl rfl ?_
  refine b_clt (t1 := 14) (t2 := 5) rfl rfl rfl (ev_w_in (by omega) (by omega)) rfl (fun g1 => ?_) (fun g1 => ?_)
  · have b2 : -2147483648 ≤ a2 ∧ a2 ≤ -1 := by omega
    refine w_t (np := 15) (l2 := [some (eI (a2)), some (eI (0)), some (eI (2))]) (s2 := [eI (0)]) rfl rfl rfl ?_
    refine b_rz rfl rfl (Or.inl rfl) ?_
    show ex_q (dt_fg L ρ) rc (d + 2, (319, 7, [some (eR a0), some (eI (a1)), some (eI (a2))], [eI (0), eR a0]), f :: F, μ)
    refine b_ine (t1 := 14) (t2 := 10) rfl rfl rfl rfl (fun g2 => absurd g2 (by decide)) (fun g2 => ?_)
    refine w_t (np := 11) (l2 := [some (eR a0), some (eI (a1)), some (eI (a2))]) (s2 := [eI (1), eR a0]) rfl rfl rfl ?_
    refine w_go (t1 := 27) rfl rfl ?_
    refine w_cw (np := 30) (as := [eI (1)]) (l2 := [some (eR a0), some (eI (1))]) (rest := []) rfl rfl rfl (Nat.ble_eq.mp rfl) rfl rfl rfl (hI.kd gA0 (by decide) (n := 69) rfl) rfl ?_
    refine w_t (np := 1) (l2 := [some (eR a0), some (eI (1))]) (s2 := [eR a0]) rfl (s_an rfl (pos_g hI gA0 (by decide))) rfl ?_
    refine w_t (np := 2) (l2 := [some (eR a0), some (eI (1))]) (s2 := [eI (0), eR a0]) rfl rfl rfl ?_
    refine j_pf (np := 5) (w := 0) rfl rfl hI gA0 (by decide) (n := 69) rfl rfl (hO_i (lo := -2147483648) (hi := 2147483647) rfl (by decide)) ?_
    intro m3 I4 W5
    have F6 : Fr l_319 0 0 g μ m3 := F0.w W5 gA0 rfl
    refine w_t (np := 6) (l2 := [some (eR a0), some (eI (1))]) (s2 := [eR a0]) rfl (s_an rfl (pos_g I4 gA0 (by decide))) rfl ?_
    refine w_t (np := 7) (l2 := [some (eR a0), some (eI (1))]) (s2 := [eI (1), eR a0]) rfl rfl rfl ?_
    refine j_pf (np := 10) (w := 1) rfl rfl I4 gA0 (by decide) (n := 69) rfl rfl (hO_i (lo := -2147483648) (hi := 2147483647) rfl (by decide)) ?_
    intro m7 I8 W9
    have F10 : Fr l_319 0 0 g μ m7 := F6.w W9 gA0 rfl
    refine w_t (np := 11) (l2 := [some (eR a0), some (eI (1))]) (s2 := [eI (1)]) rfl rfl rfl ?_
    refine b_ine (t1 := 18) (t2 := 14) rfl rfl rfl rfl (fun g11 => ?_) (fun g11 => absurd g11 (by decide))
    refine w_t (np := 19) (l2 := [some (eR a0), some (eI (1))]) (s2 := [eI (0)]) rfl rfl rfl ?_
    refine b_rz rfl rfl (Or.inl rfl) ?_
    show ex_q (dt_fg L ρ) rc (d + 2, (319, 30, [some (eR a0), some (eI (a1)), some (eI (a2))], [eI (0)]), f :: F, m7)
    refine b_ine (t1 := 35) (t2 := 33) rfl rfl rfl rfl (fun g12 => absurd g12 (by decide)) (fun g12 => ?_)
    refine w_t (np := 34) (l2 := [some (eR a0), some (eI (a1)), some (eI (a2))]) (s2 := [eI (-1)]) rfl rfl rfl ?_
    exact b_ri rfl rfl (K m7 (-1) I8 F10 (by decide))
  · have b2 : 0 ≤ a2 ∧ a2 ≤ 2147483647 := by omega
    refine w_t (np := 6) (l2 := [some (eI (a2)), some (eI (0)), some (eI (2))]) (s2 := [eI (a2)]) rfl rfl rfl ?_
    refine w_t (np := 7) (l2 := [some (eI (a2)), some (eI (0)), some (eI (2))]) (s2 := [eI (2), eI (a2)]) rfl rfl rfl ?_
    refine b_cgt (t1 := 14) (t2 := 10) rfl rfl rfl (ev_w_in (by omega) (by omega)) rfl (fun g2 => ?_) (fun g2 => ?_)
    · have b3 : 3 ≤ a2 ∧ a2 ≤ 2147483647 := by omega
      refine w_t (np := 15) (l2 := [some (eI (a2)), some (eI (0)), some (eI (2))]) (s2 := [eI (0)]) rfl rfl rfl ?_
      refine b_rz rfl rfl (Or.inl rfl) ?_
      show ex_q (dt_fg L ρ) rc (d + 2, (319, 7, [some (eR a0), some (eI (a1)), some (eI (a2))], [eI (0), eR a0]), f :: F, μ)
      refine b_ine (t1 := 14) (t2 := 10) rfl rfl rfl rfl (fun g3 => absurd g3 (by decide)) (fun g3 => ?_)
      refine w_t (np := 11) (l2 := [some (eR a0), some (eI (a1)), some (eI (a2))]) (s2 := [eI (1), eR a0]) rfl rfl rfl ?_
      refine w_go (t1 := 27) rfl rfl ?_
      refine w_cw (np := 30) (as := [eI (1)]) (l2 := [some (eR a0), some (eI (1))]) (rest := []) rfl rfl rfl (Nat.ble_eq.mp rfl) rfl rfl rfl (hI.kd gA0 (by decide) (n := 69) rfl) rfl ?_
      refine w_t (np := 1) (l2 := [some (eR a0), some (eI (1))]) (s2 := [eR a0]) rfl (s_an rfl (pos_g hI gA0 (by decide))) rfl ?_
      refine w_t (np := 2) (l2 := [some (eR a0), some (eI (1))]) (s2 := [eI (0), eR a0]) rfl rfl rfl ?_
      refine j_pf (np := 5) (w := 0) rfl rfl hI gA0 (by decide) (n := 69) rfl rfl (hO_i (lo := -2147483648) (hi := 2147483647) rfl (by decide)) ?_
      intro m4 I5 W6
      have F7 : Fr l_319 0 0 g μ m4 := F0.w W6 gA0 rfl
      refine w_t (np := 6) (l2 := [some (eR a0), some (eI (1))]) (s2 := [eR a0]) rfl (s_an rfl (pos_g I5 gA0 (by decide))) rfl ?_
      refine w_t (np := 7) (l2 := [some (eR a0), some (eI (1))]) (s2 := [eI (1), eR a0]) rfl rfl rfl ?_
      refine j_pf (np := 10) (w := 1) rfl rfl I5 gA0 (by decide) (n := 69) rfl rfl (hO_i (lo := -2147483648) (hi := 2147483647) rfl (by decide)) ?_
      intro m8 I9 W10
      have F11 : Fr l_319 0 0 g μ m8 := F7.w W10 gA0 rfl
      refine w_t (np := 11) (l2 := [some (eR a0), some (eI (1))]) (s2 := [eI (1)]) rfl rfl rfl ?_
      refine b_ine (t1 := 18) (t2 := 14) rfl rfl rfl rfl (fun g12 => ?_) (fun g12 => absurd g12 (by decide))
      refine w_t (np := 19) (l2 := [some (eR a0), some (eI (1))]) (s2 := [eI (0)]) rfl rfl rfl ?_
      refine b_rz rfl rfl (Or.inl rfl) ?_
      show ex_q (dt_fg L ρ) rc (d + 2, (319, 30, [some (eR a0), some (eI (a1)), some (eI (a2))], [eI (0)]), f :: F, m8)
      refine b_ine (t1 := 35) (t2 := 33) rfl rfl rfl rfl (fun g13 => absurd g13 (by decide)) (fun g13 => ?_)
      refine w_t (np := 34) (l2 := [some (eR a0), some (eI (a1)), some (eI (a2))]) (s2 := [eI (-1)]) rfl rfl rfl ?_
      exact b_ri rfl rfl (K m8 (-1) I9 F11 (by decide))
    · have b3 : 0 ≤ a2 ∧ a2 ≤ 2 := by omega
      refine w_t (np := 11) (l2 := [some (eI (a2)), some (eI (0)), some (eI (2))]) (s2 := [eI (1)]) rfl rfl rfl ?_
      refine w_go (t1 := 15) rfl rfl ?_
      refine b_rz rfl rfl (Or.inr rfl) ?_
      show ex_q (dt_fg L ρ) rc (d + 2, (319, 7, [some (eR a0), some (eI (a1)), some (eI (a2))], [eI (1), eR a0]), f :: F, μ)
      refine b_ine (t1 := 14) (t2 := 10) rfl rfl rfl rfl (fun g3 => ?_) (fun g3 => absurd g3 (by decide))
      refine w_t (np := 15) (l2 := [some (eR a0), some (eI (a1)), some (eI (a2))]) (s2 := [eR a0, eR a0]) rfl (s_an rfl (pos_g hI gA0 (by decide))) rfl ?_
      refine w_t (np := 16) (l2 := [some (eR a0), some (eI (a1)), some (eI (a2))]) (s2 := [eI (a1), eR a0, eR a0]) rfl rfl rfl ?_
      refine w_cw (np := 19) (as := [eI (a1)]) (l2 := [some (eR a0), some (eI (a1))]) (rest := [eR a0]) rfl rfl rfl (Nat.ble_eq.mp rfl) rfl rfl rfl (hI.kd gA0 (by decide) (n := 69) rfl) rfl ?_
      refine w_t (np := 1) (l2 := [some (eR a0), some (eI (a1))]) (s2 := [eI (a1)]) rfl rfl rfl ?_
      refine w_t (np := 2) (l2 := [some (eR a0), some (eI (a1))]) (s2 := [eI (0), eI (a1)]) rfl rfl rfl ?_
      refine w_t (np := 3) (l2 := [some (eR a0), some (eI (a1))]) (s2 := [eR a0, eI (0), eI (a1)]) rfl (s_an rfl (pos_g hI gA0 (by decide))) rfl ?_
      refine j_gi (np := 6) rfl rfl rfl hI gA0 (by decide) (n := 69) rfl rfl (lo := 0) (hi := 24) rfl ?_
      intro v4 e5 b6
      refine w_t (np := 7) (l2 := [some (eR a0), some (eI (a1))]) (s2 := [eI (1), eI (v4), eI (0), eI (a1)]) rfl rfl rfl ?_
      obtain ⟨v7, e8⟩ : ∃ zz : Int, zz = (v4) - (1) := ⟨_, rfl⟩
      have b9 : -1 ≤ v7 ∧ v7 ≤ 23 := by omega
      refine w_t (np := 8) (l2 := [some (eR a0), some (eI (a1))]) (s2 := [eI (v7), eI (0), eI (a1)]) rfl (b_isub (by rw [← e8]; exact ev_w_in (by omega) (by omega))) rfl ?_
      refine w_cu (np := 11) (as := [eI (a1), eI (0), eI (v7)]) (l2 := [some (eI (a1)), some (eI (0)), some (eI (v7))]) (rest := []) rfl rfl rfl (Nat.ble_eq.mp rfl) rfl rfl rfl rfl ?_
      refine w_t (np := 1) (l2 := [some (eI (a1)), some (eI (0)), some (eI (v7))]) (s2 := [eI (a1)]) rfl rfl rfl ?_
      refine w_t (np := 2) (l2 := [some (eI (a1)), some (eI (0)), some (eI (v7))]) (s2 := [eI (0), eI (a1)]) rfl rfl rfl ?_
      refine b_clt (t1 := 14) (t2 := 5) rfl rfl rfl (ev_w_in (by omega) (by omega)) rfl (fun g10 => ?_) (fun g10 => ?_)
      · have b11 : -2147483648 ≤ a1 ∧ a1 ≤ -1 := by omega
        refine w_t (np := 15) (l2 := [some (eI (a1)), some (eI (0)), some (eI (v7))]) (s2 := [eI (0)]) rfl rfl rfl ?_
        refine b_rz rfl rfl (Or.inl rfl) ?_
        show ex_q (dt_fg L ρ) rc (d + 1, (316, 11, [some (eR a0), some (eI (a1))], [eI (0)]), (319, 19, [some (eR a0), some (eI (a1)), some (eI (a2))], [eR a0]) :: f :: F, μ)
        refine b_rz rfl rfl (Or.inl rfl) ?_
        show ex_q (dt_fg L ρ) rc (d + 2, (319, 19, [some (eR a0), some (eI (a1)), some (eI (a2))], [eI (0), eR a0]), f :: F, μ)
        refine b_ieq (t1 := 26) (t2 := 22) rfl rfl rfl rfl (fun g11 => ?_) (fun g11 => absurd g11 (by decide))
        refine w_t (np := 27) (l2 := [some (eR a0), some (eI (a1)), some (eI (a2))]) (s2 := [eI (2), eR a0]) rfl rfl rfl ?_
        refine w_cw (np := 30) (as := [eI (2)]) (l2 := [some (eR a0), some (eI (2))]) (rest := []) rfl rfl rfl (Nat.ble_eq.mp rfl) rfl rfl rfl (hI.kd gA0 (by decide) (n := 69) rfl) rfl ?_
        refine w_t (np := 1) (l2 := [some (eR a0), some (eI (2))]) (s2 := [eR a0]) rfl (s_an rfl (pos_g hI gA0 (by decide))) rfl ?_
        refine w_t (np := 2) (l2 := [some (eR a0), some (eI (2))]) (s2 := [eI (0), eR a0]) rfl rfl rfl ?_
        refine j_pf (np := 5) (w := 0) rfl rfl hI gA0 (by decide) (n := 69) rfl rfl (hO_i (lo := -2147483648) (hi := 2147483647) rfl (by decide)) ?_
        intro m12 I13 W14
        have F15 : Fr l_319 0 0 g μ m12 := F0.w W14 gA0 rfl
        refine w_t (np := 6) (l2 := [some (eR a0), some (eI (2))]) (s2 := [eR a0]) rfl (s_an rfl (pos_g I13 gA0 (by decide))) rfl ?_
        refine w_t (np := 7) (l2 := [some (eR a0), some (eI (2))]) (s2 := [eI (2), eR a0]) rfl rfl rfl ?_
        refine j_pf (np := 10) (w := 2) rfl rfl I13 gA0 (by decide) (n := 69) rfl rfl (hO_i (lo := -2147483648) (hi := 2147483647) rfl (by decide)) ?_
        intro m16 I17 W18
        have F19 : Fr l_319 0 0 g μ m16 := F15.w W18 gA0 rfl
        refine w_t (np := 11) (l2 := [some (eR a0), some (eI (2))]) (s2 := [eI (2)]) rfl rfl rfl ?_
        refine b_ine (t1 := 18) (t2 := 14) rfl rfl rfl rfl (fun g20 => ?_) (fun g20 => absurd g20 (by decide))
        refine w_t (np := 19) (l2 := [some (eR a0), some (eI (2))]) (s2 := [eI (0)]) rfl rfl rfl ?_
        refine b_rz rfl rfl (Or.inl rfl) ?_
        show ex_q (dt_fg L ρ) rc (d + 2, (319, 30, [some (eR a0), some (eI (a1)), some (eI (a2))], [eI (0)]), f :: F, m16)
        refine b_ine (t1 := 35) (t2 := 33) rfl rfl rfl rfl (fun g21 => absurd g21 (by decide)) (fun g21 => ?_)
        refine w_t (np := 34) (l2 := [some (eR a0), some (eI (a1)), some (eI (a2))]) (s2 := [eI (-1)]) rfl rfl rfl ?_
        exact b_ri rfl rfl (K m16 (-1) I17 F19 (by decide))
      · have b11 : 0 ≤ a1 ∧ a1 ≤ 2147483647 := by omega
        refine w_t (np := 6) (l2 := [some (eI (a1)), some (eI (0)), some (eI (v7))]) (s2 := [eI (a1)]) rfl rfl rfl ?_
        refine w_t (np := 7) (l2 := [some (eI (a1)), some (eI (0)), some (eI (v7))]) (s2 := [eI (v7), eI (a1)]) rfl rfl rfl ?_
        refine b_cgt (t1 := 14) (t2 := 10) rfl rfl rfl (ev_w_in (by omega) (by omega)) (ev_w_in (by omega) (by omega)) (fun g11 => ?_) (fun g11 => ?_)
        · refine w_t (np := 15) (l2 := [some (eI (a1)), some (eI (0)), some (eI (v7))]) (s2 := [eI (0)]) rfl rfl rfl ?_
          refine b_rz rfl rfl (Or.inl rfl) ?_
          show ex_q (dt_fg L ρ) rc (d + 1, (316, 11, [some (eR a0), some (eI (a1))], [eI (0)]), (319, 19, [some (eR a0), some (eI (a1)), some (eI (a2))], [eR a0]) :: f :: F, μ)
          refine b_rz rfl rfl (Or.inl rfl) ?_
          show ex_q (dt_fg L ρ) rc (d + 2, (319, 19, [some (eR a0), some (eI (a1)), some (eI (a2))], [eI (0), eR a0]), f :: F, μ)
          refine b_ieq (t1 := 26) (t2 := 22) rfl rfl rfl rfl (fun g12 => ?_) (fun g12 => absurd g12 (by decide))
          refine w_t (np := 27) (l2 := [some (eR a0), some (eI (a1)), some (eI (a2))]) (s2 := [eI (2), eR a0]) rfl rfl rfl ?_
          refine w_cw (np := 30) (as := [eI (2)]) (l2 := [some (eR a0), some (eI (2))]) (rest := []) rfl rfl rfl (Nat.ble_eq.mp rfl) rfl rfl rfl (hI.kd gA0 (by decide) (n := 69) rfl) rfl ?_
          refine w_t (np := 1) (l2 := [some (eR a0), some (eI (2))]) (s2 := [eR a0]) rfl (s_an rfl (pos_g hI gA0 (by decide))) rfl ?_
          refine w_t (np := 2) (l2 := [some (eR a0), some (eI (2))]) (s2 := [eI (0), eR a0]) rfl rfl rfl ?_
          refine j_pf (np := 5) (w := 0) rfl rfl hI gA0 (by decide) (n := 69) rfl rfl (hO_i (lo := -2147483648) (hi := 2147483647) rfl (by decide)) ?_
          intro m13 I14 W15
          have F16 : Fr l_319 0 0 g μ m13 := F0.w W15 gA0 rfl
          refine w_t (np := 6) (l2 := [some (eR a0), some (eI (2))]) (s2 := [eR a0]) rfl (s_an rfl (pos_g I14 gA0 (by decide))) rfl ?_
          refine w_t (np := 7) (l2 := [some (eR a0), some (eI (2))]) (s2 := [eI (2), eR a0]) rfl rfl rfl ?_
          refine j_pf (np := 10) (w := 2) rfl rfl I14 gA0 (by decide) (n := 69) rfl rfl (hO_i (lo := -2147483648) (hi := 2147483647) rfl (by decide)) ?_
          intro m17 I18 W19
          have F20 : Fr l_319 0 0 g μ m17 := F16.w W19 gA0 rfl
          refine w_t (np := 11) (l2 := [some (eR a0), some (eI (2))]) (s2 := [eI (2)]) rfl rfl rfl ?_
          refine b_ine (t1 := 18) (t2 := 14) rfl rfl rfl rfl (fun g21 => ?_) (fun g21 => absurd g21 (by decide))
          refine w_t (np := 19) (l2 := [some (eR a0), some (eI (2))]) (s2 := [eI (0)]) rfl rfl rfl ?_
          refine b_rz rfl rfl (Or.inl rfl) ?_
          show ex_q (dt_fg L ρ) rc (d + 2, (319, 30, [some (eR a0), some (eI (a1)), some (eI (a2))], [eI (0)]), f :: F, m17)
          refine b_ine (t1 := 35) (t2 := 33) rfl rfl rfl rfl (fun g22 => absurd g22 (by decide)) (fun g22 => ?_)
          refine w_t (np := 34) (l2 := [some (eR a0), some (eI (a1)), some (eI (a2))]) (s2 := [eI (-1)]) rfl rfl rfl ?_
          exact b_ri rfl rfl (K m17 (-1) I18 F20 (by decide))
        · have b12 : 0 ≤ a1 ∧ a1 ≤ 23 := by omega
          have b13 : 0 ≤ v7 ∧ v7 ≤ 23 := by omega
          refine w_t (np := 11) (l2 := [some (eI (a1)), some (eI (0)), some (eI (v7))]) (s2 := [eI (1)]) rfl rfl rfl ?_
          refine w_go (t1 := 15) rfl rfl ?_
          refine b_rz rfl rfl (Or.inr rfl) ?_
          show ex_q (dt_fg L ρ) rc (d + 1, (316, 11, [some (eR a0), some (eI (a1))], [eI (1)]), (319, 19, [some (eR a0), some (eI (a1)), some (eI (a2))], [eR a0]) :: f :: F, μ)
          refine b_rz rfl rfl (Or.inr rfl) ?_
          show ex_q (dt_fg L ρ) rc (d + 2, (319, 19, [some (eR a0), some (eI (a1)), some (eI (a2))], [eI (1), eR a0]), f :: F, μ)
          refine b_ieq (t1 := 26) (t2 := 22) rfl rfl rfl rfl (fun g12 => absurd g12 (by decide)) (fun g12 => ?_)
          refine w_t (np := 23) (l2 := [some (eR a0), some (eI (a1)), some (eI (a2))]) (s2 := [eI (0), eR a0]) rfl rfl rfl ?_
          refine w_go (t1 := 27) rfl rfl ?_
          refine w_cw (np := 30) (as := [eI (0)]) (l2 := [some (eR a0), some (eI (0))]) (rest := []) rfl rfl rfl (Nat.ble_eq.mp rfl) rfl rfl rfl (hI.kd gA0 (by decide) (n := 69) rfl) rfl ?_
          refine w_t (np := 1) (l2 := [some (eR a0), some (eI (0))]) (s2 := [eR a0]) rfl (s_an rfl (pos_g hI gA0 (by decide))) rfl ?_
          refine w_t (np := 2) (l2 := [some (eR a0), some (eI (0))]) (s2 := [eI (0), eR a0]) rfl rfl rfl ?_
          refine j_pf (np := 5) (w := 0) rfl rfl hI gA0 (by decide) (n := 69) rfl rfl (hO_i (lo := -2147483648) (hi := 2147483647) rfl (by decide)) ?_
          intro m13 I14 W15
          have F16 : Fr l_319 0 0 g μ m13 := F0.w W15 gA0 rfl
          refine w_t (np := 6) (l2 := [some (eR a0), some (eI (0))]) (s2 := [eR a0]) rfl (s_an rfl (pos_g I14 gA0 (by decide))) rfl ?_
          refine w_t (np := 7) (l2 := [some (eR a0), some (eI (0))]) (s2 := [eI (0), eR a0]) rfl rfl rfl ?_
          refine j_pf (np := 10) (w := 0) rfl rfl I14 gA0 (by decide) (n := 69) rfl rfl (hO_i (lo := -2147483648) (hi := 2147483647) rfl (by decide)) ?_
          intro m17 I18 W19
          have F20 : Fr l_319 0 0 g μ m17 := F16.w W19 gA0 rfl
          refine w_t (np := 11) (l2 := [some (eR a0), some (eI (0))]) (s2 := [eI (0)]) rfl rfl rfl ?_
          refine b_ine (t1 := 18) (t2 := 14) rfl rfl rfl rfl (fun g21 => absurd g21 (by decide)) (fun g21 => ?_)
          refine w_t (np := 15) (l2 := [some (eR a0), some (eI (0))]) (s2 := [eI (1)]) rfl rfl rfl ?_
          refine w_go (t1 := 19) rfl rfl ?_
          refine b_rz rfl rfl (Or.inr rfl) ?_
          show ex_q (dt_fg L ρ) rc (d + 2, (319, 30, [some (eR a0), some (eI (a1)), some (eI (a2))], [eI (1)]), f :: F, m17)
          refine b_ine (t1 := 35) (t2 := 33) rfl rfl rfl rfl (fun g22 => ?_) (fun g22 => absurd g22 (by decide))
          refine w_t (np := 36) (l2 := [some (eR a0), some (eI (a1)), some (eI (a2))]) (s2 := [eR a0]) rfl (s_an rfl (pos_g I18 gA0 (by decide))) rfl ?_
          refine j_gr (np := 39) rfl rfl I18 gA0 (by decide) (n := 69) rfl rfl rfl ?_
          intro v23 e24 b25 z26
          have b25 : g v23 = 79 := Nat.eq_of_beq_eq_true b25
          refine w_t (np := 41) (l2 := [some (eR a0), some (eI (a1)), some (eI (a2))]) (s2 := [eI (7), eR v23]) rfl rfl rfl ?_
          refine w_t (np := 42) (l2 := [some (eR a0), some (eI (a1)), some (eI (a2))]) (s2 := [eI (a1), eI (7), eR v23]) rfl rfl rfl ?_
          obtain ⟨v27, e28⟩ : ∃ zz : Int, zz = (7) * (a1) := ⟨_, rfl⟩
          have b29 : 0 ≤ v27 ∧ v27 ≤ 161 := by omega
          refine w_t (np := 43) (l2 := [some (eR a0), some (eI (a1)), some (eI (a2))]) (s2 := [eI (v27), eR v23]) rfl (b_imul (by rw [← e28]; exact ev_w_in (by omega) (by omega))) rfl ?_
          refine w_t (np := 44) (l2 := [some (eR a0), some (eI (a1)), some (eI (a2))]) (s2 := [eI (a2), eI (v27), eR v23]) rfl rfl rfl ?_
          refine b_ine (t1 := 51) (t2 := 47) rfl rfl rfl (ev_w_in (by omega) (by omega)) (fun g30 => ?_) (fun g30 => ?_)
          · have b31 : 1 ≤ a2 ∧ a2 ≤ 2 := by omega
            refine w_t (np := 52) (l2 := [some (eR a0), some (eI (a1)), some (eI (a2))]) (s2 := [eI (4), eI (v27), eR v23]) rfl rfl rfl ?_
            refine w_t (np := 53) (l2 := [some (eR a0), some (eI (a1)), some (eI (a2))]) (s2 := [eI (a2), eI (4), eI (v27), eR v23]) rfl rfl rfl ?_
            obtain ⟨v31, e32⟩ : ∃ zz : Int, zz = (4) + (a2) := ⟨_, rfl⟩
            have b33 : 5 ≤ v31 ∧ v31 ≤ 6 := by omega
            refine w_t (np := 54) (l2 := [some (eR a0), some (eI (a1)), some (eI (a2))]) (s2 := [eI (v31), eI (v27), eR v23]) rfl (b_iadd (by rw [← e32]; exact ev_w_in (by omega) (by omega))) rfl ?_
            obtain ⟨v34, e35⟩ : ∃ zz : Int, zz = (v27) + (v31) := ⟨_, rfl⟩
            have b36 : 5 ≤ v34 ∧ v34 ≤ 167 := by omega
            refine w_t (np := 55) (l2 := [some (eR a0), some (eI (a1)), some (eI (a2))]) (s2 := [eI (v34), eR v23]) rfl (b_iadd (by rw [← e35]; exact ev_w_in (by omega) (by omega))) rfl ?_
            refine j_al (np := 56) rfl rfl I18 b25 (by decide) (n := 168) rfl rfl (lo := -2147483648) (hi := 2147483647) (fun _ => rfl) (by omega) (by omega) ?_
            intro v37 e38 b39
            exact b_ri rfl rfl (K m17 (v37) I18 F20 (by omega))
          · have b31 : 0 ≤ a2 ∧ a2 ≤ 0 := by omega
            refine w_t (np := 48) (l2 := [some (eR a0), some (eI (a1)), some (eI (a2))]) (s2 := [eI (0), eI (v27), eR v23]) rfl rfl rfl ?_
            refine w_go (t1 := 54) rfl rfl ?_
            refine w_t (np := 55) (l2 := [some (eR a0), some (eI (a1)), some (eI (a2))]) (s2 := [eI (v27), eR v23]) rfl (b_iadd (by rw [Int.add_zero]; exact ev_w_in (by omega) (by omega))) rfl ?_
            refine j_al (np := 56) rfl rfl I18 b25 (by decide) (n := 168) rfl rfl (lo := -2147483648) (hi := 2147483647) (fun _ => rfl) (by omega) (by omega) ?_
            intro v31 e32 b33
            exact b_ri rfl rfl (K m17 (v31) I18 F20 (by omega))
def l_320 : List Nat := [13313, 13314, 21248]
theorem s_320 {L : Nat} {ρ : Nat → Int} {rc : eQ} {d : Nat} {f : eFr} {F : List eFr} {μ : eM} {g : Nat → Nat} {a0 : Nat} {a1 : Int} {a2 : Int} {a3 : Int} (hI : SI g μ) (gA0 : g a0 = 52) (bA1 : -2147483648 ≤ a1 ∧ a1 ≤ 2147483647) (bA2 : -2147483648 ≤ a2 ∧ a2 ≤ 2147483647) (bA3 : -2147483648 ≤ a3 ∧ a3 ≤ 2147483647) (K : ∀ (μ2 : eM) (v : Int), SI g μ2 → Fr l_320 0 0 g μ μ2 → (-2147483648 ≤ v ∧ v ≤ 2147483647) → ex_q (dt_fg L ρ) rc (d + 4, (f.1, f.2.1, f.2.2.1, eI v :: f.2.2.2), F, μ2)) : ex_q (dt_fg L ρ) rc (d + 3, (320, 0, [some (eR a0), some (eI (a1)), some (eI (a2)), some (eI (a3))], []), f :: F, μ) := by
  have F0 : Fr l_320 0 0 g μ μ := Fr.r
  refine w_t (np := 1) (l2 := [some (eR a0), some (eI (a1)), some (eI (a2)), some (eI (a3))]) (s2 := [eR a0]) rfl (s_an rfl (pos_g hI gA0 (by decide))) rfl ?_
  refine w_t (np := 2) (l2 := [some (eR a0), some (eI (a1)), some (eI (a2)), some (eI (a3))]) (s2 := [eI (a2), eR a0]) rfl rfl rfl ?_
  refine w_t (np := 3) (l2 := [some (eR a0), some (eI (a1)), some (eI (a2)), some (eI (a3))]) (s2 := [eI (0), eI (a2), eR a0]) rfl rfl rfl ?_
  refine w_t (np := 4) (l2 := [some (eR a0), some (eI (a1)), some (eI (a2)), some (eI (a3))]) (s2 := [eI (3), eI (0), eI (a2), eR a0]) rfl rfl rfl ?_
  refine w_cu (np := 7) (as := [eI (a2), eI (0), eI (3)]) (l2 := [some (eI (a2)), some (eI (0)), some (eI (3))]) (rest := [eR a0]) rfl rfl rfl (Nat.ble_eq.mp rfl) rfl rfl rfl rfl ?_
  refine w_t (np := 1) (l2 := [some (eI (a2)), some (eI (0)), some (eI (3))]) (s2 := [eI (a2)]) rfl rfl rfl ?_
  refine w_t (np := 2) (l2 := [some (eI (a2)), some (eI (0)), some (eI (3))]) (s2 := [eI (0), eI (a2)]) rfl rfl rfl ?_
  refine b_clt (t1 := 14) (t2 := 5) rfl rfl rfl (ev_w_in (by omega) (by omega)) rfl (fun g1 => ?_) (fun g1 => ?_)
  · have b2 : -2147483648 ≤ a2 ∧ a2 ≤ -1 := by omega
    refine w_t (np := 15) (l2 := [some (eI (a2)), some (eI (0)), some (eI (3))]) (s2 := [eI (0)]) rfl rfl rfl ?_
    refine b_rz rfl rfl (Or.inl rfl) ?_
    show ex_q (dt_fg L ρ) rc (d + 3, (320, 7, [some (eR a0), some (eI (a1)), some (eI (a2)), some (eI (a3))], [eI (0), eR a0]), f :: F, μ)
    refine b_ieq (t1 := 19) (t2 := 10) rfl rfl rfl rfl (fun g2 => ?_) (fun g2 => absurd g2 (by decide))
    refine w_t (np := 20) (l2 := [some (eR a0), some (eI (a1)), some (eI (a2)), some (eI (a3))]) (s2 := [eI (1), eR a0]) rfl rfl rfl ?_
    refine w_go (t1 := 36) rfl rfl ?_
    refine w_cw (np := 39) (as := [eI (1)]) (l2 := [some (eR a0), some (eI (1))]) (rest := []) rfl rfl rfl (Nat.ble_eq.mp rfl) rfl rfl rfl (hI.kd gA0 (by decide) (n := 69) rfl) rfl ?_
    refine w_t (np := 1) (l2 := [some (eR a0), some (eI (1))]) (s2 := [eR a0]) rfl (s_an rfl (pos_g hI gA0 (by decide))) rfl ?_
    refine w_t (np := 2) (l2 := [some (eR a0), some (eI (1))]) (s2 := [eI (0), eR a0]) rfl rfl rfl ?_
    refine j_pf (np := 5) (w := 0) rfl rfl hI gA0 (by decide) (n := 69) rfl rfl (hO_i (lo := -2147483648) (hi := 2147483647) rfl (by decide)) ?_
    intro m3 I4 W5
    have F6 : Fr l_320 0 0 g μ m3 := F0.w W5 gA0 rfl
    refine w_t (np := 6) (l2 := [some (eR a0), some (eI (1))]) (s2 := [eR a0]) rfl (s_an rfl (pos_g I4 gA0 (by decide))) rfl ?_
    refine w_t (np := 7) (l2 := [some (eR a0), some (eI (1))]) (s2 := [eI (1), eR a0]) rfl rfl rfl ?_
    refine j_pf (np := 10) (w := 1) rfl rfl I4 gA0 (by decide) (n := 69) rfl rfl (hO_i (lo := -2147483648) (hi := 2147483647) rfl (by decide)) ?_
    intro m7 I8 W9
    have F10 : Fr l_320 0 0 g μ m7 := F6.w W9 gA0 rfl
    refine w_t (np := 11) (l2 := [some (eR a0), some (eI (1))]) (s2 := [eI (1)]) rfl rfl rfl ?_
    refine b_ine (t1 := 18) (t2 := 14) rfl rfl rfl rfl (fun g11 => ?_) (fun g11 => absurd g11 (by decide))
    refine w_t (np := 19) (l2 := [some (eR a0), some (eI (1))]) (s2 := [eI (0)]) rfl rfl rfl ?_
    refine b_rz rfl rfl (Or.inl rfl) ?_
    show ex_q (dt_fg L ρ) rc (d + 3, (320, 39, [some (eR a0), some (eI (a1)), some (eI (a2)), some (eI (a3))], [eI (0)]), f :: F, m7)
    refine b_ine (t1 := 44) (t2 := 42) rfl rfl rfl rfl (fun g12 => absurd g12 (by decide)) (fun g12 => ?_)
    refine w_t (np := 43) (l2 := [some (eR a0), some (eI (a1)), some (eI (a2)), some (eI (a3))]) (s2 := [eI (-1)]) rfl rfl rfl ?_
    exact b_ri rfl rfl (K m7 (-1) I8 F10 (by decide))
  · have b2 : 0 ≤ a2 ∧ a2 ≤ 2147483647 := by omega
    refine w_t (np := 6) (l2 := [some (eI (a2)), some (eI (0)), some (eI (3))]) (s2 := [eI (a2)]) rfl rfl rfl ?_
    refine w_t (np := 7) (l2 := [some (eI (a2)), some (eI (0)), some (eI (3))]) (s2 := [eI (3), eI (a2)]) rfl rfl rfl ?_
    refine b_cgt (t1 := 14) (t2 := 10) rfl rfl rfl (ev_w_in (by omega) (by omega)) rfl (fun g2 => ?_) (fun g2 => ?_)
    · have b3 : 4 ≤ a2 ∧ a2 ≤ 2147483647 := by omega
      refine w_t (np := 15) (l2 := [some (eI (a2)), some (eI (0)), some (eI (3))]) (s2 := [eI (0)]) rfl rfl rfl ?_
      refine b_rz rfl rfl (Or.inl rfl) ?_
      show ex_q (dt_fg L ρ) rc (d + 3, (320, 7, [some (eR a0), some (eI (a1)), some (eI (a2)), some (eI (a3))], [eI (0), eR a0]), f :: F, μ)
      refine b_ieq (t1 := 19) (t2 := 10) rfl rfl rfl rfl (fun g3 => ?_) (fun g3 => absurd g3 (by decide))
      refine w_t (np := 20) (l2 := [some (eR a0), some (eI (a1)), some (eI (a2)), some (eI (a3))]) (s2 := [eI (1), eR a0]) rfl rfl rfl ?_
      refine w_go (t1 := 36) rfl rfl ?_
      refine w_cw (np := 39) (as := [eI (1)]) (l2 := [some (eR a0), some (eI (1))]) (rest := []) rfl rfl rfl (Nat.ble_eq.mp rfl) rfl rfl rfl (hI.kd gA0 (by decide) (n := 69) rfl) rfl ?_
      refine w_t (np := 1) (l2 := [some (eR a0), some (eI (1))]) (s2 := [eR a0]) rfl (s_an rfl (pos_g hI gA0 (by decide))) rfl ?_
      refine w_t (np := 2) (l2 := [some (eR a0), some (eI (1))]) (s2 := [eI (0), eR a0]) rfl rfl rfl ?_
      refine j_pf (np := 5) (w := 0) rfl rfl hI gA0 (by decide) (n := 69) rfl rfl (hO_i (lo := -2147483648) (hi := 2147483647) rfl (by decide)) ?_
      intro m4 I5 W6
      have F7 : Fr l_320 0 0 g μ m4 := F0.w W6 gA0 rfl
      refine w_t (np := 6) (l2 := [some (eR a0), some (eI (1))]) (s2 := [eR a0]) rfl (s_an rfl (pos_g I5 gA0 (by decide))) rfl ?_
      refine w_t (np := 7) (l2 := [some (eR a0), some (eI (1))]) (s2 := [eI (1), eR a0]) rfl rfl rfl ?_
      refine j_pf (np := 10) (w := 1) rfl rfl I5 gA0 (by decide) (n := 69) rfl rfl (hO_i (lo := -2147483648) (hi := 2147483647) rfl (by decide)) ?_
      intro m8 I9 W10
      have F11 : Fr l_320 0 0 g μ m8 := F7.w W10 gA0 rfl
      refine w_t (np := 11) (l2 := [some (eR a0), some (eI (1))]) (s2 := [eI (1)]) rfl rfl rfl ?_
      refine b_ine (t1 := 18) (t2 := 14) rfl rfl rfl rfl (fun g12 => ?_) (fun g12 => absurd g12 (by decide))
      refine w_t (np := 19) (l2 := [some (eR a0), some (eI (1))]) (s2 := [eI (0)]) rfl rfl rfl ?_
      refine b_rz rfl rfl (Or.inl rfl) ?_
      show ex_q (dt_fg L ρ) rc (d + 3, (320, 39, [some (eR a0), some (eI (a1)), some (eI (a2)), some (eI (a3))], [eI (0)]), f :: F, m8)
      refine b_ine (t1 := 44) (t2 := 42) rfl rfl rfl rfl (fun g13 => absurd g13 (by decide)) (fun g13 => ?_)
      refine w_t (np := 43) (l2 := [some (eR a0), some (eI (a1)), some (eI (a2)), some (eI (a3))]) (s2 := [eI (-1)]) rfl rfl rfl ?_
      exact b_ri rfl rfl (K m8 (-1) I9 F11 (by decide))
    · have b3 : 0 ≤ a2 ∧ a2 ≤ 3 := by omega
      refine w_t (np := 11) (l2 := [some (eI (a2)), some (eI (0)), some (eI (3))]) (s2 := [eI (1)]) rfl rfl rfl ?_
      refine w_go (t1 := 15) rfl rfl ?_
      refine b_rz rfl rfl (Or.inr rfl) ?_
      show ex_q (dt_fg L ρ) rc (d + 3, (320, 7, [some (eR a0), some (eI (a1)), some (eI (a2)), some (eI (a3))], [eI (1), eR a0]), f :: F, μ)
      refine b_ieq (t1 := 19) (t2 := 10) rfl rfl rfl rfl (fun g3 => absurd g3 (by decide)) (fun g3 => ?_)
      refine w_t (np := 11) (l2 := [some (eR a0), some (eI (a1)), some (eI (a2)), some (eI (a3))]) (s2 := [eI (a3), eR a0]) rfl rfl rfl ?_
      refine w_t (np := 12) (l2 := [some (eR a0), some (eI (a1)), some (eI (a2)), some (eI (a3))]) (s2 := [eI (0), eI (a3), eR a0]) rfl rfl rfl ?_
      refine w_t (np := 13) (l2 := [some (eR a0), some (eI (a1)), some (eI (a2)), some (eI (a3))]) (s2 := [eI (3), eI (0), eI (a3), eR a0]) rfl rfl rfl ?_
      refine w_cu (np := 16) (as := [eI (a3), eI (0), eI (3)]) (l2 := [some (eI (a3)), some (eI (0)), some (eI (3))]) (rest := [eR a0]) rfl rfl rfl (Nat.ble_eq.mp rfl) rfl rfl rfl rfl ?_
      refine w_t (np := 1) (l2 := [some (eI (a3)), some (eI (0)), some (eI (3))]) (s2 := [eI (a3)]) rfl rfl rfl ?_
      refine w_t (np := 2) (l2 := [some (eI (a3)), some (eI (0)), some (eI (3))]) (s2 := [eI (0), eI (a3)]) rfl rfl rfl ?_
      refine b_clt (t1 := 14) (t2 := 5) rfl rfl rfl (ev_w_in (by omega) (by omega)) rfl (fun g4 => ?_) (fun g4 => ?_)
      · have b5 : -2147483648 ≤ a3 ∧ a3 ≤ -1 := by omega
        refine w_t (np := 15) (l2 := [some (eI (a3)), some (eI (0)), some (eI (3))]) (s2 := [eI (0)]) rfl rfl rfl ?_
        refine b_rz rfl rfl (Or.inl rfl) ?_
        show ex_q (dt_fg L ρ) rc (d + 3, (320, 16, [some (eR a0), some (eI (a1)), some (eI (a2)), some (eI (a3))], [eI (0), eR a0]), f :: F, μ)
        refine b_ine (t1 := 23) (t2 := 19) rfl rfl rfl rfl (fun g5 => absurd g5 (by decide)) (fun g5 => ?_)
        refine w_t (np := 20) (l2 := [some (eR a0), some (eI (a1)), some (eI (a2)), some (eI (a3))]) (s2 := [eI (1), eR a0]) rfl rfl rfl ?_
        refine w_go (t1 := 36) rfl rfl ?_
        refine w_cw (np := 39) (as := [eI (1)]) (l2 := [some (eR a0), some (eI (1))]) (rest := []) rfl rfl rfl (Nat.ble_eq.mp rfl) rfl rfl rfl (hI.kd gA0 (by decide) (n := 69) rfl) rfl ?_
        refine w_t (np := 1) (l2 := [some (eR a0), some (eI (1))]) (s2 := [eR a0]) rfl (s_an rfl (pos_g hI gA0 (by decide))) rfl ?_
        refine w_t (np := 2) (l2 := [some (eR a0), some (eI (1))]) (s2 := [eI (0), eR a0]) rfl rfl rfl ?_
        refine j_pf (np := 5) (w := 0) rfl rfl hI gA0 (by decide) (n := 69) rfl rfl (hO_i (lo := -2147483648) (hi := 2147483647) rfl (by decide)) ?_
        intro m6 I7 W8
        have F9 : Fr l_320 0 0 g μ m6 := F0.w W8 gA0 rfl
        refine w_t (np := 6) (l2 := [some (eR a0), some (eI (1))]) (s2 := [eR a0]) rfl (s_an rfl (pos_g I7 gA0 (by decide))) rfl ?_
        refine w_t (np := 7) (l2 := [some (eR a0), some (eI (1))]) (s2 := [eI (1), eR a0]) rfl rfl rfl ?_
        refine j_pf (np := 10) (w := 1) rfl rfl I7 gA0 (by decide) (n := 69) rfl rfl (hO_i (lo := -2147483648) (hi := 2147483647) rfl (by decide)) ?_
        intro m10 I11 W12
        have F13 : Fr l_320 0 0 g μ m10 := F9.w W12 gA0 rfl
        refine w_t (np := 11) (l2 := [some (eR a0), some (eI (1))]) (s2 := [eI (1)]) rfl rfl rfl ?_
        refine b_ine (t1 := 18) (t2 := 14) rfl rfl rfl rfl (fun g14 => ?_) (fun g14 => absurd g14 (by decide))
        refine w_t (np := 19) (l2 := [some (eR a0), some (eI (1))]) (s2 := [eI (0)]) rfl rfl rfl ?_
        refine b_rz rfl rfl (Or.inl rfl) ?_
        show ex_q (dt_fg L ρ) rc (d + 3, (320, 39, [some (eR a0), some (eI (a1)), some (eI (a2)), some (eI (a3))], [eI (0)]), f :: F, m10)
        refine b_ine (t1 := 44) (t2 := 42) rfl rfl rfl rfl (fun g15 => absurd g15 (by decide)) (fun g15 => ?_)
        refine w_t (np := 43) (l2 := [some (eR a0), some (eI (a1)), some (eI (a2)), some (eI (a3))]) (s2 := [eI (-1)]) rfl rfl rfl ?_
        exact b_ri rfl rfl (K m10 (-1) I11 F13 (by decide))
      · have b5 : 0 ≤ a3 ∧ a3 ≤ 2147483647 := by omega
        refine w_t (np := 6) (l2 := [some (eI (a3)), some (eI (0)), some (eI (3))]) (s2 := [eI (a3)]) rfl rfl rfl ?_
        refine w_t (np := 7) (l2 := [some (eI (a3)), some (eI (0)), some (eI (3))]) (s2 := [eI (3), eI (a3)]) rfl rfl rfl ?_
        refine b_cgt (t1 := 14) (t2 := 10) rfl rfl rfl (ev_w_in (by omega) (by omega)) rfl (fun g5 => ?_) (fun g5 => ?_)
        · have b6 : 4 ≤ a3 ∧ a3 ≤ 2147483647 := by omega
          refine w_t (np := 15) (l2 := [some (eI (a3)), some (eI (0)), some (eI (3))]) (s2 := [eI (0)]) rfl rfl rfl ?_
          refine b_rz rfl rfl (Or.inl rfl) ?_
          show ex_q (dt_fg L ρ) rc (d + 3, (320, 16, [some (eR a0), some (eI (a1)), some (eI (a2)), some (eI (a3))], [eI (0), eR a0]), f :: F, μ)
          refine b_ine (t1 := 23) (t2 := 19) rfl rfl rfl rfl (fun g6 => absurd g6 (by decide)) (fun g6 => ?_)
          refine w_t (np := 20) (l2 := [some (eR a0), some (eI (a1)), some (eI (a2)), some (eI (a3))]) (s2 := [eI (1), eR a0]) rfl rfl rfl ?_
          refine w_go (t1 := 36) rfl rfl ?_
          refine w_cw (np := 39) (as := [eI (1)]) (l2 := [some (eR a0), some (eI (1))]) (rest := []) rfl rfl rfl (Nat.ble_eq.mp rfl) rfl rfl rfl (hI.kd gA0 (by decide) (n := 69) rfl) rfl ?_
          refine w_t (np := 1) (l2 := [some (eR a0), some (eI (1))]) (s2 := [eR a0]) rfl (s_an rfl (pos_g hI gA0 (by decide))) rfl ?_
          refine w_t (np := 2) (l2 := [some (eR a0), some (eI (1))]) (s2 := [eI (0), eR a0]) rfl rfl rfl ?_
          refine j_pf (np := 5) (w := 0) rfl rfl hI gA0 (by decide) (n := 69) rfl rfl (hO_i (lo := -2147483648) (hi := 2147483647) rfl (by decide)) ?_
          intro m7 I8 W9
          have F10 : Fr l_320 0 0 g μ m7 := F0.w W9 gA0 rfl
          refine w_t (np := 6) (l2 := [some (eR a0), some (eI (1))]) (s2 := [eR a0]) rfl (s_an rfl (pos_g I8 gA0 (by decide))) rfl ?_
          refine w_t (np := 7) (l2 := [some (eR a0), some (eI (1))]) (s2 := [eI (1), eR a0]) rfl rfl rfl ?_
          refine j_pf (np := 10) (w := 1) rfl rfl I8 gA0 (by decide) (n := 69) rfl rfl (hO_i (lo := -2147483648) (hi := 2147483647) rfl (by decide)) ?_
          intro m11 I12 W13
          have F14 : Fr l_320 0 0 g μ m11 := F10.w W13 gA0 rfl
          refine w_t (np := 11) (l2 := [some (eR a0), some (eI (1))]) (s2 := [eI (1)]) rfl rfl rfl ?_
          refine b_ine (t1 := 18) (t2 := 14) rfl rfl rfl rfl (fun g15 => ?_) (fun g15 => absurd g15 (by decide))
          refine w_t (np := 19) (l2 := [some (eR a0), some (eI (1))]) (s2 := [eI (0)]) rfl rfl rfl ?_
          refine b_rz rfl rfl (Or.inl rfl) ?_
          show ex_q (dt_fg L ρ) rc (d + 3, (320, 39, [some (eR a0), some (eI (a1)), some (eI (a2)), some (eI (a3))], [eI (0)]), f :: F, m11)
          refine b_ine (t1 := 44) (t2 := 42) rfl rfl rfl rfl (fun g16 => absurd g16 (by decide)) (fun g16 => ?_)
          refine w_t (np := 43) (l2 := [some (eR a0), some (eI (a1)), some (eI (a2)), some (eI (a3))]) (s2 := [eI (-1)]) rfl rfl rfl ?_
          exact b_ri rfl rfl (K m11 (-1) I12 F14 (by decide))
        · have b6 : 0 ≤ a3 ∧ a3 ≤ 3 := by omega
          refine w_t (np := 11) (l2 := [some (eI (a3)), some (eI (0)), some (eI (3))]) (s2 := [eI (1)]) rfl rfl rfl ?_
          refine w_go (t1 := 15) rfl rfl ?_
          refine b_rz rfl rfl (Or.inr rfl) ?_
          show ex_q (dt_fg L ρ) rc (d + 3, (320, 16, [some (eR a0), some (eI (a1)), some (eI (a2)), some (eI (a3))], [eI (1), eR a0]), f :: F, μ)
          refine b_ine (t1 := 23) (t2 := 19) rfl rfl rfl rfl (fun g6 => ?_) (fun g6 => absurd g6 (by decide))
          refine w_t (np := 24) (l2 := [some (eR a0), some (eI (a1)), some (eI (a2)), some (eI (a3))]) (s2 := [eR a0, eR a0]) rfl (s_an rfl (pos_g hI gA0 (by decide))) rfl ?_
          refine w_t (np := 25) (l2 := [some (eR a0), some (eI (a1)), some (eI (a2)), some (eI (a3))]) (s2 := [eI (a1), eR a0, eR a0]) rfl rfl rfl ?_
          refine w_cw (np := 28) (as := [eI (a1)]) (l2 := [some (eR a0), some (eI (a1))]) (rest := [eR a0]) rfl rfl rfl (Nat.ble_eq.mp rfl) rfl rfl rfl (hI.kd gA0 (by decide) (n := 69) rfl) rfl ?_
          refine w_t (np := 1) (l2 := [some (eR a0), some (eI (a1))]) (s2 := [eI (a1)]) rfl rfl rfl ?_
          refine w_t (np := 2) (l2 := [some (eR a0), some (eI (a1))]) (s2 := [eI (0), eI (a1)]) rfl rfl rfl ?_
          refine w_t (np := 3) (l2 := [some (eR a0), some (eI (a1))]) (s2 := [eR a0, eI (0), eI (a1)]) rfl (s_an rfl (pos_g hI gA0 (by decide))) rfl ?_
          refine j_gi (np := 6) rfl rfl rfl hI gA0 (by decide) (n := 69) rfl rfl (lo := 0) (hi := 24) rfl ?_
          intro v7 e8 b9
          refine w_t (np := 7) (l2 := [some (eR a0), some (eI (a1))]) (s2 := [eI (1), eI (v7), eI (0), eI (a1)]) rfl rfl rfl ?_
          obtain ⟨v10, e11⟩ : ∃ zz : Int, zz = (v7) - (1) := ⟨_, rfl⟩
          have b12 : -1 ≤ v10 ∧ v10 ≤ 23 := by omega
          refine w_t (np := 8) (l2 := [some (eR a0), some (eI (a1))]) (s2 := [eI (v10), eI (0), eI (a1)]) rfl (b_isub (by rw [← e11]; exact ev_w_in (by omega) (by omega))) rfl ?_
          refine w_cu (np := 11) (as := [eI (a1), eI (0), eI (v10)]) (l2 := [some (eI (a1)), some (eI (0)), some (eI (v10))]) (rest := []) rfl rfl rfl (Nat.ble_eq.mp rfl) rfl rfl rfl rfl ?_
          refine w_t (np := 1) (l2 := [some (eI (a1)), some (eI (0)), some (eI (v10))]) (s2 := [eI (a1)]) rfl rfl rfl ?_
          refine w_t (np := 2) (l2 := [some (eI (a1)), some (eI (0)), some (eI (v10))]) (s2 := [eI (0), eI (a1)]) rfl rfl rfl ?_
          refine b_clt (t1 := 14) (t2 := 5) rfl rfl rfl (ev_w_in (by omega) (by omega)) rfl (fun g13 => ?_) (fun g13 => ?_)
          · have b14 : -2147483648 ≤ a1 ∧ a1 ≤ -1 := by omega
            refine w_t (np := 15) (l2 := [some (eI (a1)), some (eI (0)), some (eI (v10))]) (s2 := [eI (0)]) rfl rfl rfl ?_
            refine b_rz rfl rfl (Or.inl rfl) ?_
            show ex_q (dt_fg L ρ) rc (d + 2, (316, 11, [some (eR a0), some (eI (a1))], [eI (0)]), (320, 28, [some (eR a0), some (eI (a1)), some (eI (a2)), some (eI (a3))], [eR a0]) :: f :: F, μ)
            refine b_rz rfl rfl (Or.inl rfl) ?_
            show ex_q (dt_fg L ρ) rc (d + 3, (320, 28, [some (eR a0), some (eI (a1)), some (eI (a2)), some (eI (a3))], [eI (0), eR a0]), f :: F, μ)
            refine b_ieq (t1 := 35) (t2 := 31) rfl rfl rfl rfl (fun g14 => ?_) (fun g14 => absurd g14 (by decide))
            refine w_t (np := 36) (l2 := [some (eR a0), some (eI (a1)), some (eI (a2)), some (eI (a3))]) (s2 := [eI (2), eR a0]) rfl rfl rfl ?_
            refine w_cw (np := 39) (as := [eI (2)]) (l2 := [some (eR a0), some (eI (2))]) (rest := []) rfl rfl rfl (Nat.ble_eq.mp rfl) rfl rfl rfl (hI.kd gA0 (by decide) (n := 69) rfl) rfl ?_
            refine w_t (np := 1) (l2 := [some (eR a0), some (eI (2))]) (s2 := [eR a0]) rfl (s_an rfl (pos_g hI gA0 (by decide))) rfl ?_
            refine w_t (np := 2) (l2 := [some (eR a0), some (eI (2))]) (s2 := [eI (0), eR a0]) rfl rfl rfl ?_
            refine j_pf (np := 5) (w := 0) rfl rfl hI gA0 (by decide) (n := 69) rfl rfl (hO_i (lo := -2147483648) (hi := 2147483647) rfl (by decide)) ?_
            intro m15 I16 W17
            have F18 : Fr l_320 0 0 g μ m15 := F0.w W17 gA0 rfl
            refine w_t (np := 6) (l2 := [some (eR a0), some (eI (2))]) (s2 := [eR a0]) rfl (s_an rfl (pos_g I16 gA0 (by decide))) rfl ?_
            refine w_t (np := 7) (l2 := [some (eR a0), some (eI (2))]) (s2 := [eI (2), eR a0]) rfl rfl rfl ?_
            refine j_pf (np := 10) (w := 2) rfl rfl I16 gA0 (by decide) (n := 69) rfl rfl (hO_i (lo := -2147483648) (hi := 2147483647) rfl (by decide)) ?_
            intro m19 I20 W21
            have F22 : Fr l_320 0 0 g μ m19 := F18.w W21 gA0 rfl
            refine w_t (np := 11) (l2 := [some (eR a0), some (eI (2))]) (s2 := [eI (2)]) rfl rfl rfl ?_
            refine b_ine (t1 := 18) (t2 := 14) rfl rfl rfl rfl (fun g23 => ?_) (fun g23 => absurd g23 (by decide))
            refine w_t (np := 19) (l2 := [some (eR a0), some (eI (2))]) (s2 := [eI (0)]) rfl rfl rfl ?_
            refine b_rz rfl rfl (Or.inl rfl) ?_
            show ex_q (dt_fg L ρ) rc (d + 3, (320, 39, [some (eR a0), some (eI (a1)), some (eI (a2)), some (eI (a3))], [eI (0)]), f :: F, m19)
            refine b_ine (t1 := 44) (t2 := 42) rfl rfl rfl rfl (fun g24 => absurd g24 (by decide)) (fun g24 => ?_)
            refine w_t (np := 43) (l2 := [some (eR a0), some (eI (a1)), some (eI (a2)), some (eI (a3))]) (s2 := [eI (-1)]) rfl rfl rfl ?_
            exact b_ri rfl rfl (K m19 (-1) I20 F22 (by decide))
          · have b14 : 0 ≤ a1 ∧ a1 ≤ 2147483647 := by omega
            refine w_t (np := 6) (l2 := [some (eI (a1)), some (eI (0)), some (eI (v10))]) (s2 := [eI (a1)]) rfl rfl rfl ?_
            refine w_t (np := 7) (l2 := [some (eI (a1)), some (eI (0)), some (eI (v10))]) (s2 := [eI (v10), eI (a1)]) rfl rfl rfl ?_
            refine b_cgt (t1 := 14) (t2 := 10) rfl rfl rfl (ev_w_in (by omega) (by omega)) (ev_w_in (by omega) (by omega)) (fun g14 => ?_) (fun g14 => ?_)
            · refine w_t (np := 15) (l2 := [some (eI (a1)), some (eI (0)), some (eI (v10))]) (s2 := [eI (0)]) rfl rfl rfl ?_
              refine b_rz rfl rfl (Or.inl rfl) ?_
              show ex_q (dt_fg L ρ) rc (d + 2, (316, 11, [some (eR a0), some (eI (a1))], [eI (0)]), (320, 28, [some (eR a0), some (eI (a1)), some (eI (a2)), some (eI (a3))], [eR a0]) :: f :: F, μ)
              refine b_rz rfl rfl (Or.inl rfl) ?_
              show ex_q (dt_fg L ρ) rc (d + 3, (320, 28, [some (eR a0), some (eI (a1)), some (eI (a2)), some (eI (a3))], [eI (0), eR a0]), f :: F, μ)
              refine b_ieq (t1 := 35) (t2 := 31) rfl rfl rfl rfl (fun g15 => ?_) (fun g15 => absurd g15 (by decide))
              refine w_t (np := 36) (l2 := [some (eR a0), some (eI (a1)), some (eI (a2)), some (eI (a3))]) (s2 := [eI (2), eR a0]) rfl rfl rfl ?_
              refine w_cw (np := 39) (as := [eI (2)]) (l2 := [some (eR a0), some (eI (2))]) (rest := []) rfl rfl rfl (Nat.ble_eq.mp rfl) rfl rfl rfl (hI.kd gA0 (by decide) (n := 69) rfl) rfl ?_
              refine w_t (np := 1) (l2 := [some (eR a0), some (eI (2))]) (s2 := [eR a0]) rfl (s_an rfl (pos_g hI gA0 (by decide))) rfl ?_
              refine w_t (np := 2) (l2 := [some (eR a0), some (eI (2))]) (s2 := [eI (0), eR a0]) rfl rfl rfl ?_
              refine j_pf (np := 5) (w := 0) rfl rfl hI gA0 (by decide) (n := 69) rfl rfl (hO_i (lo := -2147483648) (hi := 2147483647) rfl (by decide)) ?_
              intro m16 I17 W18
              have F19 : Fr l_320 0 0 g μ m16 := F0.w W18 gA0 rfl
              refine w_t (np := 6) (l2 := [some (eR a0), some (eI (2))]) (s2 := [eR a0]) rfl (s_an rfl (pos_g I17 gA0 (by decide))) rfl ?_
              refine w_t (np := 7) (l2 := [some (eR a0), some (eI (2))]) (s2 := [eI (2), eR a0]) rfl rfl rfl ?_
              refine j_pf (np := 10) (w := 2) rfl rfl I17 gA0 (by decide) (n := 69) rfl rfl (hO_i (lo := -2147483648) (hi := 2147483647) rfl (by decide)) ?_
              intro m20 I21 W22
              have F23 : Fr l_320 0 0 g μ m20 := F19.w W22 gA0 rfl
              refine w_t (np := 11) (l2 := [some (eR a0), some (eI (2))]) (s2 := [eI (2)]) rfl rfl rfl ?_
              refine b_ine (t1 := 18) (t2 := 14) rfl rfl rfl rfl (fun g24 => ?_) (fun g24 => absurd g24 (by decide))
              refine w_t (np := 19) (l2 := [some (eR a0), some (eI (2))]) (s2 := [eI (0)]) rfl rfl rfl ?_
              refine b_rz rfl rfl (Or.inl rfl) ?_
              show ex_q (dt_fg L ρ) rc (d + 3, (320, 39, [some (eR a0), some (eI (a1)), some (eI (a2)), some (eI (a3))], [eI (0)]), f :: F, m20)
              refine b_ine (t1 := 44) (t2 := 42) rfl rfl rfl rfl (fun g25 => absurd g25 (by decide)) (fun g25 => ?_)
              refine w_t (np := 43) (l2 := [some (eR a0), some (eI (a1)), some (eI (a2)), some (eI (a3))]) (s2 := [eI (-1)]) rfl rfl rfl ?_
              exact b_ri rfl rfl (K m20 (-1) I21 F23 (by decide))
            · have b15 : 0 ≤ a1 ∧ a1 ≤ 23 := by omega
              have b16 : 0 ≤ v10 ∧ v10 ≤ 23 := by omega
              refine w_t (np := 11) (l2 := [some (eI (a1)), some (eI (0)), some (eI (v10))]) (s2 := [eI (1)]) rfl rfl rfl ?_
              refine w_go (t1 := 15) rfl rfl ?_
              refine b_rz rfl rfl (Or.inr rfl) ?_
              show ex_q (dt_fg L ρ) rc (d + 2, (316, 11, [some (eR a0), some (eI (a1))], [eI (1)]), (320, 28, [some (eR a0), some (eI (a1)), some (eI (a2)), some (eI (a3))], [eR a0]) :: f :: F, μ)
              refine b_rz rfl rfl (Or.inr rfl) ?_
              show ex_q (dt_fg L ρ) rc (d + 3, (320, 28, [some (eR a0), some (eI (a1)), some (eI (a2)), some (eI (a3))], [eI (1), eR a0]), f :: F, μ)
              refine b_ieq (t1 := 35) (t2 := 31) rfl rfl rfl rfl (fun g15 => absurd g15 (by decide)) (fun g15 => ?_)
              refine w_t (np := 32) (l2 := [some (eR a0), some (eI (a1)), some (eI (a2)), some (eI (a3))]) (s2 := [eI (0), eR a0]) rfl rfl rfl ?_
              refine w_go (t1 := 36) rfl rfl ?_
              refine w_cw (np := 39) (as := [eI (0)]) (l2 := [some (eR a0), some (eI (0))]) (rest := []) rfl rfl rfl (Nat.ble_eq.mp rfl) rfl rfl rfl (hI.kd gA0 (by decide) (n := 69) rfl) rfl ?_
              refine w_t (np := 1) (l2 := [some (eR a0), some (eI (0))]) (s2 := [eR a0]) rfl (s_an rfl (pos_g hI gA0 (by decide))) rfl ?_
              refine w_t (np := 2) (l2 := [some (eR a0), some (eI (0))]) (s2 := [eI (0), eR a0]) rfl rfl rfl ?_
              refine j_pf (np := 5) (w := 0) rfl rfl hI gA0 (by decide) (n := 69) rfl rfl (hO_i (lo := -2147483648) (hi := 2147483647) rfl (by decide)) ?_
              intro m16 I17 W18
              have F19 : Fr l_320 0 0 g μ m16 := F0.w W18 gA0 rfl
              refine w_t (np := 6) (l2 := [some (eR a0), some (eI (0))]) (s2 := [eR a0]) rfl (s_an rfl (pos_g I17 gA0 (by decide))) rfl ?_
              refine w_t (np := 7) (l2 := [some (eR a0), some (eI (0))]) (s2 := [eI (0), eR a0]) rfl rfl rfl ?_
              refine j_pf (np := 10) (w := 0) rfl rfl I17 gA0 (by decide) (n := 69) rfl rfl (hO_i (lo := -2147483648) (hi := 2147483647) rfl (by decide)) ?_
              intro m20 I21 W22
              have F23 : Fr l_320 0 0 g μ m20 := F19.w W22 gA0 rfl
              refine w_t (np := 11) (l2 := [some (eR a0), some (eI (0))]) (s2 := [eI (0)]) rfl rfl rfl ?_
              refine b_ine (t1 := 18) (t2 := 14) rfl rfl rfl rfl (fun g24 => absurd g24 (by decide)) (fun g24 => ?_)
              refine w_t (np := 15) (l2 := [some (eR a0), some (eI (0))]) (s2 := [eI (1)]) rfl rfl rfl ?_
              refine w_go (t1 := 19) rfl rfl ?_
              refine b_rz rfl rfl (Or.inr rfl) ?_
              show ex_q (dt_fg L ρ) rc (d + 3, (320, 39, [some (eR a0), some (eI (a1)), some (eI (a2)), some (eI (a3))], [eI (1)]), f :: F, m20)
              refine b_ine (t1 := 44) (t2 := 42) rfl rfl rfl rfl (fun g25 => ?_) (fun g25 => absurd g25 (by decide))
              refine w_t (np := 45) (l2 := [some (eR a0), some (eI (a1)), some (eI (a2)), some (eI (a3))]) (s2 := [eR a0]) rfl (s_an rfl (pos_g I21 gA0 (by decide))) rfl ?_
              refine w_t (np := 46) (l2 := [some (eR a0), some (eI (a1)), some (eI (a2)), some (eI (a3))]) (s2 := [eI (a1), eR a0]) rfl rfl rfl ?_
              refine w_t (np := 47) (l2 := [some (eR a0), some (eI (a1)), some (eI (a2)), some (eI (a3))]) (s2 := [eR a0, eI (a1), eR a0]) rfl (s_an rfl (pos_g I21 gA0 (by decide))) rfl ?_
              refine j_gr (np := 50) rfl rfl I21 gA0 (by decide) (n := 69) rfl rfl rfl ?_
              intro v26 e27 b28 z29
              have b28 : g v26 = 83 := Nat.eq_of_beq_eq_true b28
              refine w_cw (np := 53) (as := [eI (a1), eR v26]) (l2 := [some (eR a0), some (eI (a1)), some (eR v26), none, none, none, none]) (rest := []) rfl rfl rfl (Nat.ble_eq.mp rfl) rfl rfl rfl (I21.kd gA0 (by decide) (n := 69) rfl) rfl ?_
              refine s_302 (a1 := a1) I21 gA0 (by omega) b28 ?_
              intro m30 I31 F32
              have F33 : Fr l_320 0 0 g μ m30 := F23.t F32 rfl
              show ex_q (dt_fg L ρ) rc (d + 3, (320, 53, [some (eR a0), some (eI (a1)), some (eI (a2)), some (eI (a3))], []), f :: F, m30)
              refine w_t (np := 54) (l2 := [some (eR a0), some (eI (a1)), some (eI (a2)), some (eI (a3))]) (s2 := [eR a0]) rfl (s_an rfl (pos_g I31 gA0 (by decide))) rfl ?_
              refine w_gf (np := 57) (v := eR v26) rfl rfl (I31.kd gA0 (by decide) (n := 69) rfl) (by rw [(F32.k e27 gA0 (by decide) rfl)]; rfl) ?_
              refine w_t (np := 58) (l2 := [some (eR a0), some (eI (a1)), some (eI (a2)), some (eI (a3))]) (s2 := [eI (4), eR v26]) rfl rfl rfl ?_
              refine w_t (np := 59) (l2 := [some (eR a0), some (eI (a1)), some (eI (a2)), some (eI (a3))]) (s2 := [eI (a2), eI (4), eR v26]) rfl rfl rfl ?_
              obtain ⟨v34, e35⟩ : ∃ zz : Int, zz = (4) * (a2) := ⟨_, rfl⟩
              have b36 : 0 ≤ v34 ∧ v34 ≤ 12 := by omega
              refine w_t (np := 60) (l2 := [some (eR a0), some (eI (a1)), some (eI (a2)), some (eI (a3))]) (s2 := [eI (v34), eR v26]) rfl (b_imul (by rw [← e35]; exact ev_w_in (by omega) (by omega))) rfl ?_
              refine w_t (np := 61) (l2 := [some (eR a0), some (eI (a1)), some (eI (a2)), some (eI (a3))]) (s2 := [eI (a3), eI (v34), eR v26]) rfl rfl rfl ?_
              obtain ⟨v37, e38⟩ : ∃ zz : Int, zz = (v34) + (a3) := ⟨_, rfl⟩
              have b39 : 0 ≤ v37 ∧ v37 ≤ 15 := by omega
              refine w_t (np := 62) (l2 := [some (eR a0), some (eI (a1)), some (eI (a2)), some (eI (a3))]) (s2 := [eI (v37), eR v26]) rfl (b_iadd (by rw [← e38]; exact ev_w_in (by omega) (by omega))) rfl ?_
              refine j_al (np := 63) rfl rfl I31 b28 (by decide) (n := 16) rfl rfl (lo := -2147483648) (hi := 2147483647) (fun _ => rfl) (by omega) (by omega) ?_
              intro v40 e41 b42
              exact b_ri rfl rfl (K m30 (v40) I31 F33 (by omega))
theorem s_324 {L : Nat} {ρ : Nat → Int} {rc : eQ} {d : Nat} {f : eFr} {F : List eFr} {μ : eM} {g : Nat → Nat} {a0 : Nat} (hI : SI g μ) (gA0 : g a0 = 52) (K : ∀ (v : Int), (-2147483648 ≤ v ∧ v ≤ 2147483647) → ex_q (dt_fg L ρ) rc (d + 1, (f.1, f.2.1, f.2.2.1, eI v :: f.2.2.2), F, μ)) : ex_q (dt_fg L ρ) rc (d, (324, 0, [some (eR a0), none, none], []), f :: F, μ) := by
  refine w_t (np := 1) (l2 := [some (eR a0), none, none]) (s2 := [eI (0)]) rfl rfl rfl ?_
  refine w_t (np := 2) (l2 := [some (eR a0), some (eI (0)), none]) (s2 := []) rfl rfl rfl ?_
  refine w_t (np := 3) (l2 := [some (eR a0), some (eI (0)), none]) (s2 := [eI (0)]) rfl rfl rfl ?_
  refine w_t (np := 4) (l2 := [some (eR a0), some (eI (0)), some (eI (0))]) (s2 := []) rfl rfl rfl ?_
  have hL4 : ∀ (n1 : Nat) (i3 : Int) (i5 : Int), (-2147483648 ≤ i3 ∧ i3 ≤ 2147483647) → (0 ≤ i5 ∧ i5 ≤ 10) → n1 = (10 - i5).toNat → ex_q (dt_fg L ρ) rc (d, (324, 4, [some (eR a0), some (eI (i3)), some (eI (i5))], []), f :: F, μ) := by
    intro n1
    induction n1 using Nat.strongRecOn with
    | _ n1 ih2 =>
    intro i3 i5 b4 b6 hn7
    refine w_t (np := 5) (l2 := [some (eR a0), some (eI (i3)), some (eI (i5))]) (s2 := [eI (i5)]) rfl rfl rfl ?_
    refine w_t (np := 7) (l2 := [some (eR a0), some (eI (i3)), some (eI (i5))]) (s2 := [eI (10), eI (i5)]) rfl rfl rfl ?_
    refine b_cge (t1 := 33) (t2 := 10) rfl rfl rfl (ev_w_in (by omega) (by omega)) rfl (fun g8 => ?_) (fun g8 => ?_)
    · have b9 : 10 ≤ i5 ∧ i5 ≤ 10 := by omega
      refine w_t (np := 34) (l2 := [some (eR a0), some (eI (i3)), some (eI (i5))]) (s2 := [eI (i3)]) rfl rfl rfl ?_
      exact b_ri rfl rfl (K (i3) (by omega))
    · have b9 : 0 ≤ i5 ∧ i5 ≤ 9 := by omega
      refine w_t (np := 11) (l2 := [some (eR a0), some (eI (i3)), some (eI (i5))]) (s2 := [eI (i3)]) rfl rfl rfl ?_
      refine w_t (np := 12) (l2 := [some (eR a0), some (eI (i3)), some (eI (i5))]) (s2 := [eR a0, eI (i3)]) rfl (s_an rfl (pos_g hI gA0 (by decide))) rfl ?_
      refine j_gr (np := 15) rfl rfl hI gA0 (by decide) (n := 69) rfl rfl rfl ?_
      intro v9 e10 b11 z12
      have b11 : g v9 = 85 := Nat.eq_of_beq_eq_true b11
      refine w_t (np := 16) (l2 := [some (eR a0), some (eI (i3)), some (eI (i5))]) (s2 := [eI (i5), eR v9, eI (i3)]) rfl rfl rfl ?_
      refine j_b3 (np := 17) rfl rfl hI b11 (by decide) (n := 10) rfl rfl (lo := 0) (hi := 1) (fun _ => rfl) (by omega) (by omega) ?_
      intro v13 e14 b15
      refine b_ieq (t1 := 24) (t2 := 20) rfl rfl rfl (ev_w_in (by omega) (by omega)) (fun g16 => ?_) (fun g16 => ?_)
      · have b17 : 0 ≤ v13 ∧ v13 ≤ 0 := by omega
        refine w_t (np := 25) (l2 := [some (eR a0), some (eI (i3)), some (eI (i5))]) (s2 := [eI (0), eI (i3)]) rfl rfl rfl ?_
        refine w_t (np := 26) (l2 := [some (eR a0), some (eI (i3)), some (eI (i5))]) (s2 := [eI (i3)]) rfl (b_iadd (by rw [Int.add_zero]; exact ev_w_in (by omega) (by omega))) rfl ?_
        refine w_t (np := 27) (l2 := [some (eR a0), some (eI (i3)), some (eI (i5))]) (s2 := []) rfl rfl rfl ?_
        obtain ⟨v17, e18⟩ : ∃ zz : Int, zz = (i5) + (1) := ⟨_, rfl⟩
        have b19 : 1 ≤ v17 ∧ v17 ≤ 10 := by omega
        refine w_t (np := 30) (l2 := [some (eR a0), some (eI (i3)), some (eI (v17))]) (s2 := []) rfl (b_iinc rfl (by rw [← e18]; exact ev_w_in (by omega) (by omega)) rfl) rfl ?_
        refine w_go (t1 := 4) rfl rfl ?_
        exact ih2 (10 - (v17)).toNat (by omega) (i3) (v17) (by omega) (by omega)     rfl
      · have b17 : 1 ≤ v13 ∧ v13 ≤ 1 := by omega
        refine w_t (np := 21) (l2 := [some (eR a0), some (eI (i3)), some (eI (i5))]) (s2 := [eI (1), eI (i3)]) rfl rfl rfl ?_
        refine w_go (t1 := 25) rfl rfl ?_
        obtain ⟨v17, e18, b19⟩ : ∃ zz : Int, ev_w ((i3) + (1)) = zz ∧ (-2147483648 ≤ zz ∧ zz ≤ 2147483647) := ⟨_, rfl, hw_bd _⟩
        refine w_t (np := 26) (l2 := [some (eR a0), some (eI (i3)), some (eI (i5))]) (s2 := [eI (v17)]) rfl (b_iadd e18) rfl ?_
        refine w_t (np := 27) (l2 := [some (eR a0), some (eI (v17)), some (eI (i5))]) (s2 := []) rfl rfl rfl ?_
        obtain ⟨v20, e21⟩ : ∃ zz : Int, zz = (i5) + (1) := ⟨_, rfl⟩
        have b22 : 1 ≤ v20 ∧ v20 ≤ 10 := by omega
        refine w_t (np := 30) (l2 := [some (eR a0), some (eI (v17)), some (eI (v20))]) (s2 := []) rfl (b_iinc rfl (by rw [← e21]; exact ev_w_in (by omega) (by omega)) rfl) rfl ?_
        refine w_go (t1 := 4) rfl rfl ?_
        exact ih2 (10 - (v20)).toNat (by omega) (v17) (v20) (by omega) (by omega)     rfl
  exact hL4 _ (0) (0) (by decide) (by decide)     rfl
def l_325 : List Nat := [13363, 21248, 20992, 20736]
theorem s_325 {L : Nat} {ρ : Nat → Int} {rc : eQ} {d : Nat} {f : eFr} {F : List eFr} {μ : eM} {g : Nat → Nat} {a0 : Nat} {a1 : Int} (hI : SI g μ) (gA0 : g a0 = 52) (bA1 : -2147483648 ≤ a1 ∧ a1 ≤ 2147483647) (K : ∀ (μ2 : eM) (v : Int), SI g μ2 → Fr l_325 0 0 g μ μ2 → (0 ≤ v ∧ v ≤ 1) → ex_q (dt_fg L ρ) rc (d + 5, (f.1, f.2.1, f.2.2.1, eI v :: f.2.2.2), F, μ2)) : ex_q (dt_fg L ρ) rc (d + 4, (325, 0, [some (eR a0), some (eI (a1))], []), f :: F, μ) := by
  have F0 : Fr l_325 0 0 g μ μ := Fr.r
  refine w_t (np := 1) (l2 := [some (eR a0), some (eI (a1))]) (s2 := [eR a0]) rfl (s_an rfl (pos_g hI gA0 (by decide))) rfl ?_
  refine w_cw (np := 4) (as := []) (l2 := [some (eR a0), none, none, none, none]) (rest := []) rfl rfl rfl (Nat.ble_eq.mp rfl) rfl rfl rfl (hI.kd gA0 (by decide) (n := 69) rfl) rfl ?_
  refine s_304 hI gA0 ?_
  intro m1 I2 F3
  have F4 : Fr l_325 0 0 g μ m1 := F0.t F3 rfl
  show ex_q (dt_fg L ρ) rc (d + 4, (325, 4, [some (eR a0), some (eI (a1))], []), f :: F, m1)
  refine w_t (np := 5) (l2 := [some (eR a0), some (eI (a1))]) (s2 := [eI (a1)]) rfl rfl rfl ?_
  refine w_t (np := 6) (l2 := [some (eR a0), some (eI (a1))]) (s2 := [eI (0), eI (a1)]) rfl rfl rfl ?_
  refine w_t (np := 7) (l2 := [some (eR a0), some (eI (a1))]) (s2 := [eR a0, eI (0), eI (a1)]) rfl (s_an rfl (pos_g I2 gA0 (by decide))) rfl ?_
  refine j_gi (np := 10) rfl rfl rfl I2 gA0 (by decide) (n := 69) rfl rfl (lo := 0) (hi := 96) rfl ?_
  intro v5 e6 b7
  refine w_t (np := 11) (l2 := [some (eR a0), some (eI (a1))]) (s2 := [eI (1), eI (v5), eI (0), eI (a1)]) rfl rfl rfl ?_
  obtain ⟨v8, e9⟩ : ∃ zz : Int, zz = (v5) - (1) := ⟨_, rfl⟩
  have b10 : -1 ≤ v8 ∧ v8 ≤ 95 := by omega
  refine w_t (np := 12) (l2 := [some (eR a0), some (eI (a1))]) (s2 := [eI (v8), eI (0), eI (a1)]) rfl (b_isub (by rw [← e9]; exact ev_w_in (by omega) (by omega))) rfl ?_
  refine w_cu (np := 15) (as := [eI (a1), eI (0), eI (v8)]) (l2 := [some (eI (a1)), some (eI (0)), some (eI (v8))]) (rest := []) rfl rfl rfl (Nat.ble_eq.mp rfl) rfl rfl rfl rfl ?_
  refine w_t (np := 1) (l2 := [some (eI (a1)), some (eI (0)), some (eI (v8))]) (s2 := [eI (a1)]) rfl rfl rfl ?_
  refine w_t (np := 2) (l2 := [some (eI (a1)), some (eI (0)), some (eI (v8))]) (s2 := [eI (0), eI (a1)]) rfl rfl rfl ?_
  refine b_clt (t1 := 14) (t2 := 5) rfl rfl rfl (ev_w_in (by omega) (by omega)) rfl (fun g11 => ?_) (fun g11 => ?_)
  · have b12 : -2147483648 ≤ a1 ∧ a1 ≤ -1 := by omega
    refine w_t (np := 15) (l2 := [some (eI (a1)), some (eI (0)), some (eI (v8))]) (s2 := [eI (0)]) rfl rfl rfl ?_
    refine b_rz rfl rfl (Or.inl rfl) ?_
    show ex_q (dt_fg L ρ) rc (d + 4, (325, 15, [some (eR a0), some (eI (a1))], [eI (0)]), f :: F, m1)
    exact b_rz rfl rfl (Or.inl rfl) (K m1 (0) I2 F4 (by decide))
  · have b12 : 0 ≤ a1 ∧ a1 ≤ 2147483647 := by omega
    refine w_t (np := 6) (l2 := [some (eI (a1)), some (eI (0)), some (eI (v8))]) (s2 := [eI (a1)]) rfl rfl rfl ?_
    refine w_t (np := 7) (l2 := [some (eI (a1)), some (eI (0)), some (eI (v8))]) (s2 := [eI (v8), eI (a1)]) rfl rfl rfl ?_
    refine b_cgt (t1 := 14) (t2 := 10) rfl rfl rfl (ev_w_in (by omega) (by omega)) (ev_w_in (by omega) (by omega)) (fun g12 => ?_) (fun g12 => ?_)
    · refine w_t (np := 15) (l2 := [some (eI (a1)), some (eI (0)), some (eI (v8))]) (s2 := [eI (0)]) rfl rfl rfl ?_
      refine b_rz rfl rfl (Or.inl rfl) ?_
      show ex_q (dt_fg L ρ) rc (d + 4, (325, 15, [some (eR a0), some (eI (a1))], [eI (0)]), f :: F, m1)
      exact b_rz rfl rfl (Or.inl rfl) (K m1 (0) I2 F4 (by decide))
    · have b13 : 0 ≤ a1 ∧ a1 ≤ 95 := by omega
      have b14 : 0 ≤ v8 ∧ v8 ≤ 95 := by omega
      refine w_t (np := 11) (l2 := [some (eI (a1)), some (eI (0)), some (eI (v8))]) (s2 := [eI (1)]) rfl rfl rfl ?_
      refine w_go (t1 := 15) rfl rfl ?_
      refine b_rz rfl rfl (Or.inr rfl) ?_
      show ex_q (dt_fg L ρ) rc (d + 4, (325, 15, [some (eR a0), some (eI (a1))], [eI (1)]), f :: F, m1)
      exact b_rz rfl rfl (Or.inr rfl) (K m1 (1) I2 F4 (by decide))
