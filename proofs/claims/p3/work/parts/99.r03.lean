/-! methods, walked -/
def l_275 : List Nat := [13313, 13314, 13315, 13316, 13317, 13318]
theorem s_275 {L : Nat} {ρ : Nat → Int} {rc : eQ} {d : Nat} {f : eFr} {F : List eFr} {μ : eM} {g : Nat → Nat} {a0 : Nat} {a1 : Int} {a2 : Int} {a3 : Int} (hI : SI g μ) (gA0 : g a0 = 52) (bA1 : -2147483648 ≤ a1 ∧ a1 ≤ 2147483647) (bA2 : -2147483648 ≤ a2 ∧ a2 ≤ 2147483647) (bA3 : -2147483648 ≤ a3 ∧ a3 ≤ 2147483647) (K : ∀ (μ2 : eM) (v : Int), SI g μ2 → Fr l_275 0 0 g μ μ2 → (-2147483648 ≤ v ∧ v ≤ 2147483647) → ex_q (dt_fg L ρ) rc (d + 5, (f.1, f.2.1, f.2.2.1, eI v :: f.2.2.2), F, μ2)) : ex_q (dt_fg L ρ) rc (d + 4, (275, 0, [some (eR a0), some (eI (a1)), some (eI (a2)), some (eI (a3))], []), f :: F, μ) := by
  have F0 : Fr l_275 0 0 g μ μ := Fr.r
  refine w_t (np := 1) (l2 := [some (eR a0), some (eI (a1)), some (eI (a2)), some (eI (a3))]) (s2 := [eR a0]) rfl (s_an rfl (pos_g hI gA0 (by decide))) rfl ?_
  refine w_t (np := 2) (l2 := [some (eR a0), some (eI (a1)), some (eI (a2)), some (eI (a3))]) (s2 := [eI (a3), eR a0]) rfl rfl rfl ?_
  refine w_t (np := 3) (l2 := [some (eR a0), some (eI (a1)), some (eI (a2)), some (eI (a3))]) (s2 := [eI (0), eI (a3), eR a0]) rfl rfl rfl ?_
  refine w_t (np := 4) (l2 := [some (eR a0), some (eI (a1)), some (eI (a2)), some (eI (a3))]) (s2 := [eI (1), eI (0), eI (a3), eR a0]) rfl rfl rfl ?_
  refine w_cu (np := 7) (as := [eI (a3), eI (0), eI (1)]) (l2 := [some (eI (a3)), some (eI (0)), some (eI (1))]) (rest := [eR a0]) rfl rfl rfl (Nat.ble_eq.mp rfl) rfl rfl rfl rfl ?_
  refine w_t (np := 1) (l2 := [some (eI (a3)), some (eI (0)), some (eI (1))]) (s2 := [eI (a3)]) rfl rfl rfl ?_
  refine w_t (np := 2) (l2 := [some (eI (a3)), some (eI (0)), some (eI (1))]) (s2 := [eI (0), eI (a3)]) rfl rfl rfl ?_
  refine b_clt (t1 := 14) (t2 := 5) rfl rfl rfl (ev_w_in (by omega) (by omega)) rfl (fun g1 => ?_) (fun g1 => ?_)
  · have b2 : -2147483648 ≤ a3 ∧ a3 ≤ -1 := by omega
    refine w_t (np := 15) (l2 := [some (eI (a3)), some (eI (0)), some (eI (1))]) (s2 := [eI (0)]) rfl rfl rfl ?_
    refine b_rz rfl rfl (Or.inl rfl) ?_
    show ex_q (dt_fg L ρ) rc (d + 4, (275, 7, [some (eR a0), some (eI (a1)), some (eI (a2)), some (eI (a3))], [eI (0), eR a0]), f :: F, μ)
    refine b_ine (t1 := 14) (t2 := 10) rfl rfl rfl rfl (fun g2 => absurd g2 (by decide)) (fun g2 => ?_)
    refine w_t (np := 11) (l2 := [some (eR a0), some (eI (a1)), some (eI (a2)), some (eI (a3))]) (s2 := [eI (1), eR a0]) rfl rfl rfl ?_
    refine w_go (t1 := 35) rfl rfl ?_
    refine w_cw (np := 38) (as := [eI (1)]) (l2 := [some (eR a0), some (eI (1))]) (rest := []) rfl rfl rfl (Nat.ble_eq.mp rfl) rfl rfl rfl (hI.kd gA0 (by decide) (n := 69) rfl) rfl ?_
    refine w_t (np := 1) (l2 := [some (eR a0), some (eI (1))]) (s2 := [eR a0]) rfl (s_an rfl (pos_g hI gA0 (by decide))) rfl ?_
    refine w_t (np := 2) (l2 := [some (eR a0), some (eI (1))]) (s2 := [eI (0), eR a0]) rfl rfl rfl ?_
    refine j_pf (np := 5) (w := 0) rfl rfl hI gA0 (by decide) (n := 69) rfl rfl (hO_i (lo := -2147483648) (hi := 2147483647) rfl (by decide)) ?_
    intro m3 I4 W5
    have F6 : Fr l_275 0 0 g μ m3 := F0.w W5 gA0 rfl
    refine w_t (np := 6) (l2 := [some (eR a0), some (eI (1))]) (s2 := [eR a0]) rfl (s_an rfl (pos_g I4 gA0 (by decide))) rfl ?_
    refine w_t (np := 7) (l2 := [some (eR a0), some (eI (1))]) (s2 := [eI (1), eR a0]) rfl rfl rfl ?_
    refine j_pf (np := 10) (w := 1) rfl rfl I4 gA0 (by decide) (n := 69) rfl rfl (hO_i (lo := -2147483648) (hi := 2147483647) rfl (by decide)) ?_
    intro m7 I8 W9
    have F10 : Fr l_275 0 0 g μ m7 := F6.w W9 gA0 rfl
    refine w_t (np := 11) (l2 := [some (eR a0), some (eI (1))]) (s2 := [eI (1)]) rfl rfl rfl ?_
    refine b_ine (t1 := 18) (t2 := 14) rfl rfl rfl rfl (fun g11 => ?_) (fun g11 => absurd g11 (by decide))
    refine w_t (np := 19) (l2 := [some (eR a0), some (eI (1))]) (s2 := [eI (0)]) rfl rfl rfl ?_
    refine b_rz rfl rfl (Or.inl rfl) ?_
    show ex_q (dt_fg L ρ) rc (d + 4, (275, 38, [some (eR a0), some (eI (a1)), some (eI (a2)), some (eI (a3))], [eI (0)]), f :: F, m7)
    refine b_ine (t1 := 43) (t2 := 41) rfl rfl rfl rfl (fun g12 => absurd g12 (by decide)) (fun g12 => ?_)
    refine w_t (np := 42) (l2 := [some (eR a0), some (eI (a1)), some (eI (a2)), some (eI (a3))]) (s2 := [eI (-1)]) rfl rfl rfl ?_
    exact b_ri rfl rfl (K m7 (-1) I8 F10 (by decide))
  · have b2 : 0 ≤ a3 ∧ a3 ≤ 2147483647 := by omega
    refine w_t (np := 6) (l2 := [some (eI (a3)), some (eI (0)), some (eI (1))]) (s2 := [eI (a3)]) rfl rfl rfl ?_
    refine w_t (np := 7) (l2 := [some (eI (a3)), some (eI (0)), some (eI (1))]) (s2 := [eI (1), eI (a3)]) rfl rfl rfl ?_
    refine b_cgt (t1 := 14) (t2 := 10) rfl rfl rfl (ev_w_in (by omega) (by omega)) rfl (fun g2 => ?_) (fun g2 => ?_)
    · have b3 : 2 ≤ a3 ∧ a3 ≤ 2147483647 := by omega
      refine w_t (np := 15) (l2 := [some (eI (a3)), some (eI (0)), some (eI (1))]) (s2 := [eI (0)]) rfl rfl rfl ?_
      refine b_rz rfl rfl (Or.inl rfl) ?_
      show ex_q (dt_fg L ρ) rc (d + 4, (275, 7, [some (eR a0), some (eI (a1)), some (eI (a2)), some (eI (a3))], [eI (0), eR a0]), f :: F, μ)
      refine b_ine (t1 := 14) (t2 := 10) rfl rfl rfl rfl (fun g3 => absurd g3 (by decide)) (fun g3 => ?_)
      refine w_t (np := 11) (l2 := [some (eR a0), some (eI (a1)), some (eI (a2)), some (eI (a3))]) (s2 := [eI (1), eR a0]) rfl rfl rfl ?_
      refine w_go (t1 := 35) rfl rfl ?_
      refine w_cw (np := 38) (as := [eI (1)]) (l2 := [some (eR a0), some (eI (1))]) (rest := []) rfl rfl rfl (Nat.ble_eq.mp rfl) rfl rfl rfl (hI.kd gA0 (by decide) (n := 69) rfl) rfl ?_
      refine w_t (np := 1) (l2 := [some (eR a0), some (eI (1))]) (s2 := [eR a0]) rfl (s_an rfl (pos_g hI gA0 (by decide))) rfl ?_
      refine w_t (np := 2) (l2 := [some (eR a0), some (eI (1))]) (s2 := [eI (0), eR a0]) rfl rfl rfl ?_
      refine j_pf (np := 5) (w := 0) rfl rfl hI gA0 (by decide) (n := 69) rfl rfl (hO_i (lo := -2147483648) (hi := 2147483647) rfl (by decide)) ?_
      intro m4 I5 W6
      have F7 : Fr l_275 0 0 g μ m4 := F0.w W6 gA0 rfl
      refine w_t (np := 6) (l2 := [some (eR a0), some (eI (1))]) (s2 := [eR a0]) rfl (s_an rfl (pos_g I5 gA0 (by decide))) rfl ?_
      refine w_t (np := 7) (l2 := [some (eR a0), some (eI (1))]) (s2 := [eI (1), eR a0]) rfl rfl rfl ?_
      refine j_pf (np := 10) (w := 1) rfl rfl I5 gA0 (by decide) (n := 69) rfl rfl (hO_i (lo := -2147483648) (hi := 2147483647) rfl (by decide)) ?_
      intro m8 I9 W10
      have F11 : Fr l_275 0 0 g μ m8 := F7.w W10 gA0 rfl
      refine w_t (np := 11) (l2 := [some (eR a0), some (eI (1))]) (s2 := [eI (1)]) rfl rfl rfl ?_
      refine b_ine (t1 := 18) (t2 := 14) rfl rfl rfl rfl (fun g12 => ?_) (fun g12 => absurd g12 (by decide))
      refine w_t (np := 19) (l2 := [some (eR a0), some (eI (1))]) (s2 := [eI (0)]) rfl rfl rfl ?_
      refine b_rz rfl rfl (Or.inl rfl) ?_
      show ex_q (dt_fg L ρ) rc (d + 4, (275, 38, [some (eR a0), some (eI (a1)), some (eI (a2)), some (eI (a3))], [eI (0)]), f :: F, m8)
      refine b_ine (t1 := 43) (t2 := 41) rfl rfl rfl rfl (fun g13 => absurd g13 (by decide)) (fun g13 => ?_)
      refine w_t (np := 42) (l2 := [some (eR a0), some (eI (a1)), some (eI (a2)), some (eI (a3))]) (s2 := [eI (-1)]) rfl rfl rfl ?_
      exact b_ri rfl rfl (K m8 (-1) I9 F11 (by decide))
    · have b3 : 0 ≤ a3 ∧ a3 ≤ 1 := by omega
      refine w_t (np := 11) (l2 := [some (eI (a3)), some (eI (0)), some (eI (1))]) (s2 := [eI (1)]) rfl rfl rfl ?_
      refine w_go (t1 := 15) rfl rfl ?_
      refine b_rz rfl rfl (Or.inr rfl) ?_
      show ex_q (dt_fg L ρ) rc (d + 4, (275, 7, [some (eR a0), some (eI (a1)), some (eI (a2)), some (eI (a3))], [eI (1), eR a0]), f :: F, μ)
      refine b_ine (t1 := 14) (t2 := 10) rfl rfl rfl rfl (fun g3 => ?_) (fun g3 => absurd g3 (by decide))
      refine w_t (np := 15) (l2 := [some (eR a0), some (eI (a1)), some (eI (a2)), some (eI (a3))]) (s2 := [eR a0, eR a0]) rfl (s_an rfl (pos_g hI gA0 (by decide))) rfl ?_
      refine w_t (np := 16) (l2 := [some (eR a0), some (eI (a1)), some (eI (a2)), some (eI (a3))]) (s2 := [eI (a1), eR a0, eR a0]) rfl rfl rfl ?_
      refine w_cw (np := 19) (as := [eI (a1)]) (l2 := [some (eR a0), some (eI (a1))]) (rest := [eR a0]) rfl rfl rfl (Nat.ble_eq.mp rfl) rfl rfl rfl (hI.kd gA0 (by decide) (n := 69) rfl) rfl ?_
      refine w_t (np := 1) (l2 := [some (eR a0), some (eI (a1))]) (s2 := [eI (a1)]) rfl rfl rfl ?_
      refine w_t (np := 2) (l2 := [some (eR a0), some (eI (a1))]) (s2 := [eI (0), eI (a1)]) rfl rfl rfl ?_
      refine w_t (np := 3) (l2 := [some (eR a0), some (eI (a1))]) (s2 := [eR a0, eI (0), eI (a1)]) rfl (s_an rfl (pos_g hI gA0 (by decide))) rfl ?_
      refine j_gi (np := 6) rfl rfl rfl hI gA0 (by decide) (n := 69) rfl rfl (lo := 0) (hi := 890) rfl ?_
      intro v4 e5 b6
      refine w_t (np := 7) (l2 := [some (eR a0), some (eI (a1))]) (s2 := [eI (1), eI (v4), eI (0), eI (a1)]) rfl rfl rfl ?_
      obtain ⟨v7, e8⟩ : ∃ zz : Int, zz = (v4) - (1) := ⟨_, rfl⟩
      have b9 : -1 ≤ v7 ∧ v7 ≤ 889 := by omega
      refine w_t (np := 8) (l2 := [some (eR a0), some (eI (a1))]) (s2 := [eI (v7), eI (0), eI (a1)]) rfl (b_isub (by rw [← e8]; exact ev_w_in (by omega) (by omega))) rfl ?_
      refine w_cu (np := 11) (as := [eI (a1), eI (0), eI (v7)]) (l2 := [some (eI (a1)), some (eI (0)), some (eI (v7))]) (rest := []) rfl rfl rfl (Nat.ble_eq.mp rfl) rfl rfl rfl rfl ?_
      refine w_t (np := 1) (l2 := [some (eI (a1)), some (eI (0)), some (eI (v7))]) (s2 := [eI (a1)]) rfl rfl rfl ?_
      refine w_t (np := 2) (l2 := [some (eI (a1)), some (eI (0)), some (eI (v7))]) (s2 := [eI (0), eI (a1)]) rfl rfl rfl ?_
      refine b_clt (t1 := 14) (t2 := 5) rfl rfl rfl (ev_w_in (by omega) (by omega)) rfl (fun g10 => ?_) (fun g10 => ?_)
      · have b11 : -2147483648 ≤ a1 ∧ a1 ≤ -1 := by omega
        refine w_t (np := 15) (l2 := [some (eI (a1)), some (eI (0)), some (eI (v7))]) (s2 := [eI (0)]) rfl rfl rfl ?_
        refine b_rz rfl rfl (Or.inl rfl) ?_
        show ex_q (dt_fg L ρ) rc (d + 3, (243, 11, [some (eR a0), some (eI (a1))], [eI (0)]), (275, 19, [some (eR a0), some (eI (a1)), some (eI (a2)), some (eI (a3))], [eR a0]) :: f :: F, μ)
        refine b_rz rfl rfl (Or.inl rfl) ?_
        show ex_q (dt_fg L ρ) rc (d + 4, (275, 19, [some (eR a0), some (eI (a1)), some (eI (a2)), some (eI (a3))], [eI (0), eR a0]), f :: F, μ)
        refine b_ieq (t1 := 34) (t2 := 22) rfl rfl rfl rfl (fun g11 => ?_) (fun g11 => absurd g11 (by decide))
        refine w_t (np := 35) (l2 := [some (eR a0), some (eI (a1)), some (eI (a2)), some (eI (a3))]) (s2 := [eI (2), eR a0]) rfl rfl rfl ?_
        refine w_cw (np := 38) (as := [eI (2)]) (l2 := [some (eR a0), some (eI (2))]) (rest := []) rfl rfl rfl (Nat.ble_eq.mp rfl) rfl rfl rfl (hI.kd gA0 (by decide) (n := 69) rfl) rfl ?_
        refine w_t (np := 1) (l2 := [some (eR a0), some (eI (2))]) (s2 := [eR a0]) rfl (s_an rfl (pos_g hI gA0 (by decide))) rfl ?_
        refine w_t (np := 2) (l2 := [some (eR a0), some (eI (2))]) (s2 := [eI (0), eR a0]) rfl rfl rfl ?_
        refine j_pf (np := 5) (w := 0) rfl rfl hI gA0 (by decide) (n := 69) rfl rfl (hO_i (lo := -2147483648) (hi := 2147483647) rfl (by decide)) ?_
        intro m12 I13 W14
        have F15 : Fr l_275 0 0 g μ m12 := F0.w W14 gA0 rfl
        refine w_t (np := 6) (l2 := [some (eR a0), some (eI (2))]) (s2 := [eR a0]) rfl (s_an rfl (pos_g I13 gA0 (by decide))) rfl ?_
        refine w_t (np := 7) (l2 := [some (eR a0), some (eI (2))]) (s2 := [eI (2), eR a0]) rfl rfl rfl ?_
        refine j_pf (np := 10) (w := 2) rfl rfl I13 gA0 (by decide) (n := 69) rfl rfl (hO_i (lo := -2147483648) (hi := 2147483647) rfl (by decide)) ?_
        intro m16 I17 W18
        have F19 : Fr l_275 0 0 g μ m16 := F15.w W18 gA0 rfl
        refine w_t (np := 11) (l2 := [some (eR a0), some (eI (2))]) (s2 := [eI (2)]) rfl rfl rfl ?_
        refine b_ine (t1 := 18) (t2 := 14) rfl rfl rfl rfl (fun g20 => ?_) (fun g20 => absurd g20 (by decide))
        refine w_t (np := 19) (l2 := [some (eR a0), some (eI (2))]) (s2 := [eI (0)]) rfl rfl rfl ?_
        refine b_rz rfl rfl (Or.inl rfl) ?_
        show ex_q (dt_fg L ρ) rc (d + 4, (275, 38, [some (eR a0), some (eI (a1)), some (eI (a2)), some (eI (a3))], [eI (0)]), f :: F, m16)
        refine b_ine (t1 := 43) (t2 := 41) rfl rfl rfl rfl (fun g21 => absurd g21 (by decide)) (fun g21 => ?_)
        refine w_t (np := 42) (l2 := [some (eR a0), some (eI (a1)), some (eI (a2)), some (eI (a3))]) (s2 := [eI (-1)]) rfl rfl rfl ?_
        exact b_ri rfl rfl (K m16 (-1) I17 F19 (by decide))
      · have b11 : 0 ≤ a1 ∧ a1 ≤ 2147483647 := by omega
        refine w_t (np := 6) (l2 := [some (eI (a1)), some (eI (0)), some (eI (v7))]) (s2 := [eI (a1)]) rfl rfl rfl ?_
        refine w_t (np := 7) (l2 := [some (eI (a1)), some (eI (0)), some (eI (v7))]) (s2 := [eI (v7), eI (a1)]) rfl rfl rfl ?_
        refine b_cgt (t1 := 14) (t2 := 10) rfl rfl rfl (ev_w_in (by omega) (by omega)) (ev_w_in (by omega) (by omega)) (fun g11 => ?_) (fun g11 => ?_)
        · refine w_t (np := 15) (l2 := [some (eI (a1)), some (eI (0)), some (eI (v7))]) (s2 := [eI (0)]) rfl rfl rfl ?_
          refine b_rz rfl rfl (Or.inl rfl) ?_
          show ex_q (dt_fg L ρ) rc (d + 3, (243, 11, [some (eR a0), some (eI (a1))], [eI (0)]), (275, 19, [some (eR a0), some (eI (a1)), some (eI (a2)), some (eI (a3))], [eR a0]) :: f :: F, μ)
          refine b_rz rfl rfl (Or.inl rfl) ?_
          show ex_q (dt_fg L ρ) rc (d + 4, (275, 19, [some (eR a0), some (eI (a1)), some (eI (a2)), some (eI (a3))], [eI (0), eR a0]), f :: F, μ)
          refine b_ieq (t1 := 34) (t2 := 22) rfl rfl rfl rfl (fun g12 => ?_) (fun g12 => absurd g12 (by decide))
          refine w_t (np := 35) (l2 := [some (eR a0), some (eI (a1)), some (eI (a2)), some (eI (a3))]) (s2 := [eI (2), eR a0]) rfl rfl rfl ?_
          refine w_cw (np := 38) (as := [eI (2)]) (l2 := [some (eR a0), some (eI (2))]) (rest := []) rfl rfl rfl (Nat.ble_eq.mp rfl) rfl rfl rfl (hI.kd gA0 (by decide) (n := 69) rfl) rfl ?_
          refine w_t (np := 1) (l2 := [some (eR a0), some (eI (2))]) (s2 := [eR a0]) rfl (s_an rfl (pos_g hI gA0 (by decide))) rfl ?_
          refine w_t (np := 2) (l2 := [some (eR a0), some (eI (2))]) (s2 := [eI (0), eR a0]) rfl rfl rfl ?_
          refine j_pf (np := 5) (w := 0) rfl rfl hI gA0 (by decide) (n := 69) rfl rfl (hO_i (lo := -2147483648) (hi := 2147483647) rfl (by decide)) ?_
          intro m13 I14 W15
          have F16 : Fr l_275 0 0 g μ m13 := F0.w W15 gA0 rfl
          refine w_t (np := 6) (l2 := [some (eR a0), some (eI (2))]) (s2 := [eR a0]) rfl (s_an rfl (pos_g I14 gA0 (by decide))) rfl ?_
          refine w_t (np := 7) (l2 := [some (eR a0), some (eI (2))]) (s2 := [eI (2), eR a0]) rfl rfl rfl ?_
          refine j_pf (np := 10) (w := 2) rfl rfl I14 gA0 (by decide) (n := 69) rfl rfl (hO_i (lo := -2147483648) (hi := 2147483647) rfl (by decide)) ?_
          intro m17 I18 W19
          have F20 : Fr l_275 0 0 g μ m17 := F16.w W19 gA0 rfl
          refine w_t (np := 11) (l2 := [some (eR a0), some (eI (2))]) (s2 := [eI (2)]) rfl rfl rfl ?_
          refine b_ine (t1 := 18) (t2 := 14) rfl rfl rfl rfl (fun g21 => ?_) (fun g21 => absurd g21 (by decide))
          refine w_t (np := 19) (l2 := [some (eR a0), some (eI (2))]) (s2 := [eI (0)]) rfl rfl rfl ?_
          refine b_rz rfl rfl (Or.inl rfl) ?_
          show ex_q (dt_fg L ρ) rc (d + 4, (275, 38, [some (eR a0), some (eI (a1)), some (eI (a2)), some (eI (a3))], [eI (0)]), f :: F, m17)
          refine b_ine (t1 := 43) (t2 := 41) rfl rfl rfl rfl (fun g22 => absurd g22 (by decide)) (fun g22 => ?_)
          refine w_t (np := 42) (l2 := [some (eR a0), some (eI (a1)), some (eI (a2)), some (eI (a3))]) (s2 := [eI (-1)]) rfl rfl rfl ?_
          exact b_ri rfl rfl (K m17 (-1) I18 F20 (by decide))
        · have b12 : 0 ≤ a1 ∧ a1 ≤ 889 := by omega
          have b13 : 0 ≤ v7 ∧ v7 ≤ 889 := by omega
          refine w_t (np := 11) (l2 := [some (eI (a1)), some (eI (0)), some (eI (v7))]) (s2 := [eI (1)]) rfl rfl rfl ?_
          refine w_go (t1 := 15) rfl rfl ?_
          refine b_rz rfl rfl (Or.inr rfl) ?_
          show ex_q (dt_fg L ρ) rc (d + 3, (243, 11, [some (eR a0), some (eI (a1))], [eI (1)]), (275, 19, [some (eR a0), some (eI (a1)), some (eI (a2)), some (eI (a3))], [eR a0]) :: f :: F, μ)
          refine b_rz rfl rfl (Or.inr rfl) ?_
          show ex_q (dt_fg L ρ) rc (d + 4, (275, 19, [some (eR a0), some (eI (a1)), some (eI (a2)), some (eI (a3))], [eI (1), eR a0]), f :: F, μ)
          refine b_ieq (t1 := 34) (t2 := 22) rfl rfl rfl rfl (fun g12 => absurd g12 (by decide)) (fun g12 => ?_)
          refine w_t (np := 23) (l2 := [some (eR a0), some (eI (a1)), some (eI (a2)), some (eI (a3))]) (s2 := [eR a0, eR a0]) rfl (s_an rfl (pos_g hI gA0 (by decide))) rfl ?_
          refine w_t (np := 24) (l2 := [some (eR a0), some (eI (a1)), some (eI (a2)), some (eI (a3))]) (s2 := [eI (a2), eR a0, eR a0]) rfl rfl rfl ?_
          refine w_cw (np := 27) (as := [eI (a2)]) (l2 := [some (eR a0), some (eI (a2))]) (rest := [eR a0]) rfl rfl rfl (Nat.ble_eq.mp rfl) rfl rfl rfl (hI.kd gA0 (by decide) (n := 69) rfl) rfl ?_
          refine w_t (np := 1) (l2 := [some (eR a0), some (eI (a2))]) (s2 := [eI (a2)]) rfl rfl rfl ?_
          refine w_t (np := 2) (l2 := [some (eR a0), some (eI (a2))]) (s2 := [eI (0), eI (a2)]) rfl rfl rfl ?_
          refine w_t (np := 3) (l2 := [some (eR a0), some (eI (a2))]) (s2 := [eR a0, eI (0), eI (a2)]) rfl (s_an rfl (pos_g hI gA0 (by decide))) rfl ?_
          refine w_gf (np := 6) (v := eI (v4)) rfl rfl (hI.kd gA0 (by decide) (n := 69) rfl) (by rw [e5]; rfl) ?_
          refine w_t (np := 7) (l2 := [some (eR a0), some (eI (a2))]) (s2 := [eI (1), eI (v4), eI (0), eI (a2)]) rfl rfl rfl ?_
          obtain ⟨v13, e14⟩ : ∃ zz : Int, zz = (v4) - (1) := ⟨_, rfl⟩
          have b15 : -1 ≤ v13 ∧ v13 ≤ 889 := by omega
          refine w_t (np := 8) (l2 := [some (eR a0), some (eI (a2))]) (s2 := [eI (v13), eI (0), eI (a2)]) rfl (b_isub (by rw [← e14]; exact ev_w_in (by omega) (by omega))) rfl ?_
          refine w_cu (np := 11) (as := [eI (a2), eI (0), eI (v13)]) (l2 := [some (eI (a2)), some (eI (0)), some (eI (v13))]) (rest := []) rfl rfl rfl (Nat.ble_eq.mp rfl) rfl rfl rfl rfl ?_
          refine w_t (np := 1) (l2 := [some (eI (a2)), some (eI (0)), some (eI (v13))]) (s2 := [eI (a2)]) rfl rfl rfl ?_
          refine w_t (np := 2) (l2 := [some (eI (a2)), some (eI (0)), some (eI (v13))]) (s2 := [eI (0), eI (a2)]) rfl rfl rfl ?_
          refine b_clt (t1 := 14) (t2 := 5) rfl rfl rfl (ev_w_in (by omega) (by omega)) rfl (fun g16 => ?_) (fun g16 => ?_)
          · have b17 : -2147483648 ≤ a2 ∧ a2 ≤ -1 := by omega
            refine w_t (np := 15) (l2 := [some (eI (a2)), some (eI (0)), some (eI (v13))]) (s2 := [eI (0)]) rfl rfl rfl ?_
            refine b_rz rfl rfl (Or.inl rfl) ?_
            show ex_q (dt_fg L ρ) rc (d + 3, (243, 11, [some (eR a0), some (eI (a2))], [eI (0)]), (275, 27, [some (eR a0), some (eI (a1)), some (eI (a2)), some (eI (a3))], [eR a0]) :: f :: F, μ)
            refine b_rz rfl rfl (Or.inl rfl) ?_
            show ex_q (dt_fg L ρ) rc (d + 4, (275, 27, [some (eR a0), some (eI (a1)), some (eI (a2)), some (eI (a3))], [eI (0), eR a0]), f :: F, μ)
            refine b_ieq (t1 := 34) (t2 := 30) rfl rfl rfl rfl (fun g17 => ?_) (fun g17 => absurd g17 (by decide))
            refine w_t (np := 35) (l2 := [some (eR a0), some (eI (a1)), some (eI (a2)), some (eI (a3))]) (s2 := [eI (2), eR a0]) rfl rfl rfl ?_
            refine w_cw (np := 38) (as := [eI (2)]) (l2 := [some (eR a0), some (eI (2))]) (rest := []) rfl rfl rfl (Nat.ble_eq.mp rfl) rfl rfl rfl (hI.kd gA0 (by decide) (n := 69) rfl) rfl ?_
            refine w_t (np := 1) (l2 := [some (eR a0), some (eI (2))]) (s2 := [eR a0]) rfl (s_an rfl (pos_g hI gA0 (by decide))) rfl ?_
            refine w_t (np := 2) (l2 := [some (eR a0), some (eI (2))]) (s2 := [eI (0), eR a0]) rfl rfl rfl ?_
            refine j_pf (np := 5) (w := 0) rfl rfl hI gA0 (by decide) (n := 69) rfl rfl (hO_i (lo := -2147483648) (hi := 2147483647) rfl (by decide)) ?_
            intro m18 I19 W20
            have F21 : Fr l_275 0 0 g μ m18 := F0.w W20 gA0 rfl
            refine w_t (np := 6) (l2 := [some (eR a0), some (eI (2))]) (s2 := [eR a0]) rfl (s_an rfl (pos_g I19 gA0 (by decide))) rfl ?_
            refine w_t (np := 7) (l2 := [some (eR a0), some (eI (2))]) (s2 := [eI (2), eR a0]) rfl rfl rfl ?_
            refine j_pf (np := 10) (w := 2) rfl rfl I19 gA0 (by decide) (n := 69) rfl rfl (hO_i (lo := -2147483648) (hi := 2147483647) rfl (by decide)) ?_
            intro m22 I23 W24
            have F25 : Fr l_275 0 0 g μ m22 := F21.w W24 gA0 rfl
            refine w_t (np := 11) (l2 := [some (eR a0), some (eI (2))]) (s2 := [eI (2)]) rfl rfl rfl ?_
            refine b_ine (t1 := 18) (t2 := 14) rfl rfl rfl rfl (fun g26 => ?_) (fun g26 => absurd g26 (by decide))
            refine w_t (np := 19) (l2 := [some (eR a0), some (eI (2))]) (s2 := [eI (0)]) rfl rfl rfl ?_
            refine b_rz rfl rfl (Or.inl rfl) ?_
            show ex_q (dt_fg L ρ) rc (d + 4, (275, 38, [some (eR a0), some (eI (a1)), some (eI (a2)), some (eI (a3))], [eI (0)]), f :: F, m22)
            refine b_ine (t1 := 43) (t2 := 41) rfl rfl rfl rfl (fun g27 => absurd g27 (by decide)) (fun g27 => ?_)
            refine w_t (np := 42) (l2 := [some (eR a0), some (eI (a1)), some (eI (a2)), some (eI (a3))]) (s2 := [eI (-1)]) rfl rfl rfl ?_
            exact b_ri rfl rfl (K m22 (-1) I23 F25 (by decide))
          · have b17 : 0 ≤ a2 ∧ a2 ≤ 2147483647 := by omega
            refine w_t (np := 6) (l2 := [some (eI (a2)), some (eI (0)), some (eI (v13))]) (s2 := [eI (a2)]) rfl rfl rfl ?_
            refine w_t (np := 7) (l2 := [some (eI (a2)), some (eI (0)), some (eI (v13))]) (s2 := [eI (v13), eI (a2)]) rfl rfl rfl ?_
            refine b_cgt (t1 := 14) (t2 := 10) rfl rfl rfl (ev_w_in (by omega) (by omega)) (ev_w_in (by omega) (by omega)) (fun g17 => ?_) (fun g17 => ?_)
            · refine w_t (np := 15) (l2 := [some (eI (a2)), some (eI (0)), some (eI (v13))]) (s2 := [eI (0)]) rfl rfl rfl ?_
              refine b_rz rfl rfl (Or.inl rfl) ?_
              show ex_q (dt_fg L ρ) rc (d + 3, (243, 11, [some (eR a0), some (eI (a2))], [eI (0)]), (275, 27, [some (eR a0), some (eI (a1)), some (eI (a2)), some (eI (a3))], [eR a0]) :: f :: F, μ)
              refine b_rz rfl rfl (Or.inl rfl) ?_
              show ex_q (dt_fg L ρ) rc (d + 4, (275, 27, [some (eR a0), some (eI (a1)), some (eI (a2)), some (eI (a3))], [eI (0), eR a0]), f :: F, μ)
              refine b_ieq (t1 := 34) (t2 := 30) rfl rfl rfl rfl (fun g18 => ?_) (fun g18 => absurd g18 (by decide))
              refine w_t (np := 35) (l2 := [some (eR a0), some (eI (a1)), some (eI (a2)), some (eI (a3))]) (s2 := [eI (2), eR a0]) rfl rfl rfl ?_
              refine w_cw (np := 38) (as := [eI (2)]) (l2 := [some (eR a0), some (eI (2))]) (rest := []) rfl rfl rfl (Nat.ble_eq.mp rfl) rfl rfl rfl (hI.kd gA0 (by decide) (n := 69) rfl) rfl ?_
              refine w_t (np := 1) (l2 := [some (eR a0), some (eI (2))]) (s2 := [eR a0]) rfl (s_an rfl (pos_g hI gA0 (by decide))) rfl ?_
              refine w_t (np := 2) (l2 := [some (eR a0), some (eI (2))]) (s2 := [eI (0), eR a0]) rfl rfl rfl ?_
              refine j_pf (np := 5) (w := 0) rfl rfl hI gA0 (by decide) (n := 69) rfl rfl (hO_i (lo := -2147483648) (hi := 2147483647) rfl (by decide)) ?_
              intro m19 I20 W21
              have F22 : Fr l_275 0 0 g μ m19 := F0.w W21 gA0 rfl
              refine w_t (np := 6) (l2 := [some (eR a0), some (eI (2))]) (s2 := [eR a0]) rfl (s_an rfl (pos_g I20 gA0 (by decide))) rfl ?_
              refine w_t (np := 7) (l2 := [some (eR a0), some (eI (2))]) (s2 := [eI (2), eR a0]) rfl rfl rfl ?_
              refine j_pf (np := 10) (w := 2) rfl rfl I20 gA0 (by decide) (n := 69) rfl rfl (hO_i (lo := -2147483648) (hi := 2147483647) rfl (by decide)) ?_
              intro m23 I24 W25
              have F26 : Fr l_275 0 0 g μ m23 := F22.w W25 gA0 rfl
              refine w_t (np := 11) (l2 := [some (eR a0), some (eI (2))]) (s2 := [eI (2)]) rfl rfl rfl ?_
              refine b_ine (t1 := 18) (t2 := 14) rfl rfl rfl rfl (fun g27 => ?_) (fun g27 => absurd g27 (by decide))
              refine w_t (np := 19) (l2 := [some (eR a0), some (eI (2))]) (s2 := [eI (0)]) rfl rfl rfl ?_
              refine b_rz rfl rfl (Or.inl rfl) ?_
              show ex_q (dt_fg L ρ) rc (d + 4, (275, 38, [some (eR a0), some (eI (a1)), some (eI (a2)), some (eI (a3))], [eI (0)]), f :: F, m23)
              refine b_ine (t1 := 43) (t2 := 41) rfl rfl rfl rfl (fun g28 => absurd g28 (by decide)) (fun g28 => ?_)
              refine w_t (np := 42) (l2 := [some (eR a0), some (eI (a1)), some (eI (a2)), some (eI (a3))]) (s2 := [eI (-1)]) rfl rfl rfl ?_
              exact b_ri rfl rfl (K m23 (-1) I24 F26 (by decide))
            · have b18 : 0 ≤ a2 ∧ a2 ≤ 889 := by omega
              have b19 : 0 ≤ v13 ∧ v13 ≤ 889 := by omega
              refine w_t (np := 11) (l2 := [some (eI (a2)), some (eI (0)), some (eI (v13))]) (s2 := [eI (1)]) rfl rfl rfl ?_
              refine w_go (t1 := 15) rfl rfl ?_
              refine b_rz rfl rfl (Or.inr rfl) ?_
              show ex_q (dt_fg L ρ) rc (d + 3, (243, 11, [some (eR a0), some (eI (a2))], [eI (1)]), (275, 27, [some (eR a0), some (eI (a1)), some (eI (a2)), some (eI (a3))], [eR a0]) :: f :: F, μ)
              refine b_rz rfl rfl (Or.inr rfl) ?_
              show ex_q (dt_fg L ρ) rc (d + 4, (275, 27, [some (eR a0), some (eI (a1)), some (eI (a2)), some (eI (a3))], [eI (1), eR a0]), f :: F, μ)
              refine b_ieq (t1 := 34) (t2 := 30) rfl rfl rfl rfl (fun g18 => absurd g18 (by decide)) (fun g18 => ?_)
              refine w_t (np := 31) (l2 := [some (eR a0), some (eI (a1)), some (eI (a2)), some (eI (a3))]) (s2 := [eI (0), eR a0]) rfl rfl rfl ?_
              refine w_go (t1 := 35) rfl rfl ?_
              refine w_cw (np := 38) (as := [eI (0)]) (l2 := [some (eR a0), some (eI (0))]) (rest := []) rfl rfl rfl (Nat.ble_eq.mp rfl) rfl rfl rfl (hI.kd gA0 (by decide) (n := 69) rfl) rfl ?_
              refine w_t (np := 1) (l2 := [some (eR a0), some (eI (0))]) (s2 := [eR a0]) rfl (s_an rfl (pos_g hI gA0 (by decide))) rfl ?_
              refine w_t (np := 2) (l2 := [some (eR a0), some (eI (0))]) (s2 := [eI (0), eR a0]) rfl rfl rfl ?_
              refine j_pf (np := 5) (w := 0) rfl rfl hI gA0 (by decide) (n := 69) rfl rfl (hO_i (lo := -2147483648) (hi := 2147483647) rfl (by decide)) ?_
              intro m19 I20 W21
              have F22 : Fr l_275 0 0 g μ m19 := F0.w W21 gA0 rfl
              refine w_t (np := 6) (l2 := [some (eR a0), some (eI (0))]) (s2 := [eR a0]) rfl (s_an rfl (pos_g I20 gA0 (by decide))) rfl ?_
              refine w_t (np := 7) (l2 := [some (eR a0), some (eI (0))]) (s2 := [eI (0), eR a0]) rfl rfl rfl ?_
              refine j_pf (np := 10) (w := 0) rfl rfl I20 gA0 (by decide) (n := 69) rfl rfl (hO_i (lo := -2147483648) (hi := 2147483647) rfl (by decide)) ?_
              intro m23 I24 W25
              have F26 : Fr l_275 0 0 g μ m23 := F22.w W25 gA0 rfl
              refine w_t (np := 11) (l2 := [some (eR a0), some (eI (0))]) (s2 := [eI (0)]) rfl rfl rfl ?_
              refine b_ine (t1 := 18) (t2 := 14) rfl rfl rfl rfl (fun g27 => absurd g27 (by decide)) (fun g27 => ?_)
              refine w_t (np := 15) (l2 := [some (eR a0), some (eI (0))]) (s2 := [eI (1)]) rfl rfl rfl ?_
              refine w_go (t1 := 19) rfl rfl ?_
              refine b_rz rfl rfl (Or.inr rfl) ?_
              show ex_q (dt_fg L ρ) rc (d + 4, (275, 38, [some (eR a0), some (eI (a1)), some (eI (a2)), some (eI (a3))], [eI (1)]), f :: F, m23)
              refine b_ine (t1 := 43) (t2 := 41) rfl rfl rfl rfl (fun g28 => ?_) (fun g28 => absurd g28 (by decide))
              refine w_t (np := 44) (l2 := [some (eR a0), some (eI (a1)), some (eI (a2)), some (eI (a3))]) (s2 := [eR a0]) rfl (s_an rfl (pos_g I24 gA0 (by decide))) rfl ?_
              refine w_t (np := 45) (l2 := [some (eR a0), some (eI (a1)), some (eI (a2)), some (eI (a3))]) (s2 := [eI (a1), eR a0]) rfl rfl rfl ?_
              refine w_t (np := 46) (l2 := [some (eR a0), some (eI (a1)), some (eI (a2)), some (eI (a3))]) (s2 := [eI (a2), eI (a1), eR a0]) rfl rfl rfl ?_
              refine w_cw (np := 49) (as := [eI (a1), eI (a2)]) (l2 := [some (eR a0), some (eI (a1)), some (eI (a2)), none, none, none, none, none, none, none, none, none, none]) (rest := []) rfl rfl rfl (Nat.ble_eq.mp rfl) rfl rfl rfl (I24.kd gA0 (by decide) (n := 69) rfl) rfl ?_
              refine s_273 (a1 := a1) (a2 := a2) I24 gA0 (by omega) (by omega) ?_
              intro m29 I30 F31
              have F32 : Fr l_275 0 0 g μ m29 := F26.t F31 rfl
              show ex_q (dt_fg L ρ) rc (d + 4, (275, 49, [some (eR a0), some (eI (a1)), some (eI (a2)), some (eI (a3))], []), f :: F, m29)
              refine v_l2 (np := 52) (c := 2) rfl rfl (by decide) ?_
              rw [show zJ 2 = 2 by decide]
              refine w_t (np := 53) (l2 := [some (eR a0), some (eI (a1)), some (eI (a2)), some (eI (a3))]) (s2 := [eI (a3), eJ (2)]) rfl rfl rfl ?_
              refine b_ine (t1 := 63) (t2 := 56) rfl rfl rfl (ev_w_in (by omega) (by omega)) (fun g33 => ?_) (fun g33 => ?_)
              · have b34 : 1 ≤ a3 ∧ a3 ≤ 1 := by omega
                refine w_t (np := 64) (l2 := [some (eR a0), some (eI (a1)), some (eI (a2)), some (eI (a3))]) (s2 := [eR a0, eJ (2)]) rfl (s_an rfl (pos_g I30 gA0 (by decide))) rfl ?_
                refine j_gj (np := 67) rfl rfl I30 gA0 (by decide) (n := 69) rfl rfl (lo := -9223372036854775808) (hi := 9223372036854775807) rfl ?_
                intro v34 e35 b36
                obtain ⟨v37, e38, b39⟩ : ∃ zz : Int, ev_W ((2) * (v34)) = zz ∧ (-9223372036854775808 ≤ zz ∧ zz ≤ 9223372036854775807) := ⟨_, rfl, hW_bd _⟩
                refine w_t (np := 68) (l2 := [some (eR a0), some (eI (a1)), some (eI (a2)), some (eI (a3))]) (s2 := [eJ (v37)]) rfl (b_lmul e38) rfl ?_
                obtain ⟨v40, e41, b42⟩ := h_l2i (v37)
                refine w_t (np := 69) (l2 := [some (eR a0), some (eI (a1)), some (eI (a2)), some (eI (a3))]) (s2 := [eI (v40)]) rfl (e41 _ _) rfl ?_
                exact b_ri rfl rfl (K m29 (v40) I30 F32 (by omega))
              · have b34 : 0 ≤ a3 ∧ a3 ≤ 0 := by omega
                refine w_t (np := 57) (l2 := [some (eR a0), some (eI (a1)), some (eI (a2)), some (eI (a3))]) (s2 := [eR a0, eJ (2)]) rfl (s_an rfl (pos_g I30 gA0 (by decide))) rfl ?_
                refine j_gj (np := 60) rfl rfl I30 gA0 (by decide) (n := 69) rfl rfl (lo := -9223372036854775808) (hi := 9223372036854775807) rfl ?_
                intro v34 e35 b36
                refine w_go (t1 := 67) rfl rfl ?_
                obtain ⟨v37, e38, b39⟩ : ∃ zz : Int, ev_W ((2) * (v34)) = zz ∧ (-9223372036854775808 ≤ zz ∧ zz ≤ 9223372036854775807) := ⟨_, rfl, hW_bd _⟩
                refine w_t (np := 68) (l2 := [some (eR a0), some (eI (a1)), some (eI (a2)), some (eI (a3))]) (s2 := [eJ (v37)]) rfl (b_lmul e38) rfl ?_
                obtain ⟨v40, e41, b42⟩ := h_l2i (v37)
                refine w_t (np := 69) (l2 := [some (eR a0), some (eI (a1)), some (eI (a2)), some (eI (a3))]) (s2 := [eI (v40)]) rfl (e41 _ _) rfl ?_
                exact b_ri rfl rfl (K m29 (v40) I30 F32 (by omega))
def l_277 : List Nat := [13313, 13314, 13351, 19200]
theorem s_277 {L : Nat} {ρ : Nat → Int} {rc : eQ} {d : Nat} {f : eFr} {F : List eFr} {μ : eM} {g : Nat → Nat} {a0 : Nat} {a1 : Int} (hI : SI g μ) (gA0 : g a0 = 52) (bA1 : -2147483648 ≤ a1 ∧ a1 ≤ 2147483647) (K : ∀ (μ2 : eM) (v : Int), SI g μ2 → Fr l_277 0 0 g μ μ2 → (-2147483648 ≤ v ∧ v ≤ 2147483647) → ex_q (dt_fg L ρ) rc (d + 2, (f.1, f.2.1, f.2.2.1, eI v :: f.2.2.2), F, μ2)) : ex_q (dt_fg L ρ) rc (d + 1, (277, 0, [some (eR a0), some (eI (a1)), none], []), f :: F, μ) := by
  have F0 : Fr l_277 0 0 g μ μ := Fr.r
  refine w_t (np := 1) (l2 := [some (eR a0), some (eI (a1)), none]) (s2 := [eR a0]) rfl (s_an rfl (pos_g hI gA0 (by decide))) rfl ?_
  refine w_t (np := 2) (l2 := [some (eR a0), some (eI (a1)), none]) (s2 := [eI (a1), eR a0]) rfl rfl rfl ?_
  refine w_t (np := 3) (l2 := [some (eR a0), some (eI (a1)), none]) (s2 := [eI (0), eI (a1), eR a0]) rfl rfl rfl ?_
  refine w_t (np := 4) (l2 := [some (eR a0), some (eI (a1)), none]) (s2 := [eI (1), eI (0), eI (a1), eR a0]) rfl rfl rfl ?_
  refine w_cu (np := 7) (as := [eI (a1), eI (0), eI (1)]) (l2 := [some (eI (a1)), some (eI (0)), some (eI (1))]) (rest := [eR a0]) rfl rfl rfl (Nat.ble_eq.mp rfl) rfl rfl rfl rfl ?_
  refine w_t (np := 1) (l2 := [some (eI (a1)), some (eI (0)), some (eI (1))]) (s2 := [eI (a1)]) rfl rfl rfl ?_
  refine w_t (np := 2) (l2 := [some (eI (a1)), some (eI (0)), some (eI (1))]) (s2 := [eI (0), eI (a1)]) rfl rfl rfl ?_
  refine b_clt (t1 := 14) (t2 := 5) rfl rfl rfl (ev_w_in (by omega) (by omega)) rfl (fun g1 => ?_) (fun g1 => ?_)
  · have b2 : -2147483648 ≤ a1 ∧ a1 ≤ -1 := by omega
    refine w_t (np := 15) (l2 := [some (eI (a1)), some (eI (0)), some (eI (1))]) (s2 := [eI (0)]) rfl rfl rfl ?_
    refine b_rz rfl rfl (Or.inl rfl) ?_
    show ex_q (dt_fg L ρ) rc (d + 1, (277, 7, [some (eR a0), some (eI (a1)), none], [eI (0), eR a0]), f :: F, μ)
    refine b_ieq (t1 := 14) (t2 := 10) rfl rfl rfl rfl (fun g2 => ?_) (fun g2 => absurd g2 (by decide))
    refine w_t (np := 15) (l2 := [some (eR a0), some (eI (a1)), none]) (s2 := [eI (1), eR a0]) rfl rfl rfl ?_
    refine w_cw (np := 18) (as := [eI (1)]) (l2 := [some (eR a0), some (eI (1))]) (rest := []) rfl rfl rfl (Nat.ble_eq.mp rfl) rfl rfl rfl (hI.kd gA0 (by decide) (n := 69) rfl) rfl ?_
    refine w_t (np := 1) (l2 := [some (eR a0), some (eI (1))]) (s2 := [eR a0]) rfl (s_an rfl (pos_g hI gA0 (by decide))) rfl ?_
    refine w_t (np := 2) (l2 := [some (eR a0), some (eI (1))]) (s2 := [eI (0), eR a0]) rfl rfl rfl ?_
    refine j_pf (np := 5) (w := 0) rfl rfl hI gA0 (by decide) (n := 69) rfl rfl (hO_i (lo := -2147483648) (hi := 2147483647) rfl (by decide)) ?_
    intro m3 I4 W5
    have F6 : Fr l_277 0 0 g μ m3 := F0.w W5 gA0 rfl
    refine w_t (np := 6) (l2 := [some (eR a0), some (eI (1))]) (s2 := [eR a0]) rfl (s_an rfl (pos_g I4 gA0 (by decide))) rfl ?_
    refine w_t (np := 7) (l2 := [some (eR a0), some (eI (1))]) (s2 := [eI (1), eR a0]) rfl rfl rfl ?_
    refine j_pf (np := 10) (w := 1) rfl rfl I4 gA0 (by decide) (n := 69) rfl rfl (hO_i (lo := -2147483648) (hi := 2147483647) rfl (by decide)) ?_
    intro m7 I8 W9
    have F10 : Fr l_277 0 0 g μ m7 := F6.w W9 gA0 rfl
    refine w_t (np := 11) (l2 := [some (eR a0), some (eI (1))]) (s2 := [eI (1)]) rfl rfl rfl ?_
    refine b_ine (t1 := 18) (t2 := 14) rfl rfl rfl rfl (fun g11 => ?_) (fun g11 => absurd g11 (by decide))
    refine w_t (np := 19) (l2 := [some (eR a0), some (eI (1))]) (s2 := [eI (0)]) rfl rfl rfl ?_
    refine b_rz rfl rfl (Or.inl rfl) ?_
    show ex_q (dt_fg L ρ) rc (d + 1, (277, 18, [some (eR a0), some (eI (a1)), none], [eI (0)]), f :: F, m7)
    refine b_ine (t1 := 23) (t2 := 21) rfl rfl rfl rfl (fun g12 => absurd g12 (by decide)) (fun g12 => ?_)
    refine w_t (np := 22) (l2 := [some (eR a0), some (eI (a1)), none]) (s2 := [eI (-1)]) rfl rfl rfl ?_
    exact b_ri rfl rfl (K m7 (-1) I8 F10 (by decide))
  · have b2 : 0 ≤ a1 ∧ a1 ≤ 2147483647 := by omega
    refine w_t (np := 6) (l2 := [some (eI (a1)), some (eI (0)), some (eI (1))]) (s2 := [eI (a1)]) rfl rfl rfl ?_
    refine w_t (np := 7) (l2 := [some (eI (a1)), some (eI (0)), some (eI (1))]) (s2 := [eI (1), eI (a1)]) rfl rfl rfl ?_
    refine b_cgt (t1 := 14) (t2 := 10) rfl rfl rfl (ev_w_in (by omega) (by omega)) rfl (fun g2 => ?_) (fun g2 => ?_)
    · have b3 : 2 ≤ a1 ∧ a1 ≤ 2147483647 := by omega
      refine w_t (np := 15) (l2 := [some (eI (a1)), some (eI (0)), some (eI (1))]) (s2 := [eI (0)]) rfl rfl rfl ?_
      refine b_rz rfl rfl (Or.inl rfl) ?_
      show ex_q (dt_fg L ρ) rc (d + 1, (277, 7, [some (eR a0), some (eI (a1)), none], [eI (0), eR a0]), f :: F, μ)
      refine b_ieq (t1 := 14) (t2 := 10) rfl rfl rfl rfl (fun g3 => ?_) (fun g3 => absurd g3 (by decide))
      refine w_t (np := 15) (l2 := [some (eR a0), some (eI (a1)), none]) (s2 := [eI (1), eR a0]) rfl rfl rfl ?_
      refine w_cw (np := 18) (as := [eI (1)]) (l2 := [some (eR a0), some (eI (1))]) (rest := []) rfl rfl rfl (Nat.ble_eq.mp rfl) rfl rfl rfl (hI.kd gA0 (by decide) (n := 69) rfl) rfl ?_
      refine w_t (np := 1) (l2 := [some (eR a0), some (eI (1))]) (s2 := [eR a0]) rfl (s_an rfl (pos_g hI gA0 (by decide))) rfl ?_
      refine w_t (np := 2) (l2 := [some (eR a0), some (eI (1))]) (s2 := [eI (0), eR a0]) rfl rfl rfl ?_
      refine j_pf (np := 5) (w := 0) rfl rfl hI gA0 (by decide) (n := 69) rfl rfl (hO_i (lo := -2147483648) (hi := 2147483647) rfl (by decide)) ?_
      intro m4 I5 W6
      have F7 : Fr l_277 0 0 g μ m4 := F0.w W6 gA0 rfl
      refine w_t (np := 6) (l2 := [some (eR a0), some (eI (1))]) (s2 := [eR a0]) rfl (s_an rfl (pos_g I5 gA0 (by decide))) rfl ?_
      refine w_t (np := 7) (l2 := [some (eR a0), some (eI (1))]) (s2 := [eI (1), eR a0]) rfl rfl rfl ?_
      refine j_pf (np := 10) (w := 1) rfl rfl I5 gA0 (by decide) (n := 69) rfl rfl (hO_i (lo := -2147483648) (hi := 2147483647) rfl (by decide)) ?_
      intro m8 I9 W10
      have F11 : Fr l_277 0 0 g μ m8 := F7.w W10 gA0 rfl
      refine w_t (np := 11) (l2 := [some (eR a0), some (eI (1))]) (s2 := [eI (1)]) rfl rfl rfl ?_
      refine b_ine (t1 := 18) (t2 := 14) rfl rfl rfl rfl (fun g12 => ?_) (fun g12 => absurd g12 (by decide))
      refine w_t (np := 19) (l2 := [some (eR a0), some (eI (1))]) (s2 := [eI (0)]) rfl rfl rfl ?_
      refine b_rz rfl rfl (Or.inl rfl) ?_
      show ex_q (dt_fg L ρ) rc (d + 1, (277, 18, [some (eR a0), some (eI (a1)), none], [eI (0)]), f :: F, m8)
      refine b_ine (t1 := 23) (t2 := 21) rfl rfl rfl rfl (fun g13 => absurd g13 (by decide)) (fun g13 => ?_)
      refine w_t (np := 22) (l2 := [some (eR a0), some (eI (a1)), none]) (s2 := [eI (-1)]) rfl rfl rfl ?_
      exact b_ri rfl rfl (K m8 (-1) I9 F11 (by decide))
    · have b3 : 0 ≤ a1 ∧ a1 ≤ 1 := by omega
      refine w_t (np := 11) (l2 := [some (eI (a1)), some (eI (0)), some (eI (1))]) (s2 := [eI (1)]) rfl rfl rfl ?_
      refine w_go (t1 := 15) rfl rfl ?_
      refine b_rz rfl rfl (Or.inr rfl) ?_
      show ex_q (dt_fg L ρ) rc (d + 1, (277, 7, [some (eR a0), some (eI (a1)), none], [eI (1), eR a0]), f :: F, μ)
      refine b_ieq (t1 := 14) (t2 := 10) rfl rfl rfl rfl (fun g3 => absurd g3 (by decide)) (fun g3 => ?_)
      refine w_t (np := 11) (l2 := [some (eR a0), some (eI (a1)), none]) (s2 := [eI (0), eR a0]) rfl rfl rfl ?_
      refine w_go (t1 := 15) rfl rfl ?_
      refine w_cw (np := 18) (as := [eI (0)]) (l2 := [some (eR a0), some (eI (0))]) (rest := []) rfl rfl rfl (Nat.ble_eq.mp rfl) rfl rfl rfl (hI.kd gA0 (by decide) (n := 69) rfl) rfl ?_
      refine w_t (np := 1) (l2 := [some (eR a0), some (eI (0))]) (s2 := [eR a0]) rfl (s_an rfl (pos_g hI gA0 (by decide))) rfl ?_
      refine w_t (np := 2) (l2 := [some (eR a0), some (eI (0))]) (s2 := [eI (0), eR a0]) rfl rfl rfl ?_
      refine j_pf (np := 5) (w := 0) rfl rfl hI gA0 (by decide) (n := 69) rfl rfl (hO_i (lo := -2147483648) (hi := 2147483647) rfl (by decide)) ?_
      intro m4 I5 W6
      have F7 : Fr l_277 0 0 g μ m4 := F0.w W6 gA0 rfl
      refine w_t (np := 6) (l2 := [some (eR a0), some (eI (0))]) (s2 := [eR a0]) rfl (s_an rfl (pos_g I5 gA0 (by decide))) rfl ?_
      refine w_t (np := 7) (l2 := [some (eR a0), some (eI (0))]) (s2 := [eI (0), eR a0]) rfl rfl rfl ?_
      refine j_pf (np := 10) (w := 0) rfl rfl I5 gA0 (by decide) (n := 69) rfl rfl (hO_i (lo := -2147483648) (hi := 2147483647) rfl (by decide)) ?_
      intro m8 I9 W10
      have F11 : Fr l_277 0 0 g μ m8 := F7.w W10 gA0 rfl
      refine w_t (np := 11) (l2 := [some (eR a0), some (eI (0))]) (s2 := [eI (0)]) rfl rfl rfl ?_
      refine b_ine (t1 := 18) (t2 := 14) rfl rfl rfl rfl (fun g12 => absurd g12 (by decide)) (fun g12 => ?_)
      refine w_t (np := 15) (l2 := [some (eR a0), some (eI (0))]) (s2 := [eI (1)]) rfl rfl rfl ?_
      refine w_go (t1 := 19) rfl rfl ?_
      refine b_rz rfl rfl (Or.inr rfl) ?_
      show ex_q (dt_fg L ρ) rc (d + 1, (277, 18, [some (eR a0), some (eI (a1)), none], [eI (1)]), f :: F, m8)
      refine b_ine (t1 := 23) (t2 := 21) rfl rfl rfl rfl (fun g13 => ?_) (fun g13 => absurd g13 (by decide))
      refine w_t (np := 24) (l2 := [some (eR a0), some (eI (a1)), none]) (s2 := [eR a0]) rfl (s_an rfl (pos_g I9 gA0 (by decide))) rfl ?_
      refine j_gr (np := 27) rfl rfl I9 gA0 (by decide) (n := 69) rfl rfl rfl ?_
      intro v14 e15 b16 z17
      have b16 : g v14 = 75 := Nat.eq_of_beq_eq_true b16
      refine w_t (np := 28) (l2 := [some (eR a0), some (eI (a1)), none]) (s2 := [eI (0), eR v14]) rfl rfl rfl ?_
      refine j_al (np := 29) rfl rfl I9 b16 (by decide) (n := 2) rfl rfl (lo := 0) (hi := 12) (fun _ => rfl) (by decide) (by decide) ?_
      intro v18 e19 b20
      refine w_t (np := 30) (l2 := [some (eR a0), some (eI (a1)), some (eI (v18))]) (s2 := []) rfl rfl rfl ?_
      refine w_t (np := 31) (l2 := [some (eR a0), some (eI (a1)), some (eI (v18))]) (s2 := [eR a0]) rfl (s_an rfl (pos_g I9 gA0 (by decide))) rfl ?_
      refine w_t (np := 32) (l2 := [some (eR a0), some (eI (a1)), some (eI (v18))]) (s2 := [eI (a1), eR a0]) rfl rfl rfl ?_
      refine j_pf (np := 35) (w := a1) rfl rfl I9 gA0 (by decide) (n := 69) rfl rfl (hO_i (lo := -1) (hi := 1) rfl (by omega)) ?_
      intro m21 I22 W23
      have F24 : Fr l_277 0 0 g μ m21 := F11.w W23 gA0 rfl
      refine w_t (np := 36) (l2 := [some (eR a0), some (eI (a1)), some (eI (v18))]) (s2 := [eR a0]) rfl (s_an rfl (pos_g I22 gA0 (by decide))) rfl ?_
      refine w_gf (np := 39) (v := eR v14) rfl rfl (I22.kd gA0 (by decide) (n := 69) rfl) (by rw [(W23.slot e15 (by decide))]; rfl) ?_
      refine w_t (np := 40) (l2 := [some (eR a0), some (eI (a1)), some (eI (v18))]) (s2 := [eI (0), eR v14]) rfl rfl rfl ?_
      refine w_t (np := 41) (l2 := [some (eR a0), some (eI (a1)), some (eI (v18))]) (s2 := [eI (0), eI (0), eR v14]) rfl rfl rfl ?_
      refine j_as (np := 42) rfl rfl I22 b16 (by decide) (n := 2) rfl rfl (lo := 0) (hi := 12) (fun _ => rfl) (by decide) (by decide) (by decide) ?_
      intro m25 I26 W27
      have F28 : Fr l_277 0 0 g μ m25 := F24.v W27 b16 rfl rfl
      refine w_t (np := 43) (l2 := [some (eR a0), some (eI (a1)), some (eI (v18))]) (s2 := [eI (v18)]) rfl rfl rfl ?_
      exact b_ri rfl rfl (K m25 (v18) I26 F28 (by omega))
def l_278 : List Nat := [13313, 13314, 19200, 18944]
theorem s_278 {L : Nat} {ρ : Nat → Int} {rc : eQ} {d : Nat} {f : eFr} {F : List eFr} {μ : eM} {g : Nat → Nat} {a0 : Nat} {a1 : Int} (hI : SI g μ) (gA0 : g a0 = 52) (bA1 : -2147483648 ≤ a1 ∧ a1 ≤ 2147483647) (K : ∀ (μ2 : eM) (v : Int), SI g μ2 → Fr l_278 0 0 g μ μ2 → (-2147483648 ≤ v ∧ v ≤ 2147483647) → ex_q (dt_fg L ρ) rc (d + 3, (f.1, f.2.1, f.2.2.1, eI v :: f.2.2.2), F, μ2)) : ex_q (dt_fg L ρ) rc (d + 2, (278, 0, [some (eR a0), some (eI (a1)), none], []), f :: F, μ) := by
  have F0 : Fr l_278 0 0 g μ μ := Fr.r
  refine w_t (np := 1) (l2 := [some (eR a0), some (eI (a1)), none]) (s2 := [eR a0]) rfl (s_an rfl (pos_g hI gA0 (by decide))) rfl ?_
  refine w_t (np := 2) (l2 := [some (eR a0), some (eI (a1)), none]) (s2 := [eR a0, eR a0]) rfl (s_an rfl (pos_g hI gA0 (by decide))) rfl ?_
  refine w_t (np := 3) (l2 := [some (eR a0), some (eI (a1)), none]) (s2 := [eI (a1), eR a0, eR a0]) rfl rfl rfl ?_
  refine w_cw (np := 6) (as := [eI (a1)]) (l2 := [some (eR a0), some (eI (a1))]) (rest := [eR a0]) rfl rfl rfl (Nat.ble_eq.mp rfl) rfl rfl rfl (hI.kd gA0 (by decide) (n := 69) rfl) rfl ?_
  refine w_t (np := 1) (l2 := [some (eR a0), some (eI (a1))]) (s2 := [eI (a1)]) rfl rfl rfl ?_
  refine w_t (np := 2) (l2 := [some (eR a0), some (eI (a1))]) (s2 := [eI (0), eI (a1)]) rfl rfl rfl ?_
  refine w_t (np := 3) (l2 := [some (eR a0), some (eI (a1))]) (s2 := [eR a0, eI (0), eI (a1)]) rfl (s_an rfl (pos_g hI gA0 (by decide))) rfl ?_
  refine j_gi (np := 6) rfl rfl rfl hI gA0 (by decide) (n := 69) rfl rfl (lo := 0) (hi := 890) rfl ?_
  intro v1 e2 b3
  refine w_t (np := 7) (l2 := [some (eR a0), some (eI (a1))]) (s2 := [eI (1), eI (v1), eI (0), eI (a1)]) rfl rfl rfl ?_
  obtain ⟨v4, e5⟩ : ∃ zz : Int, zz = (v1) - (1) := ⟨_, rfl⟩
  have b6 : -1 ≤ v4 ∧ v4 ≤ 889 := by omega
  refine w_t (np := 8) (l2 := [some (eR a0), some (eI (a1))]) (s2 := [eI (v4), eI (0), eI (a1)]) rfl (b_isub (by rw [← e5]; exact ev_w_in (by omega) (by omega))) rfl ?_
  refine w_cu (np := 11) (as := [eI (a1), eI (0), eI (v4)]) (l2 := [some (eI (a1)), some (eI (0)), some (eI (v4))]) (rest := []) rfl rfl rfl (Nat.ble_eq.mp rfl) rfl rfl rfl rfl ?_
  refine w_t (np := 1) (l2 := [some (eI (a1)), some (eI (0)), some (eI (v4))]) (s2 := [eI (a1)]) rfl rfl rfl ?_
  refine w_t (np := 2) (l2 := [some (eI (a1)), some (eI (0)), some (eI (v4))]) (s2 := [eI (0), eI (a1)]) rfl rfl rfl ?_
  refine b_clt (t1 := 14) (t2 := 5) rfl rfl rfl (ev_w_in (by omega) (by omega)) rfl (fun g7 => ?_) (fun g7 => ?_)
  · have b8 : -2147483648 ≤ a1 ∧ a1 ≤ -1 := by omega
    refine w_t (np := 15) (l2 := [some (eI (a1)), some (eI (0)), some (eI (v4))]) (s2 := [eI (0)]) rfl rfl rfl ?_
    refine b_rz rfl rfl (Or.inl rfl) ?_
    show ex_q (dt_fg L ρ) rc (d + 1, (243, 11, [some (eR a0), some (eI (a1))], [eI (0)]), (278, 6, [some (eR a0), some (eI (a1)), none], [eR a0]) :: f :: F, μ)
    refine b_rz rfl rfl (Or.inl rfl) ?_
    show ex_q (dt_fg L ρ) rc (d + 2, (278, 6, [some (eR a0), some (eI (a1)), none], [eI (0), eR a0]), f :: F, μ)
    refine b_ine (t1 := 13) (t2 := 9) rfl rfl rfl rfl (fun g8 => absurd g8 (by decide)) (fun g8 => ?_)
    refine w_t (np := 10) (l2 := [some (eR a0), some (eI (a1)), none]) (s2 := [eI (2), eR a0]) rfl rfl rfl ?_
    refine w_go (t1 := 65) rfl rfl ?_
    refine w_cw (np := 68) (as := [eI (2)]) (l2 := [some (eR a0), some (eI (2))]) (rest := []) rfl rfl rfl (Nat.ble_eq.mp rfl) rfl rfl rfl (hI.kd gA0 (by decide) (n := 69) rfl) rfl ?_
    refine w_t (np := 1) (l2 := [some (eR a0), some (eI (2))]) (s2 := [eR a0]) rfl (s_an rfl (pos_g hI gA0 (by decide))) rfl ?_
    refine w_t (np := 2) (l2 := [some (eR a0), some (eI (2))]) (s2 := [eI (0), eR a0]) rfl rfl rfl ?_
    refine j_pf (np := 5) (w := 0) rfl rfl hI gA0 (by decide) (n := 69) rfl rfl (hO_i (lo := -2147483648) (hi := 2147483647) rfl (by decide)) ?_
    intro m9 I10 W11
    have F12 : Fr l_278 0 0 g μ m9 := F0.w W11 gA0 rfl
    refine w_t (np := 6) (l2 := [some (eR a0), some (eI (2))]) (s2 := [eR a0]) rfl (s_an rfl (pos_g I10 gA0 (by decide))) rfl ?_
    refine w_t (np := 7) (l2 := [some (eR a0), some (eI (2))]) (s2 := [eI (2), eR a0]) rfl rfl rfl ?_
    refine j_pf (np := 10) (w := 2) rfl rfl I10 gA0 (by decide) (n := 69) rfl rfl (hO_i (lo := -2147483648) (hi := 2147483647) rfl (by decide)) ?_
    intro m13 I14 W15
    have F16 : Fr l_278 0 0 g μ m13 := F12.w W15 gA0 rfl
    refine w_t (np := 11) (l2 := [some (eR a0), some (eI (2))]) (s2 := [eI (2)]) rfl rfl rfl ?_
    refine b_ine (t1 := 18) (t2 := 14) rfl rfl rfl rfl (fun g17 => ?_) (fun g17 => absurd g17 (by decide))
    refine w_t (np := 19) (l2 := [some (eR a0), some (eI (2))]) (s2 := [eI (0)]) rfl rfl rfl ?_
    refine b_rz rfl rfl (Or.inl rfl) ?_
    show ex_q (dt_fg L ρ) rc (d + 2, (278, 68, [some (eR a0), some (eI (a1)), none], [eI (0)]), f :: F, m13)
    refine b_ine (t1 := 73) (t2 := 71) rfl rfl rfl rfl (fun g18 => absurd g18 (by decide)) (fun g18 => ?_)
    refine w_t (np := 72) (l2 := [some (eR a0), some (eI (a1)), none]) (s2 := [eI (-1)]) rfl rfl rfl ?_
    exact b_ri rfl rfl (K m13 (-1) I14 F16 (by decide))
  · have b8 : 0 ≤ a1 ∧ a1 ≤ 2147483647 := by omega
    refine w_t (np := 6) (l2 := [some (eI (a1)), some (eI (0)), some (eI (v4))]) (s2 := [eI (a1)]) rfl rfl rfl ?_
    refine w_t (np := 7) (l2 := [some (eI (a1)), some (eI (0)), some (eI (v4))]) (s2 := [eI (v4), eI (a1)]) rfl rfl rfl ?_
    refine b_cgt (t1 := 14) (t2 := 10) rfl rfl rfl (ev_w_in (by omega) (by omega)) (ev_w_in (by omega) (by omega)) (fun g8 => ?_) (fun g8 => ?_)
    · refine w_t (np := 15) (l2 := [some (eI (a1)), some (eI (0)), some (eI (v4))]) (s2 := [eI (0)]) rfl rfl rfl ?_
      refine b_rz rfl rfl (Or.inl rfl) ?_
      show ex_q (dt_fg L ρ) rc (d + 1, (243, 11, [some (eR a0), some (eI (a1))], [eI (0)]), (278, 6, [some (eR a0), some (eI (a1)), none], [eR a0]) :: f :: F, μ)
      refine b_rz rfl rfl (Or.inl rfl) ?_
      show ex_q (dt_fg L ρ) rc (d + 2, (278, 6, [some (eR a0), some (eI (a1)), none], [eI (0), eR a0]), f :: F, μ)
      refine b_ine (t1 := 13) (t2 := 9) rfl rfl rfl rfl (fun g9 => absurd g9 (by decide)) (fun g9 => ?_)
      refine w_t (np := 10) (l2 := [some (eR a0), some (eI (a1)), none]) (s2 := [eI (2), eR a0]) rfl rfl rfl ?_
      refine w_go (t1 := 65) rfl rfl ?_
      refine w_cw (np := 68) (as := [eI (2)]) (l2 := [some (eR a0), some (eI (2))]) (rest := []) rfl rfl rfl (Nat.ble_eq.mp rfl) rfl rfl rfl (hI.kd gA0 (by decide) (n := 69) rfl) rfl ?_
      refine w_t (np := 1) (l2 := [some (eR a0), some (eI (2))]) (s2 := [eR a0]) rfl (s_an rfl (pos_g hI gA0 (by decide))) rfl ?_
      refine w_t (np := 2) (l2 := [some (eR a0), some (eI (2))]) (s2 := [eI (0), eR a0]) rfl rfl rfl ?_
      refine j_pf (np := 5) (w := 0) rfl rfl hI gA0 (by decide) (n := 69) rfl rfl (hO_i (lo := -2147483648) (hi := 2147483647) rfl (by decide)) ?_
      intro m10 I11 W12
      have F13 : Fr l_278 0 0 g μ m10 := F0.w W12 gA0 rfl
      refine w_t (np := 6) (l2 := [some (eR a0), some (eI (2))]) (s2 := [eR a0]) rfl (s_an rfl (pos_g I11 gA0 (by decide))) rfl ?_
      refine w_t (np := 7) (l2 := [some (eR a0), some (eI (2))]) (s2 := [eI (2), eR a0]) rfl rfl rfl ?_
      refine j_pf (np := 10) (w := 2) rfl rfl I11 gA0 (by decide) (n := 69) rfl rfl (hO_i (lo := -2147483648) (hi := 2147483647) rfl (by decide)) ?_
      intro m14 I15 W16
      have F17 : Fr l_278 0 0 g μ m14 := F13.w W16 gA0 rfl
      refine w_t (np := 11) (l2 := [some (eR a0), some (eI (2))]) (s2 := [eI (2)]) rfl rfl rfl ?_
      refine b_ine (t1 := 18) (t2 := 14) rfl rfl rfl rfl (fun g18 => ?_) (fun g18 => absurd g18 (by decide))
      refine w_t (np := 19) (l2 := [some (eR a0), some (eI (2))]) (s2 := [eI (0)]) rfl rfl rfl ?_
      refine b_rz rfl rfl (Or.inl rfl) ?_
      show ex_q (dt_fg L ρ) rc (d + 2, (278, 68, [some (eR a0), some (eI (a1)), none], [eI (0)]), f :: F, m14)
      refine b_ine (t1 := 73) (t2 := 71) rfl rfl rfl rfl (fun g19 => absurd g19 (by decide)) (fun g19 => ?_)
      refine w_t (np := 72) (l2 := [some (eR a0), some (eI (a1)), none]) (s2 := [eI (-1)]) rfl rfl rfl ?_
      exact b_ri rfl rfl (K m14 (-1) I15 F17 (by decide))
    · have b9 : 0 ≤ a1 ∧ a1 ≤ 889 := by omega
      have b10 : 0 ≤ v4 ∧ v4 ≤ 889 := by omega
      refine w_t (np := 11) (l2 := [some (eI (a1)), some (eI (0)), some (eI (v4))]) (s2 := [eI (1)]) rfl rfl rfl ?_
      refine w_go (t1 := 15) rfl rfl ?_
      refine b_rz rfl rfl (Or.inr rfl) ?_
      show ex_q (dt_fg L ρ) rc (d + 1, (243, 11, [some (eR a0), some (eI (a1))], [eI (1)]), (278, 6, [some (eR a0), some (eI (a1)), none], [eR a0]) :: f :: F, μ)
      refine b_rz rfl rfl (Or.inr rfl) ?_
      show ex_q (dt_fg L ρ) rc (d + 2, (278, 6, [some (eR a0), some (eI (a1)), none], [eI (1), eR a0]), f :: F, μ)
      refine b_ine (t1 := 13) (t2 := 9) rfl rfl rfl rfl (fun g9 => ?_) (fun g9 => absurd g9 (by decide))
      refine w_t (np := 14) (l2 := [some (eR a0), some (eI (a1)), none]) (s2 := [eR a0, eR a0]) rfl (s_an rfl (pos_g hI gA0 (by decide))) rfl ?_
      refine j_gi (np := 17) rfl rfl rfl hI gA0 (by decide) (n := 69) rfl rfl (lo := -1) (hi := 1) rfl ?_
      intro v10 e11 b12
      refine b_ilt (t1 := 35) (t2 := 20) rfl rfl rfl (ev_w_in (by omega) (by omega)) (fun g13 => ?_) (fun g13 => ?_)
      · have b14 : -1 ≤ v10 ∧ v10 ≤ -1 := by omega
        refine w_t (np := 36) (l2 := [some (eR a0), some (eI (a1)), none]) (s2 := [eR a0, eR a0]) rfl (s_an rfl (pos_g hI gA0 (by decide))) rfl ?_
        refine w_gf (np := 39) (v := eI (v10)) rfl rfl (hI.kd gA0 (by decide) (n := 69) rfl) (by rw [e11]; rfl) ?_
        refine b_ige (t1 := 46) (t2 := 42) rfl rfl rfl (ev_w_in (by omega) (by omega)) (fun g14 => False.elim (by omega)) (fun g14 => ?_)
        refine w_t (np := 43) (l2 := [some (eR a0), some (eI (a1)), none]) (s2 := [eI (5), eR a0]) rfl rfl rfl ?_
        refine w_go (t1 := 65) rfl rfl ?_
        refine w_cw (np := 68) (as := [eI (5)]) (l2 := [some (eR a0), some (eI (5))]) (rest := []) rfl rfl rfl (Nat.ble_eq.mp rfl) rfl rfl rfl (hI.kd gA0 (by decide) (n := 69) rfl) rfl ?_
        refine w_t (np := 1) (l2 := [some (eR a0), some (eI (5))]) (s2 := [eR a0]) rfl (s_an rfl (pos_g hI gA0 (by decide))) rfl ?_
        refine w_t (np := 2) (l2 := [some (eR a0), some (eI (5))]) (s2 := [eI (0), eR a0]) rfl rfl rfl ?_
        refine j_pf (np := 5) (w := 0) rfl rfl hI gA0 (by decide) (n := 69) rfl rfl (hO_i (lo := -2147483648) (hi := 2147483647) rfl (by decide)) ?_
        intro m15 I16 W17
        have F18 : Fr l_278 0 0 g μ m15 := F0.w W17 gA0 rfl
        refine w_t (np := 6) (l2 := [some (eR a0), some (eI (5))]) (s2 := [eR a0]) rfl (s_an rfl (pos_g I16 gA0 (by decide))) rfl ?_
        refine w_t (np := 7) (l2 := [some (eR a0), some (eI (5))]) (s2 := [eI (5), eR a0]) rfl rfl rfl ?_
        refine j_pf (np := 10) (w := 5) rfl rfl I16 gA0 (by decide) (n := 69) rfl rfl (hO_i (lo := -2147483648) (hi := 2147483647) rfl (by decide)) ?_
        intro m19 I20 W21
        have F22 : Fr l_278 0 0 g μ m19 := F18.w W21 gA0 rfl
        refine w_t (np := 11) (l2 := [some (eR a0), some (eI (5))]) (s2 := [eI (5)]) rfl rfl rfl ?_
        refine b_ine (t1 := 18) (t2 := 14) rfl rfl rfl rfl (fun g23 => ?_) (fun g23 => absurd g23 (by decide))
        refine w_t (np := 19) (l2 := [some (eR a0), some (eI (5))]) (s2 := [eI (0)]) rfl rfl rfl ?_
        refine b_rz rfl rfl (Or.inl rfl) ?_
        show ex_q (dt_fg L ρ) rc (d + 2, (278, 68, [some (eR a0), some (eI (a1)), none], [eI (0)]), f :: F, m19)
        refine b_ine (t1 := 73) (t2 := 71) rfl rfl rfl rfl (fun g24 => absurd g24 (by decide)) (fun g24 => ?_)
        refine w_t (np := 72) (l2 := [some (eR a0), some (eI (a1)), none]) (s2 := [eI (-1)]) rfl rfl rfl ?_
        exact b_ri rfl rfl (K m19 (-1) I20 F22 (by decide))
      · have b14 : 0 ≤ v10 ∧ v10 ≤ 1 := by omega
        refine w_t (np := 21) (l2 := [some (eR a0), some (eI (a1)), none]) (s2 := [eR a0, eR a0]) rfl (s_an rfl (pos_g hI gA0 (by decide))) rfl ?_
        refine j_gr (np := 24) rfl rfl hI gA0 (by decide) (n := 69) rfl rfl rfl ?_
        intro v14 e15 b16 z17
        have b16 : g v14 = 75 := Nat.eq_of_beq_eq_true b16
        refine w_t (np := 25) (l2 := [some (eR a0), some (eI (a1)), none]) (s2 := [eI (0), eR v14, eR a0]) rfl rfl rfl ?_
        refine j_al (np := 26) rfl rfl hI b16 (by decide) (n := 2) rfl rfl (lo := 0) (hi := 12) (fun _ => rfl) (by decide) (by decide) ?_
        intro v18 e19 b20
        refine w_t (np := 28) (l2 := [some (eR a0), some (eI (a1)), none]) (s2 := [eI (12), eI (v18), eR a0]) rfl rfl rfl ?_
        refine b_cne (t1 := 35) (t2 := 31) rfl rfl rfl (ev_w_in (by omega) (by omega)) rfl (fun g21 => ?_) (fun g21 => ?_)
        · have b22 : 0 ≤ v18 ∧ v18 ≤ 11 := by omega
          refine w_t (np := 36) (l2 := [some (eR a0), some (eI (a1)), none]) (s2 := [eR a0, eR a0]) rfl (s_an rfl (pos_g hI gA0 (by decide))) rfl ?_
          refine w_gf (np := 39) (v := eI (v10)) rfl rfl (hI.kd gA0 (by decide) (n := 69) rfl) (by rw [e11]; rfl) ?_
          refine b_ige (t1 := 46) (t2 := 42) rfl rfl rfl (ev_w_in (by omega) (by omega)) (fun g22 => ?_) (fun g22 => False.elim (by omega))
          refine w_t (np := 47) (l2 := [some (eR a0), some (eI (a1)), none]) (s2 := [eR a0, eR a0]) rfl (s_an rfl (pos_g hI gA0 (by decide))) rfl ?_
          refine j_gr (np := 50) rfl rfl hI gA0 (by decide) (n := 69) rfl rfl rfl ?_
          intro v23 e24 b25 z26
          have b25 : g v23 = 56 := Nat.eq_of_beq_eq_true b25
          refine w_t (np := 51) (l2 := [some (eR a0), some (eI (a1)), none]) (s2 := [eI (a1), eR v23, eR a0]) rfl rfl rfl ?_
          refine j_al (np := 52) rfl rfl hI b25 (by decide) (n := 890) rfl rfl (lo := 0) (hi := 1) (fun _ => rfl) (by omega) (by omega) ?_
          intro v27 e28 b29
          refine w_t (np := 53) (l2 := [some (eR a0), some (eI (a1)), none]) (s2 := [eR a0, eI (v27), eR a0]) rfl (s_an rfl (pos_g hI gA0 (by decide))) rfl ?_
          refine w_gf (np := 56) (v := eI (v10)) rfl rfl (hI.kd gA0 (by decide) (n := 69) rfl) (by rw [e11]; rfl) ?_
          refine b_ceq (t1 := 64) (t2 := 59) rfl rfl rfl (ev_w_in (by omega) (by omega)) (ev_w_in (by omega) (by omega)) (fun g30 => ?_) (fun g30 => ?_)
          · refine w_t (np := 65) (l2 := [some (eR a0), some (eI (a1)), none]) (s2 := [eI (0), eR a0]) rfl rfl rfl ?_
            refine w_cw (np := 68) (as := [eI (0)]) (l2 := [some (eR a0), some (eI (0))]) (rest := []) rfl rfl rfl (Nat.ble_eq.mp rfl) rfl rfl rfl (hI.kd gA0 (by decide) (n := 69) rfl) rfl ?_
            refine w_t (np := 1) (l2 := [some (eR a0), some (eI (0))]) (s2 := [eR a0]) rfl (s_an rfl (pos_g hI gA0 (by decide))) rfl ?_
            refine w_t (np := 2) (l2 := [some (eR a0), some (eI (0))]) (s2 := [eI (0), eR a0]) rfl rfl rfl ?_
            refine j_pf (np := 5) (w := 0) rfl rfl hI gA0 (by decide) (n := 69) rfl rfl (hO_i (lo := -2147483648) (hi := 2147483647) rfl (by decide)) ?_
            intro m31 I32 W33
            have F34 : Fr l_278 0 0 g μ m31 := F0.w W33 gA0 rfl
            refine w_t (np := 6) (l2 := [some (eR a0), some (eI (0))]) (s2 := [eR a0]) rfl (s_an rfl (pos_g I32 gA0 (by decide))) rfl ?_
            refine w_t (np := 7) (l2 := [some (eR a0), some (eI (0))]) (s2 := [eI (0), eR a0]) rfl rfl rfl ?_
            refine j_pf (np := 10) (w := 0) rfl rfl I32 gA0 (by decide) (n := 69) rfl rfl (hO_i (lo := -2147483648) (hi := 2147483647) rfl (by decide)) ?_
            intro m35 I36 W37
            have F38 : Fr l_278 0 0 g μ m35 := F34.w W37 gA0 rfl
            refine w_t (np := 11) (l2 := [some (eR a0), some (eI (0))]) (s2 := [eI (0)]) rfl rfl rfl ?_
            refine b_ine (t1 := 18) (t2 := 14) rfl rfl rfl rfl (fun g39 => absurd g39 (by decide)) (fun g39 => ?_)
            refine w_t (np := 15) (l2 := [some (eR a0), some (eI (0))]) (s2 := [eI (1)]) rfl rfl rfl ?_
            refine w_go (t1 := 19) rfl rfl ?_
            refine b_rz rfl rfl (Or.inr rfl) ?_
            show ex_q (dt_fg L ρ) rc (d + 2, (278, 68, [some (eR a0), some (eI (a1)), none], [eI (1)]), f :: F, m35)
            refine b_ine (t1 := 73) (t2 := 71) rfl rfl rfl rfl (fun g40 => ?_) (fun g40 => absurd g40 (by decide))
            refine w_t (np := 74) (l2 := [some (eR a0), some (eI (a1)), none]) (s2 := [eI (0)]) rfl rfl rfl ?_
            refine w_t (np := 75) (l2 := [some (eR a0), some (eI (a1)), some (eI (0))]) (s2 := []) rfl rfl rfl ?_
            have hL75 : ∀ (n41 : Nat) (m45 : eM) (i43 : Int), SI g m45 → Fr l_278 0 0 g μ m45 → (0 ≤ i43 ∧ i43 ≤ 4) → m45.1 a0 8 = v1 → m45.1 a0 38 = v10 → m45.1 a0 37 = ((v14 : Nat) : Int) → m45.1 v14 0 = v18 → m45.1 a0 12 = ((v23 : Nat) : Int) → m45.1 v23 (a1).toNat = v27 → m45.1 a0 1 = 0 → m45.1 a0 0 = 0 → n41 = (4 - i43).toNat → ex_q (dt_fg L ρ) rc (d + 2, (278, 75, [some (eR a0), some (eI (a1)), some (eI (i43))], []), f :: F, m45) := by
              intro n41
              induction n41 using Nat.strongRecOn with
              | _ n41 ih42 =>
              intro m45 i43 I46 F47 b44 k48 k49 k50 k51 k52 k53 k54 k55 hn56
              refine w_t (np := 76) (l2 := [some (eR a0), some (eI (a1)), some (eI (i43))]) (s2 := [eI (i43)]) rfl rfl rfl ?_
              refine w_t (np := 77) (l2 := [some (eR a0), some (eI (a1)), some (eI (i43))]) (s2 := [eI (4), eI (i43)]) rfl rfl rfl ?_
              refine b_cge (t1 := 112) (t2 := 80) rfl rfl rfl (ev_w_in (by omega) (by omega)) rfl (fun g57 => ?_) (fun g57 => ?_)
              · have b58 : 4 ≤ i43 ∧ i43 ≤ 4 := by omega
                refine w_t (np := 113) (l2 := [some (eR a0), some (eI (a1)), some (eI (i43))]) (s2 := [eR a0]) rfl (s_an rfl (pos_g I46 gA0 (by decide))) rfl ?_
                refine w_gf (np := 116) (v := eR v14) rfl rfl (I46.kd gA0 (by decide) (n := 69) rfl) (by rw [k50]; rfl) ?_
                refine w_t (np := 117) (l2 := [some (eR a0), some (eI (a1)), some (eI (i43))]) (s2 := [eI (0), eR v14]) rfl rfl rfl ?_
                refine w_t (np := 118) (l2 := [some (eR a0), some (eI (a1)), some (eI (i43))]) (s2 := [eI (0), eR v14, eI (0), eR v14]) rfl rfl rfl ?_
                refine j_al (np := 119) rfl rfl I46 b16 (by decide) (n := 2) rfl rfl (lo := 0) (hi := 12) (fun _ => rfl) (by decide) (by decide) ?_
                intro v58 e59 b60
                have e59 := e59.symm.trans k51
                rw [e59]
                refine w_t (np := 120) (l2 := [some (eR a0), some (eI (a1)), some (eI (i43))]) (s2 := [eI (1), eI (v18), eI (0), eR v14]) rfl rfl rfl ?_
                obtain ⟨v61, e62⟩ : ∃ zz : Int, zz = (v18) + (1) := ⟨_, rfl⟩
                have b63 : 1 ≤ v61 ∧ v61 ≤ 12 := by omega
                refine w_t (np := 121) (l2 := [some (eR a0), some (eI (a1)), some (eI (i43))]) (s2 := [eI (v61), eI (0), eR v14]) rfl (b_iadd (by rw [← e62]; exact ev_w_in (by omega) (by omega))) rfl ?_
                refine j_as (np := 122) rfl rfl I46 b16 (by decide) (n := 2) rfl rfl (lo := 0) (hi := 12) (fun _ => rfl) (by decide) (by decide) (by omega) ?_
                intro m64 I65 W66
                have F67 : Fr l_278 0 0 g μ m64 := F47.v W66 b16 rfl rfl
                refine w_t (np := 123) (l2 := [some (eR a0), some (eI (a1)), some (eI (i43))]) (s2 := [eR a0]) rfl (s_an rfl (pos_g I65 gA0 (by decide))) rfl ?_
                refine w_gf (np := 126) (v := eR v14) rfl rfl (I65.kd gA0 (by decide) (n := 69) rfl) (by rw [(W66.addr k50 b16 gA0 (by decide))]; rfl) ?_
                refine w_t (np := 127) (l2 := [some (eR a0), some (eI (a1)), some (eI (i43))]) (s2 := [eI (0), eR v14]) rfl rfl rfl ?_
                refine j_al (np := 128) rfl rfl I65 b16 (by decide) (n := 2) rfl rfl (lo := 0) (hi := 12) (fun _ => rfl) (by decide) (by decide) ?_
                intro v68 e69 b70
                have e69 := e69.symm.trans W66.at
                rw [e69]
                exact b_ri rfl rfl (K m64 (v61) I65 F67 (by omega))
              · have b58 : 0 ≤ i43 ∧ i43 ≤ 3 := by omega
                refine w_t (np := 81) (l2 := [some (eR a0), some (eI (a1)), some (eI (i43))]) (s2 := [eR a0]) rfl (s_an rfl (pos_g I46 gA0 (by decide))) rfl ?_
                refine j_gr (np := 84) rfl rfl I46 gA0 (by decide) (n := 69) rfl rfl rfl ?_
                intro v58 e59 b60 z61
                have b60 : g v58 = 74 := Nat.eq_of_beq_eq_true b60
                refine w_t (np := 85) (l2 := [some (eR a0), some (eI (a1)), some (eI (i43))]) (s2 := [eI (4), eR v58]) rfl rfl rfl ?_
                refine w_t (np := 86) (l2 := [some (eR a0), some (eI (a1)), some (eI (i43))]) (s2 := [eR a0, eI (4), eR v58]) rfl (s_an rfl (pos_g I46 gA0 (by decide))) rfl ?_
                refine w_gf (np := 89) (v := eR v14) rfl rfl (I46.kd gA0 (by decide) (n := 69) rfl) (by rw [k50]; rfl) ?_
                refine w_t (np := 90) (l2 := [some (eR a0), some (eI (a1)), some (eI (i43))]) (s2 := [eI (0), eR v14, eI (4), eR v58]) rfl rfl rfl ?_
                refine j_al (np := 91) rfl rfl I46 b16 (by decide) (n := 2) rfl rfl (lo := 0) (hi := 12) (fun _ => rfl) (by decide) (by decide) ?_
                intro v62 e63 b64
                have e63 := e63.symm.trans k51
                rw [e63]
                obtain ⟨v65, e66⟩ : ∃ zz : Int, zz = (4) * (v18) := ⟨_, rfl⟩
                have b67 : 0 ≤ v65 ∧ v65 ≤ 44 := by omega
                refine w_t (np := 92) (l2 := [some (eR a0), some (eI (a1)), some (eI (i43))]) (s2 := [eI (v65), eR v58]) rfl (b_imul (by rw [← e66]; exact ev_w_in (by omega) (by omega))) rfl ?_
                refine w_t (np := 93) (l2 := [some (eR a0), some (eI (a1)), some (eI (i43))]) (s2 := [eI (i43), eI (v65), eR v58]) rfl rfl rfl ?_
                obtain ⟨v68, e69⟩ : ∃ zz : Int, zz = (v65) + (i43) := ⟨_, rfl⟩
                have b70 : 0 ≤ v68 ∧ v68 ≤ 47 := by omega
                refine w_t (np := 94) (l2 := [some (eR a0), some (eI (a1)), some (eI (i43))]) (s2 := [eI (v68), eR v58]) rfl (b_iadd (by rw [← e69]; exact ev_w_in (by omega) (by omega))) rfl ?_
                refine w_t (np := 95) (l2 := [some (eR a0), some (eI (a1)), some (eI (i43))]) (s2 := [eR a0, eI (v68), eR v58]) rfl (s_an rfl (pos_g I46 gA0 (by decide))) rfl ?_
                refine j_gr (np := 98) rfl rfl I46 gA0 (by decide) (n := 69) rfl rfl rfl ?_
                intro v71 e72 b73 z74
                have b73 : g v71 = 54 := Nat.eq_of_beq_eq_true b73
                refine w_t (np := 100) (l2 := [some (eR a0), some (eI (a1)), some (eI (i43))]) (s2 := [eI (12), eR v71, eI (v68), eR v58]) rfl rfl rfl ?_
                refine w_t (np := 101) (l2 := [some (eR a0), some (eI (a1)), some (eI (i43))]) (s2 := [eI (a1), eI (12), eR v71, eI (v68), eR v58]) rfl rfl rfl ?_
                obtain ⟨v75, e76⟩ : ∃ zz : Int, zz = (12) * (a1) := ⟨_, rfl⟩
                have b77 : 0 ≤ v75 ∧ v75 ≤ 10668 := by omega
                refine w_t (np := 102) (l2 := [some (eR a0), some (eI (a1)), some (eI (i43))]) (s2 := [eI (v75), eR v71, eI (v68), eR v58]) rfl (b_imul (by rw [← e76]; exact ev_w_in (by omega) (by omega))) rfl ?_
                refine w_t (np := 103) (l2 := [some (eR a0), some (eI (a1)), some (eI (i43))]) (s2 := [eI (i43), eI (v75), eR v71, eI (v68), eR v58]) rfl rfl rfl ?_
                obtain ⟨v78, e79⟩ : ∃ zz : Int, zz = (v75) + (i43) := ⟨_, rfl⟩
                have b80 : 0 ≤ v78 ∧ v78 ≤ 10671 := by omega
                refine w_t (np := 104) (l2 := [some (eR a0), some (eI (a1)), some (eI (i43))]) (s2 := [eI (v78), eR v71, eI (v68), eR v58]) rfl (b_iadd (by rw [← e79]; exact ev_w_in (by omega) (by omega))) rfl ?_
                refine j_al (np := 105) rfl rfl I46 b73 (by decide) (n := 10680) rfl rfl (lo := -2147483648) (hi := 2147483647) (fun _ => rfl) (by omega) (by omega) ?_
                intro v81 e82 b83
                refine j_as (np := 106) rfl rfl I46 b60 (by decide) (n := 96) rfl rfl (lo := -2147483648) (hi := 2147483647) (fun _ => rfl) (by omega) (by omega) (by omega) ?_
                intro m84 I85 W86
                have F87 : Fr l_278 0 0 g μ m84 := F47.v W86 b60 rfl rfl
                obtain ⟨v88, e89⟩ : ∃ zz : Int, zz = (i43) + (1) := ⟨_, rfl⟩
                have b90 : 1 ≤ v88 ∧ v88 ≤ 4 := by omega
                refine w_t (np := 109) (l2 := [some (eR a0), some (eI (a1)), some (eI (v88))]) (s2 := []) rfl (b_iinc rfl (by rw [← e89]; exact ev_w_in (by omega) (by omega)) rfl) rfl ?_
                refine w_go (t1 := 75) rfl rfl ?_
                exact ih42 (4 - (v88)).toNat (by omega) m84 (v88) I85 F87 (by omega) (W86.addr k48 b60 gA0 (by decide)) (W86.addr k49 b60 gA0 (by decide)) (W86.addr k50 b60 gA0 (by decide)) (W86.addr k51 b60 b16 (by decide)) (W86.addr k52 b60 gA0 (by decide)) (W86.addr k53 b60 b25 (by decide)) (W86.addr k54 b60 gA0 (by decide)) (W86.addr k55 b60 gA0 (by decide))    rfl
            exact hL75 _ m35 (0) I36 F38 (by decide) (W37.slot (W33.slot e2 (by decide)) (by decide)) (W37.slot (W33.slot e11 (by decide)) (by decide)) (W37.slot (W33.slot e15 (by decide)) (by decide)) (W37.addr (W33.addr e19 gA0 b16 (by decide)) gA0 b16 (by decide)) (W37.slot (W33.slot e24 (by decide)) (by decide)) (W37.addr (W33.addr e28 gA0 b25 (by decide)) gA0 b25 (by decide)) (W37.slot W33.at (by decide)) W37.at    rfl
          · refine w_t (np := 61) (l2 := [some (eR a0), some (eI (a1)), none]) (s2 := [eI (6), eR a0]) rfl rfl rfl ?_
            refine w_go (t1 := 65) rfl rfl ?_
            refine w_cw (np := 68) (as := [eI (6)]) (l2 := [some (eR a0), some (eI (6))]) (rest := []) rfl rfl rfl (Nat.ble_eq.mp rfl) rfl rfl rfl (hI.kd gA0 (by decide) (n := 69) rfl) rfl ?_
            refine w_t (np := 1) (l2 := [some (eR a0), some (eI (6))]) (s2 := [eR a0]) rfl (s_an rfl (pos_g hI gA0 (by decide))) rfl ?_
            refine w_t (np := 2) (l2 := [some (eR a0), some (eI (6))]) (s2 := [eI (0), eR a0]) rfl rfl rfl ?_
            refine j_pf (np := 5) (w := 0) rfl rfl hI gA0 (by decide) (n := 69) rfl rfl (hO_i (lo := -2147483648) (hi := 2147483647) rfl (by decide)) ?_
            intro m31 I32 W33
            have F34 : Fr l_278 0 0 g μ m31 := F0.w W33 gA0 rfl
            refine w_t (np := 6) (l2 := [some (eR a0), some (eI (6))]) (s2 := [eR a0]) rfl (s_an rfl (pos_g I32 gA0 (by decide))) rfl ?_
            refine w_t (np := 7) (l2 := [some (eR a0), some (eI (6))]) (s2 := [eI (6), eR a0]) rfl rfl rfl ?_
            refine j_pf (np := 10) (w := 6) rfl rfl I32 gA0 (by decide) (n := 69) rfl rfl (hO_i (lo := -2147483648) (hi := 2147483647) rfl (by decide)) ?_
            intro m35 I36 W37
            have F38 : Fr l_278 0 0 g μ m35 := F34.w W37 gA0 rfl
            refine w_t (np := 11) (l2 := [some (eR a0), some (eI (6))]) (s2 := [eI (6)]) rfl rfl rfl ?_
            refine b_ine (t1 := 18) (t2 := 14) rfl rfl rfl rfl (fun g39 => ?_) (fun g39 => absurd g39 (by decide))
            refine w_t (np := 19) (l2 := [some (eR a0), some (eI (6))]) (s2 := [eI (0)]) rfl rfl rfl ?_
            refine b_rz rfl rfl (Or.inl rfl) ?_
            show ex_q (dt_fg L ρ) rc (d + 2, (278, 68, [some (eR a0), some (eI (a1)), none], [eI (0)]), f :: F, m35)
            refine b_ine (t1 := 73) (t2 := 71) rfl rfl rfl rfl (fun g40 => absurd g40 (by decide)) (fun g40 => ?_)
            refine w_t (np := 72) (l2 := [some (eR a0), some (eI (a1)), none]) (s2 := [eI (-1)]) rfl rfl rfl ?_
            exact b_ri rfl rfl (K m35 (-1) I36 F38 (by decide))
        · have b22 : 12 ≤ v18 ∧ v18 ≤ 12 := by omega
          refine w_t (np := 32) (l2 := [some (eR a0), some (eI (a1)), none]) (s2 := [eI (3), eR a0]) rfl rfl rfl ?_
          refine w_go (t1 := 65) rfl rfl ?_
          refine w_cw (np := 68) (as := [eI (3)]) (l2 := [some (eR a0), some (eI (3))]) (rest := []) rfl rfl rfl (Nat.ble_eq.mp rfl) rfl rfl rfl (hI.kd gA0 (by decide) (n := 69) rfl) rfl ?_
          refine w_t (np := 1) (l2 := [some (eR a0), some (eI (3))]) (s2 := [eR a0]) rfl (s_an rfl (pos_g hI gA0 (by decide))) rfl ?_
          refine w_t (np := 2) (l2 := [some (eR a0), some (eI (3))]) (s2 := [eI (0), eR a0]) rfl rfl rfl ?_
          refine j_pf (np := 5) (w := 0) rfl rfl hI gA0 (by decide) (n := 69) rfl rfl (hO_i (lo := -2147483648) (hi := 2147483647) rfl (by decide)) ?_
          intro m22 I23 W24
          have F25 : Fr l_278 0 0 g μ m22 := F0.w W24 gA0 rfl
          refine w_t (np := 6) (l2 := [some (eR a0), some (eI (3))]) (s2 := [eR a0]) rfl (s_an rfl (pos_g I23 gA0 (by decide))) rfl ?_
          refine w_t (np := 7) (l2 := [some (eR a0), some (eI (3))]) (s2 := [eI (3), eR a0]) rfl rfl rfl ?_
          refine j_pf (np := 10) (w := 3) rfl rfl I23 gA0 (by decide) (n := 69) rfl rfl (hO_i (lo := -2147483648) (hi := 2147483647) rfl (by decide)) ?_
          intro m26 I27 W28
          have F29 : Fr l_278 0 0 g μ m26 := F25.w W28 gA0 rfl
          refine w_t (np := 11) (l2 := [some (eR a0), some (eI (3))]) (s2 := [eI (3)]) rfl rfl rfl ?_
          refine b_ine (t1 := 18) (t2 := 14) rfl rfl rfl rfl (fun g30 => ?_) (fun g30 => absurd g30 (by decide))
          refine w_t (np := 19) (l2 := [some (eR a0), some (eI (3))]) (s2 := [eI (0)]) rfl rfl rfl ?_
          refine b_rz rfl rfl (Or.inl rfl) ?_
          show ex_q (dt_fg L ρ) rc (d + 2, (278, 68, [some (eR a0), some (eI (a1)), none], [eI (0)]), f :: F, m26)
          refine b_ine (t1 := 73) (t2 := 71) rfl rfl rfl rfl (fun g31 => absurd g31 (by decide)) (fun g31 => ?_)
          refine w_t (np := 72) (l2 := [some (eR a0), some (eI (a1)), none]) (s2 := [eI (-1)]) rfl rfl rfl ?_
          exact b_ri rfl rfl (K m26 (-1) I27 F29 (by decide))
def l_279 : List Nat := [13313, 13314, 19200, 18944]
theorem s_279 {L : Nat} {ρ : Nat → Int} {rc : eQ} {d : Nat} {f : eFr} {F : List eFr} {μ : eM} {g : Nat → Nat} {a0 : Nat} (hI : SI g μ) (gA0 : g a0 = 52) (K : ∀ (μ2 : eM) (v : Int), SI g μ2 → Fr l_279 0 0 g μ μ2 → (-2147483648 ≤ v ∧ v ≤ 2147483647) → ex_q (dt_fg L ρ) rc (d + 2, (f.1, f.2.1, f.2.2.1, eI v :: f.2.2.2), F, μ2)) : ex_q (dt_fg L ρ) rc (d + 1, (279, 0, [some (eR a0), none], []), f :: F, μ) := by
  have F0 : Fr l_279 0 0 g μ μ := Fr.r
  refine w_t (np := 1) (l2 := [some (eR a0), none]) (s2 := [eR a0]) rfl (s_an rfl (pos_g hI gA0 (by decide))) rfl ?_
  refine w_t (np := 2) (l2 := [some (eR a0), none]) (s2 := [eR a0, eR a0]) rfl (s_an rfl (pos_g hI gA0 (by decide))) rfl ?_
  refine j_gi (np := 5) rfl rfl rfl hI gA0 (by decide) (n := 69) rfl rfl (lo := -1) (hi := 1) rfl ?_
  intro v1 e2 b3
  refine b_ige (t1 := 12) (t2 := 8) rfl rfl rfl (ev_w_in (by omega) (by omega)) (fun g4 => ?_) (fun g4 => ?_)
  · have b5 : 0 ≤ v1 ∧ v1 ≤ 1 := by omega
    refine w_t (np := 13) (l2 := [some (eR a0), none]) (s2 := [eI (0), eR a0]) rfl rfl rfl ?_
    refine w_cw (np := 16) (as := [eI (0)]) (l2 := [some (eR a0), some (eI (0))]) (rest := []) rfl rfl rfl (Nat.ble_eq.mp rfl) rfl rfl rfl (hI.kd gA0 (by decide) (n := 69) rfl) rfl ?_
    refine w_t (np := 1) (l2 := [some (eR a0), some (eI (0))]) (s2 := [eR a0]) rfl (s_an rfl (pos_g hI gA0 (by decide))) rfl ?_
    refine w_t (np := 2) (l2 := [some (eR a0), some (eI (0))]) (s2 := [eI (0), eR a0]) rfl rfl rfl ?_
    refine j_pf (np := 5) (w := 0) rfl rfl hI gA0 (by decide) (n := 69) rfl rfl (hO_i (lo := -2147483648) (hi := 2147483647) rfl (by decide)) ?_
    intro m5 I6 W7
    have F8 : Fr l_279 0 0 g μ m5 := F0.w W7 gA0 rfl
    refine w_t (np := 6) (l2 := [some (eR a0), some (eI (0))]) (s2 := [eR a0]) rfl (s_an rfl (pos_g I6 gA0 (by decide))) rfl ?_
    refine w_t (np := 7) (l2 := [some (eR a0), some (eI (0))]) (s2 := [eI (0), eR a0]) rfl rfl rfl ?_
    refine j_pf (np := 10) (w := 0) rfl rfl I6 gA0 (by decide) (n := 69) rfl rfl (hO_i (lo := -2147483648) (hi := 2147483647) rfl (by decide)) ?_
    intro m9 I10 W11
    have F12 : Fr l_279 0 0 g μ m9 := F8.w W11 gA0 rfl
    refine w_t (np := 11) (l2 := [some (eR a0), some (eI (0))]) (s2 := [eI (0)]) rfl rfl rfl ?_
    refine b_ine (t1 := 18) (t2 := 14) rfl rfl rfl rfl (fun g13 => absurd g13 (by decide)) (fun g13 => ?_)
    refine w_t (np := 15) (l2 := [some (eR a0), some (eI (0))]) (s2 := [eI (1)]) rfl rfl rfl ?_
    refine w_go (t1 := 19) rfl rfl ?_
    refine b_rz rfl rfl (Or.inr rfl) ?_
    show ex_q (dt_fg L ρ) rc (d + 1, (279, 16, [some (eR a0), none], [eI (1)]), f :: F, m9)
    refine b_ine (t1 := 21) (t2 := 19) rfl rfl rfl rfl (fun g14 => ?_) (fun g14 => absurd g14 (by decide))
    refine w_t (np := 22) (l2 := [some (eR a0), none]) (s2 := [eI (0)]) rfl rfl rfl ?_
    refine w_t (np := 23) (l2 := [some (eR a0), some (eI (0))]) (s2 := []) rfl rfl rfl ?_
    have hL23 : ∀ (n15 : Nat) (m19 : eM) (i17 : Int), SI g m19 → Fr l_279 0 0 g μ m19 → (0 ≤ i17 ∧ i17 ≤ 64) → m19.1 a0 38 = v1 → m19.1 a0 1 = 0 → m19.1 a0 0 = 0 → n15 = (64 - i17).toNat → ex_q (dt_fg L ρ) rc (d + 1, (279, 23, [some (eR a0), some (eI (i17))], []), f :: F, m19) := by
      intro n15
      induction n15 using Nat.strongRecOn with
      | _ n15 ih16 =>
      intro m19 i17 I20 F21 b18 k22 k23 k24 hn25
      refine w_t (np := 24) (l2 := [some (eR a0), some (eI (i17))]) (s2 := [eI (i17)]) rfl rfl rfl ?_
      refine w_t (np := 25) (l2 := [some (eR a0), some (eI (i17))]) (s2 := [eI (4), eI (i17)]) rfl rfl rfl ?_
      refine w_t (np := 26) (l2 := [some (eR a0), some (eI (i17))]) (s2 := [eR a0, eI (4), eI (i17)]) rfl (s_an rfl (pos_g I20 gA0 (by decide))) rfl ?_
      refine j_gr (np := 29) rfl rfl I20 gA0 (by decide) (n := 69) rfl rfl rfl ?_
      intro v26 e27 b28 z29
      have b28 : g v26 = 75 := Nat.eq_of_beq_eq_true b28
      refine w_t (np := 30) (l2 := [some (eR a0), some (eI (i17))]) (s2 := [eI (0), eR v26, eI (4), eI (i17)]) rfl rfl rfl ?_
      refine j_al (np := 31) rfl rfl I20 b28 (by decide) (n := 2) rfl rfl (lo := 0) (hi := 12) (fun _ => rfl) (by decide) (by decide) ?_
      intro v30 e31 b32
      obtain ⟨v33, e34⟩ : ∃ zz : Int, zz = (4) * (v30) := ⟨_, rfl⟩
      have b35 : 0 ≤ v33 ∧ v33 ≤ 48 := by omega
      refine w_t (np := 32) (l2 := [some (eR a0), some (eI (i17))]) (s2 := [eI (v33), eI (i17)]) rfl (b_imul (by rw [← e34]; exact ev_w_in (by omega) (by omega))) rfl ?_
      refine b_cge (t1 := 56) (t2 := 35) rfl rfl rfl (ev_w_in (by omega) (by omega)) (ev_w_in (by omega) (by omega)) (fun g36 => ?_) (fun g36 => ?_)
      · refine w_t (np := 57) (l2 := [some (eR a0), some (eI (i17))]) (s2 := [eR a0]) rfl (s_an rfl (pos_g I20 gA0 (by decide))) rfl ?_
        refine w_gf (np := 60) (v := eR v26) rfl rfl (I20.kd gA0 (by decide) (n := 69) rfl) (by rw [e27]; rfl) ?_
        refine w_t (np := 61) (l2 := [some (eR a0), some (eI (i17))]) (s2 := [eI (1), eR v26]) rfl rfl rfl ?_
        refine w_t (np := 62) (l2 := [some (eR a0), some (eI (i17))]) (s2 := [eR a0, eI (1), eR v26]) rfl (s_an rfl (pos_g I20 gA0 (by decide))) rfl ?_
        refine w_gf (np := 65) (v := eR v26) rfl rfl (I20.kd gA0 (by decide) (n := 69) rfl) (by rw [e27]; rfl) ?_
        refine w_t (np := 66) (l2 := [some (eR a0), some (eI (i17))]) (s2 := [eI (0), eR v26, eI (1), eR v26]) rfl rfl rfl ?_
        refine j_al (np := 67) rfl rfl I20 b28 (by decide) (n := 2) rfl rfl (lo := 0) (hi := 12) (fun _ => rfl) (by decide) (by decide) ?_
        intro v37 e38 b39
        have e38 := e38.symm.trans e31
        rw [e38]
        refine j_as (np := 68) rfl rfl I20 b28 (by decide) (n := 2) rfl rfl (lo := 0) (hi := 12) (fun _ => rfl) (by decide) (by decide) (by omega) ?_
        intro m40 I41 W42
        have F43 : Fr l_279 0 0 g μ m40 := F21.v W42 b28 rfl rfl
        refine w_t (np := 69) (l2 := [some (eR a0), some (eI (i17))]) (s2 := [eR a0]) rfl (s_an rfl (pos_g I41 gA0 (by decide))) rfl ?_
        refine w_gf (np := 72) (v := eR v26) rfl rfl (I41.kd gA0 (by decide) (n := 69) rfl) (by rw [(W42.addr e27 b28 gA0 (by decide))]; rfl) ?_
        refine w_t (np := 73) (l2 := [some (eR a0), some (eI (i17))]) (s2 := [eI (0), eR v26]) rfl rfl rfl ?_
        refine j_al (np := 74) rfl rfl I41 b28 (by decide) (n := 2) rfl rfl (lo := 0) (hi := 12) (fun _ => rfl) (by decide) (by decide) ?_
        intro v44 e45 b46
        exact b_ri rfl rfl (K m40 (v44) I41 F43 (by omega))
      · have b37 : 0 ≤ i17 ∧ i17 ≤ 47 := by omega
        have b38 : 1 ≤ v33 ∧ v33 ≤ 48 := by omega
        refine w_t (np := 36) (l2 := [some (eR a0), some (eI (i17))]) (s2 := [eR a0]) rfl (s_an rfl (pos_g I20 gA0 (by decide))) rfl ?_
        refine j_gr (np := 39) rfl rfl I20 gA0 (by decide) (n := 69) rfl rfl rfl ?_
        intro v37 e38 b39 z40
        have b39 : g v37 = 74 := Nat.eq_of_beq_eq_true b39
        refine w_t (np := 41) (l2 := [some (eR a0), some (eI (i17))]) (s2 := [eI (48), eR v37]) rfl rfl rfl ?_
        refine w_t (np := 42) (l2 := [some (eR a0), some (eI (i17))]) (s2 := [eI (i17), eI (48), eR v37]) rfl rfl rfl ?_
        obtain ⟨v41, e42⟩ : ∃ zz : Int, zz = (48) + (i17) := ⟨_, rfl⟩
        have b43 : 48 ≤ v41 ∧ v41 ≤ 95 := by omega
        refine w_t (np := 43) (l2 := [some (eR a0), some (eI (i17))]) (s2 := [eI (v41), eR v37]) rfl (b_iadd (by rw [← e42]; exact ev_w_in (by omega) (by omega))) rfl ?_
        refine w_t (np := 44) (l2 := [some (eR a0), some (eI (i17))]) (s2 := [eR a0, eI (v41), eR v37]) rfl (s_an rfl (pos_g I20 gA0 (by decide))) rfl ?_
        refine w_gf (np := 47) (v := eR v37) rfl rfl (I20.kd gA0 (by decide) (n := 69) rfl) (by rw [e38]; rfl) ?_
        refine w_t (np := 48) (l2 := [some (eR a0), some (eI (i17))]) (s2 := [eI (i17), eR v37, eI (v41), eR v37]) rfl rfl rfl ?_
        refine j_al (np := 49) rfl rfl I20 b39 (by decide) (n := 96) rfl rfl (lo := -2147483648) (hi := 2147483647) (fun _ => rfl) (by omega) (by omega) ?_
        intro v44 e45 b46
        refine j_as (np := 50) rfl rfl I20 b39 (by decide) (n := 96) rfl rfl (lo := -2147483648) (hi := 2147483647) (fun _ => rfl) (by omega) (by omega) (by omega) ?_
        intro m47 I48 W49
        have F50 : Fr l_279 0 0 g μ m47 := F21.v W49 b39 rfl rfl
        obtain ⟨v51, e52⟩ : ∃ zz : Int, zz = (i17) + (1) := ⟨_, rfl⟩
        have b53 : 1 ≤ v51 ∧ v51 ≤ 48 := by omega
        refine w_t (np := 53) (l2 := [some (eR a0), some (eI (v51))]) (s2 := []) rfl (b_iinc rfl (by rw [← e52]; exact ev_w_in (by omega) (by omega)) rfl) rfl ?_
        refine w_go (t1 := 23) rfl rfl ?_
        exact ih16 (64 - (v51)).toNat (by omega) m47 (v51) I48 F50 (by omega) (W49.addr k22 b39 gA0 (by decide)) (W49.addr k23 b39 gA0 (by decide)) (W49.addr k24 b39 gA0 (by decide))    rfl
    exact hL23 _ m9 (0) I10 F12 (by decide) (W11.slot (W7.slot e2 (by decide)) (by decide)) (W11.slot W7.at (by decide)) W11.at    rfl
  · have b5 : -1 ≤ v1 ∧ v1 ≤ -1 := by omega
    refine w_t (np := 9) (l2 := [some (eR a0), none]) (s2 := [eI (5), eR a0]) rfl rfl rfl ?_
    refine w_go (t1 := 13) rfl rfl ?_
    refine w_cw (np := 16) (as := [eI (5)]) (l2 := [some (eR a0), some (eI (5))]) (rest := []) rfl rfl rfl (Nat.ble_eq.mp rfl) rfl rfl rfl (hI.kd gA0 (by decide) (n := 69) rfl) rfl ?_
    refine w_t (np := 1) (l2 := [some (eR a0), some (eI (5))]) (s2 := [eR a0]) rfl (s_an rfl (pos_g hI gA0 (by decide))) rfl ?_
    refine w_t (np := 2) (l2 := [some (eR a0), some (eI (5))]) (s2 := [eI (0), eR a0]) rfl rfl rfl ?_
    refine j_pf (np := 5) (w := 0) rfl rfl hI gA0 (by decide) (n := 69) rfl rfl (hO_i (lo := -2147483648) (hi := 2147483647) rfl (by decide)) ?_
    intro m5 I6 W7
    have F8 : Fr l_279 0 0 g μ m5 := F0.w W7 gA0 rfl
    refine w_t (np := 6) (l2 := [some (eR a0), some (eI (5))]) (s2 := [eR a0]) rfl (s_an rfl (pos_g I6 gA0 (by decide))) rfl ?_
    refine w_t (np := 7) (l2 := [some (eR a0), some (eI (5))]) (s2 := [eI (5), eR a0]) rfl rfl rfl ?_
    refine j_pf (np := 10) (w := 5) rfl rfl I6 gA0 (by decide) (n := 69) rfl rfl (hO_i (lo := -2147483648) (hi := 2147483647) rfl (by decide)) ?_
    intro m9 I10 W11
    have F12 : Fr l_279 0 0 g μ m9 := F8.w W11 gA0 rfl
    refine w_t (np := 11) (l2 := [some (eR a0), some (eI (5))]) (s2 := [eI (5)]) rfl rfl rfl ?_
    refine b_ine (t1 := 18) (t2 := 14) rfl rfl rfl rfl (fun g13 => ?_) (fun g13 => absurd g13 (by decide))
    refine w_t (np := 19) (l2 := [some (eR a0), some (eI (5))]) (s2 := [eI (0)]) rfl rfl rfl ?_
    refine b_rz rfl rfl (Or.inl rfl) ?_
    show ex_q (dt_fg L ρ) rc (d + 1, (279, 16, [some (eR a0), none], [eI (0)]), f :: F, m9)
    refine b_ine (t1 := 21) (t2 := 19) rfl rfl rfl rfl (fun g14 => absurd g14 (by decide)) (fun g14 => ?_)
    refine w_t (np := 20) (l2 := [some (eR a0), none]) (s2 := [eI (-1)]) rfl rfl rfl ?_
    exact b_ri rfl rfl (K m9 (-1) I10 F12 (by decide))
def l_280 : List Nat := [13313, 13314]
theorem s_280 {L : Nat} {ρ : Nat → Int} {rc : eQ} {d : Nat} {f : eFr} {F : List eFr} {μ : eM} {g : Nat → Nat} {a0 : Nat} {a1 : Int} {a2 : Int} {a3 : Int} (hI : SI g μ) (gA0 : g a0 = 52) (bA1 : -2147483648 ≤ a1 ∧ a1 ≤ 2147483647) (bA2 : -2147483648 ≤ a2 ∧ a2 ≤ 2147483647) (bA3 : -2147483648 ≤ a3 ∧ a3 ≤ 2147483647) (K : ∀ (μ2 : eM) (v : Int), SI g μ2 → Fr l_280 0 0 g μ μ2 → (-2147483648 ≤ v ∧ v ≤ 2147483647) → ex_q (dt_fg L ρ) rc (d + 2, (f.1, f.2.1, f.2.2.1, eI v :: f.2.2.2), F, μ2)) : ex_q (dt_fg L ρ) rc (d + 1, (280, 0, [some (eR a0), some (eI (a1)), some (eI (a2)), some (eI (a3))], []), f :: F, μ) := by
  have F0 : Fr l_280 0 0 g μ μ := Fr.r
  refine w_t (np := 1) (l2 := [some (eR a0), some (eI (a1)), some (eI (a2)), some (eI (a3))]) (s2 := [eR a0]) rfl (s_an rfl (pos_g hI gA0 (by decide))) rfl ?_
  refine w_t (np := 2) (l2 := [some (eR a0), some (eI (a1)), some (eI (a2)), some (eI (a3))]) (s2 := [eI (a1), eR a0]) rfl rfl rfl ?_
  refine w_t (np := 3) (l2 := [some (eR a0), some (eI (a1)), some (eI (a2)), some (eI (a3))]) (s2 := [eI (0), eI (a1), eR a0]) rfl rfl rfl ?_
  refine w_t (np := 4) (l2 := [some (eR a0), some (eI (a1)), some (eI (a2)), some (eI (a3))]) (s2 := [eI (1), eI (0), eI (a1), eR a0]) rfl rfl rfl ?_
  refine w_cu (np := 7) (as := [eI (a1), eI (0), eI (1)]) (l2 := [some (eI (a1)), some (eI (0)), some (eI (1))]) (rest := [eR a0]) rfl rfl rfl (Nat.ble_eq.mp rfl) rfl rfl rfl rfl ?_
  refine w_t (np := 1) (l2 := [some (eI (a1)), some (eI (0)), some (eI (1))]) (s2 := [eI (a1)]) rfl rfl rfl ?_
  refine w_t (np := 2) (l2 := [some (eI (a1)), some (eI (0)), some (eI (1))]) (s2 := [eI (0), eI (a1)]) rfl rfl rfl ?_
  refine b_clt (t1 := 14) (t2 := 5) rfl rfl rfl (ev_w_in (by omega) (by omega)) rfl (fun g1 => ?_) (fun g1 => ?_)
  · have b2 : -2147483648 ≤ a1 ∧ a1 ≤ -1 := by omega
    refine w_t (np := 15) (l2 := [some (eI (a1)), some (eI (0)), some (eI (1))]) (s2 := [eI (0)]) rfl rfl rfl ?_
    refine b_rz rfl rfl (Or.inl rfl) ?_
    show ex_q (dt_fg L ρ) rc (d + 1, (280, 7, [some (eR a0), some (eI (a1)), some (eI (a2)), some (eI (a3))], [eI (0), eR a0]), f :: F, μ)
    refine b_ieq (t1 := 23) (t2 := 10) rfl rfl rfl rfl (fun g2 => ?_) (fun g2 => absurd g2 (by decide))
    refine w_t (np := 24) (l2 := [some (eR a0), some (eI (a1)), some (eI (a2)), some (eI (a3))]) (s2 := [eI (1), eR a0]) rfl rfl rfl ?_
    refine w_go (t1 := 42) rfl rfl ?_
    refine w_cw (np := 45) (as := [eI (1)]) (l2 := [some (eR a0), some (eI (1))]) (rest := []) rfl rfl rfl (Nat.ble_eq.mp rfl) rfl rfl rfl (hI.kd gA0 (by decide) (n := 69) rfl) rfl ?_
    refine w_t (np := 1) (l2 := [some (eR a0), some (eI (1))]) (s2 := [eR a0]) rfl (s_an rfl (pos_g hI gA0 (by decide))) rfl ?_
    refine w_t (np := 2) (l2 := [some (eR a0), some (eI (1))]) (s2 := [eI (0), eR a0]) rfl rfl rfl ?_
    refine j_pf (np := 5) (w := 0) rfl rfl hI gA0 (by decide) (n := 69) rfl rfl (hO_i (lo := -2147483648) (hi := 2147483647) rfl (by decide)) ?_
    intro m3 I4 W5
    have F6 : Fr l_280 0 0 g μ m3 := F0.w W5 gA0 rfl
    refine w_t (np := 6) (l2 := [some (eR a0), some (eI (1))]) (s2 := [eR a0]) rfl (s_an rfl (pos_g I4 gA0 (by decide))) rfl ?_
    refine w_t (np := 7) (l2 := [some (eR a0), some (eI (1))]) (s2 := [eI (1), eR a0]) rfl rfl rfl ?_
    refine j_pf (np := 10) (w := 1) rfl rfl I4 gA0 (by decide) (n := 69) rfl rfl (hO_i (lo := -2147483648) (hi := 2147483647) rfl (by decide)) ?_
    intro m7 I8 W9
    have F10 : Fr l_280 0 0 g μ m7 := F6.w W9 gA0 rfl
    refine w_t (np := 11) (l2 := [some (eR a0), some (eI (1))]) (s2 := [eI (1)]) rfl rfl rfl ?_
    refine b_ine (t1 := 18) (t2 := 14) rfl rfl rfl rfl (fun g11 => ?_) (fun g11 => absurd g11 (by decide))
    refine w_t (np := 19) (l2 := [some (eR a0), some (eI (1))]) (s2 := [eI (0)]) rfl rfl rfl ?_
    refine b_rz rfl rfl (Or.inl rfl) ?_
    show ex_q (dt_fg L ρ) rc (d + 1, (280, 45, [some (eR a0), some (eI (a1)), some (eI (a2)), some (eI (a3))], [eI (0)]), f :: F, m7)
    refine b_ieq (t1 := 66) (t2 := 48) rfl rfl rfl rfl (fun g12 => ?_) (fun g12 => absurd g12 (by decide))
    refine w_t (np := 67) (l2 := [some (eR a0), some (eI (a1)), some (eI (a2)), some (eI (a3))]) (s2 := [eI (-1)]) rfl rfl rfl ?_
    exact b_ri rfl rfl (K m7 (-1) I8 F10 (by decide))
  · have b2 : 0 ≤ a1 ∧ a1 ≤ 2147483647 := by omega
    refine w_t (np := 6) (l2 := [some (eI (a1)), some (eI (0)), some (eI (1))]) (s2 := [eI (a1)]) rfl rfl rfl ?_
    refine w_t (np := 7) (l2 := [some (eI (a1)), some (eI (0)), some (eI (1))]) (s2 := [eI (1), eI (a1)]) rfl rfl rfl ?_
    refine b_cgt (t1 := 14) (t2 := 10) rfl rfl rfl (ev_w_in (by omega) (by omega)) rfl (fun g2 => ?_) (fun g2 => ?_)
    · have b3 : 2 ≤ a1 ∧ a1 ≤ 2147483647 := by omega
      refine w_t (np := 15) (l2 := [some (eI (a1)), some (eI (0)), some (eI (1))]) (s2 := [eI (0)]) rfl rfl rfl ?_
      refine b_rz rfl rfl (Or.inl rfl) ?_
      show ex_q (dt_fg L ρ) rc (d + 1, (280, 7, [some (eR a0), some (eI (a1)), some (eI (a2)), some (eI (a3))], [eI (0), eR a0]), f :: F, μ)
      refine b_ieq (t1 := 23) (t2 := 10) rfl rfl rfl rfl (fun g3 => ?_) (fun g3 => absurd g3 (by decide))
      refine w_t (np := 24) (l2 := [some (eR a0), some (eI (a1)), some (eI (a2)), some (eI (a3))]) (s2 := [eI (1), eR a0]) rfl rfl rfl ?_
      refine w_go (t1 := 42) rfl rfl ?_
      refine w_cw (np := 45) (as := [eI (1)]) (l2 := [some (eR a0), some (eI (1))]) (rest := []) rfl rfl rfl (Nat.ble_eq.mp rfl) rfl rfl rfl (hI.kd gA0 (by decide) (n := 69) rfl) rfl ?_
      refine w_t (np := 1) (l2 := [some (eR a0), some (eI (1))]) (s2 := [eR a0]) rfl (s_an rfl (pos_g hI gA0 (by decide))) rfl ?_
      refine w_t (np := 2) (l2 := [some (eR a0), some (eI (1))]) (s2 := [eI (0), eR a0]) rfl rfl rfl ?_
      refine j_pf (np := 5) (w := 0) rfl rfl hI gA0 (by decide) (n := 69) rfl rfl (hO_i (lo := -2147483648) (hi := 2147483647) rfl (by decide)) ?_
      intro m4 I5 W6
      have F7 : Fr l_280 0 0 g μ m4 := F0.w W6 gA0 rfl
      refine w_t (np := 6) (l2 := [some (eR a0), some (eI (1))]) (s2 := [eR a0]) rfl (s_an rfl (pos_g I5 gA0 (by decide))) rfl ?_
      refine w_t (np := 7) (l2 := [some (eR a0), some (eI (1))]) (s2 := [eI (1), eR a0]) rfl rfl rfl ?_
      refine j_pf (np := 10) (w := 1) rfl rfl I5 gA0 (by decide) (n := 69) rfl rfl (hO_i (lo := -2147483648) (hi := 2147483647) rfl (by decide)) ?_
      intro m8 I9 W10
      have F11 : Fr l_280 0 0 g μ m8 := F7.w W10 gA0 rfl
      refine w_t (np := 11) (l2 := [some (eR a0), some (eI (1))]) (s2 := [eI (1)]) rfl rfl rfl ?_
      refine b_ine (t1 := 18) (t2 := 14) rfl rfl rfl rfl (fun g12 => ?_) (fun g12 => absurd g12 (by decide))
      refine w_t (np := 19) (l2 := [some (eR a0), some (eI (1))]) (s2 := [eI (0)]) rfl rfl rfl ?_
      refine b_rz rfl rfl (Or.inl rfl) ?_
      show ex_q (dt_fg L ρ) rc (d + 1, (280, 45, [some (eR a0), some (eI (a1)), some (eI (a2)), some (eI (a3))], [eI (0)]), f :: F, m8)
      refine b_ieq (t1 := 66) (t2 := 48) rfl rfl rfl rfl (fun g13 => ?_) (fun g13 => absurd g13 (by decide))
      refine w_t (np := 67) (l2 := [some (eR a0), some (eI (a1)), some (eI (a2)), some (eI (a3))]) (s2 := [eI (-1)]) rfl rfl rfl ?_
      exact b_ri rfl rfl (K m8 (-1) I9 F11 (by decide))
    · have b3 : 0 ≤ a1 ∧ a1 ≤ 1 := by omega
      refine w_t (np := 11) (l2 := [some (eI (a1)), some (eI (0)), some (eI (1))]) (s2 := [eI (1)]) rfl rfl rfl ?_
      refine w_go (t1 := 15) rfl rfl ?_
      refine b_rz rfl rfl (Or.inr rfl) ?_
      show ex_q (dt_fg L ρ) rc (d + 1, (280, 7, [some (eR a0), some (eI (a1)), some (eI (a2)), some (eI (a3))], [eI (1), eR a0]), f :: F, μ)
      refine b_ieq (t1 := 23) (t2 := 10) rfl rfl rfl rfl (fun g3 => absurd g3 (by decide)) (fun g3 => ?_)
      refine w_t (np := 11) (l2 := [some (eR a0), some (eI (a1)), some (eI (a2)), some (eI (a3))]) (s2 := [eI (a2), eR a0]) rfl rfl rfl ?_
      refine b_ilt (t1 := 23) (t2 := 14) rfl rfl rfl (ev_w_in (by omega) (by omega)) (fun g4 => ?_) (fun g4 => ?_)
      · have b5 : -2147483648 ≤ a2 ∧ a2 ≤ -1 := by omega
        refine w_t (np := 24) (l2 := [some (eR a0), some (eI (a1)), some (eI (a2)), some (eI (a3))]) (s2 := [eI (1), eR a0]) rfl rfl rfl ?_
        refine w_go (t1 := 42) rfl rfl ?_
        refine w_cw (np := 45) (as := [eI (1)]) (l2 := [some (eR a0), some (eI (1))]) (rest := []) rfl rfl rfl (Nat.ble_eq.mp rfl) rfl rfl rfl (hI.kd gA0 (by decide) (n := 69) rfl) rfl ?_
        refine w_t (np := 1) (l2 := [some (eR a0), some (eI (1))]) (s2 := [eR a0]) rfl (s_an rfl (pos_g hI gA0 (by decide))) rfl ?_
        refine w_t (np := 2) (l2 := [some (eR a0), some (eI (1))]) (s2 := [eI (0), eR a0]) rfl rfl rfl ?_
        refine j_pf (np := 5) (w := 0) rfl rfl hI gA0 (by decide) (n := 69) rfl rfl (hO_i (lo := -2147483648) (hi := 2147483647) rfl (by decide)) ?_
        intro m5 I6 W7
        have F8 : Fr l_280 0 0 g μ m5 := F0.w W7 gA0 rfl
        refine w_t (np := 6) (l2 := [some (eR a0), some (eI (1))]) (s2 := [eR a0]) rfl (s_an rfl (pos_g I6 gA0 (by decide))) rfl ?_
        refine w_t (np := 7) (l2 := [some (eR a0), some (eI (1))]) (s2 := [eI (1), eR a0]) rfl rfl rfl ?_
        refine j_pf (np := 10) (w := 1) rfl rfl I6 gA0 (by decide) (n := 69) rfl rfl (hO_i (lo := -2147483648) (hi := 2147483647) rfl (by decide)) ?_
        intro m9 I10 W11
        have F12 : Fr l_280 0 0 g μ m9 := F8.w W11 gA0 rfl
        refine w_t (np := 11) (l2 := [some (eR a0), some (eI (1))]) (s2 := [eI (1)]) rfl rfl rfl ?_
        refine b_ine (t1 := 18) (t2 := 14) rfl rfl rfl rfl (fun g13 => ?_) (fun g13 => absurd g13 (by decide))
        refine w_t (np := 19) (l2 := [some (eR a0), some (eI (1))]) (s2 := [eI (0)]) rfl rfl rfl ?_
        refine b_rz rfl rfl (Or.inl rfl) ?_
        show ex_q (dt_fg L ρ) rc (d + 1, (280, 45, [some (eR a0), some (eI (a1)), some (eI (a2)), some (eI (a3))], [eI (0)]), f :: F, m9)
        refine b_ieq (t1 := 66) (t2 := 48) rfl rfl rfl rfl (fun g14 => ?_) (fun g14 => absurd g14 (by decide))
        refine w_t (np := 67) (l2 := [some (eR a0), some (eI (a1)), some (eI (a2)), some (eI (a3))]) (s2 := [eI (-1)]) rfl rfl rfl ?_
        exact b_ri rfl rfl (K m9 (-1) I10 F12 (by decide))
      · have b5 : 0 ≤ a2 ∧ a2 ≤ 2147483647 := by omega
        refine w_t (np := 15) (l2 := [some (eR a0), some (eI (a1)), some (eI (a2)), some (eI (a3))]) (s2 := [eI (a3), eR a0]) rfl rfl rfl ?_
        refine w_t (np := 16) (l2 := [some (eR a0), some (eI (a1)), some (eI (a2)), some (eI (a3))]) (s2 := [eI (0), eI (a3), eR a0]) rfl rfl rfl ?_
        refine w_t (np := 17) (l2 := [some (eR a0), some (eI (a1)), some (eI (a2)), some (eI (a3))]) (s2 := [eI (3), eI (0), eI (a3), eR a0]) rfl rfl rfl ?_
        refine w_cu (np := 20) (as := [eI (a3), eI (0), eI (3)]) (l2 := [some (eI (a3)), some (eI (0)), some (eI (3))]) (rest := [eR a0]) rfl rfl rfl (Nat.ble_eq.mp rfl) rfl rfl rfl rfl ?_
        refine w_t (np := 1) (l2 := [some (eI (a3)), some (eI (0)), some (eI (3))]) (s2 := [eI (a3)]) rfl rfl rfl ?_
        refine w_t (np := 2) (l2 := [some (eI (a3)), some (eI (0)), some (eI (3))]) (s2 := [eI (0), eI (a3)]) rfl rfl rfl ?_
        refine b_clt (t1 := 14) (t2 := 5) rfl rfl rfl (ev_w_in (by omega) (by omega)) rfl (fun g5 => ?_) (fun g5 => ?_)
        · have b6 : -2147483648 ≤ a3 ∧ a3 ≤ -1 := by omega
          refine w_t (np := 15) (l2 := [some (eI (a3)), some (eI (0)), some (eI (3))]) (s2 := [eI (0)]) rfl rfl rfl ?_
          refine b_rz rfl rfl (Or.inl rfl) ?_
          show ex_q (dt_fg L ρ) rc (d + 1, (280, 20, [some (eR a0), some (eI (a1)), some (eI (a2)), some (eI (a3))], [eI (0), eR a0]), f :: F, μ)
          refine b_ine (t1 := 27) (t2 := 23) rfl rfl rfl rfl (fun g6 => absurd g6 (by decide)) (fun g6 => ?_)
          refine w_t (np := 24) (l2 := [some (eR a0), some (eI (a1)), some (eI (a2)), some (eI (a3))]) (s2 := [eI (1), eR a0]) rfl rfl rfl ?_
          refine w_go (t1 := 42) rfl rfl ?_
          refine w_cw (np := 45) (as := [eI (1)]) (l2 := [some (eR a0), some (eI (1))]) (rest := []) rfl rfl rfl (Nat.ble_eq.mp rfl) rfl rfl rfl (hI.kd gA0 (by decide) (n := 69) rfl) rfl ?_
          refine w_t (np := 1) (l2 := [some (eR a0), some (eI (1))]) (s2 := [eR a0]) rfl (s_an rfl (pos_g hI gA0 (by decide))) rfl ?_
          refine w_t (np := 2) (l2 := [some (eR a0), some (eI (1))]) (s2 := [eI (0), eR a0]) rfl rfl rfl ?_
          refine j_pf (np := 5) (w := 0) rfl rfl hI gA0 (by decide) (n := 69) rfl rfl (hO_i (lo := -2147483648) (hi := 2147483647) rfl (by decide)) ?_
          intro m7 I8 W9
          have F10 : Fr l_280 0 0 g μ m7 := F0.w W9 gA0 rfl
          refine w_t (np := 6) (l2 := [some (eR a0), some (eI (1))]) (s2 := [eR a0]) rfl (s_an rfl (pos_g I8 gA0 (by decide))) rfl ?_
          refine w_t (np := 7) (l2 := [some (eR a0), some (eI (1))]) (s2 := [eI (1), eR a0]) rfl rfl rfl ?_
          refine j_pf (np := 10) (w := 1) rfl rfl I8 gA0 (by decide) (n := 69) rfl rfl (hO_i (lo := -2147483648) (hi := 2147483647) rfl (by decide)) ?_
          intro m11 I12 W13
          have F14 : Fr l_280 0 0 g μ m11 := F10.w W13 gA0 rfl
          refine w_t (np := 11) (l2 := [some (eR a0), some (eI (1))]) (s2 := [eI (1)]) rfl rfl rfl ?_
          refine b_ine (t1 := 18) (t2 := 14) rfl rfl rfl rfl (fun g15 => ?_) (fun g15 => absurd g15 (by decide))
          refine w_t (np := 19) (l2 := [some (eR a0), some (eI (1))]) (s2 := [eI (0)]) rfl rfl rfl ?_
          refine b_rz rfl rfl (Or.inl rfl) ?_
          show ex_q (dt_fg L ρ) rc (d + 1, (280, 45, [some (eR a0), some (eI (a1)), some (eI (a2)), some (eI (a3))], [eI (0)]), f :: F, m11)
          refine b_ieq (t1 := 66) (t2 := 48) rfl rfl rfl rfl (fun g16 => ?_) (fun g16 => absurd g16 (by decide))
          refine w_t (np := 67) (l2 := [some (eR a0), some (eI (a1)), some (eI (a2)), some (eI (a3))]) (s2 := [eI (-1)]) rfl rfl rfl ?_
          exact b_ri rfl rfl (K m11 (-1) I12 F14 (by decide))
        · have b6 : 0 ≤ a3 ∧ a3 ≤ 2147483647 := by omega
          refine w_t (np := 6) (l2 := [some (eI (a3)), some (eI (0)), some (eI (3))]) (s2 := [eI (a3)]) rfl rfl rfl ?_
          refine w_t (np := 7) (l2 := [some (eI (a3)), some (eI (0)), some (eI (3))]) (s2 := [eI (3), eI (a3)]) rfl rfl rfl ?_
          refine b_cgt (t1 := 14) (t2 := 10) rfl rfl rfl (ev_w_in (by omega) (by omega)) rfl (fun g6 => ?_) (fun g6 => ?_)
          · have b7 : 4 ≤ a3 ∧ a3 ≤ 2147483647 := by omega
            refine w_t (np := 15) (l2 := [some (eI (a3)), some (eI (0)), some (eI (3))]) (s2 := [eI (0)]) rfl rfl rfl ?_
            refine b_rz rfl rfl (Or.inl rfl) ?_
            show ex_q (dt_fg L ρ) rc (d + 1, (280, 20, [some (eR a0), some (eI (a1)), some (eI (a2)), some (eI (a3))], [eI (0), eR a0]), f :: F, μ)
            refine b_ine (t1 := 27) (t2 := 23) rfl rfl rfl rfl (fun g7 => absurd g7 (by decide)) (fun g7 => ?_)
            refine w_t (np := 24) (l2 := [some (eR a0), some (eI (a1)), some (eI (a2)), some (eI (a3))]) (s2 := [eI (1), eR a0]) rfl rfl rfl ?_
            refine w_go (t1 := 42) rfl rfl ?_
            refine w_cw (np := 45) (as := [eI (1)]) (l2 := [some (eR a0), some (eI (1))]) (rest := []) rfl rfl rfl (Nat.ble_eq.mp rfl) rfl rfl rfl (hI.kd gA0 (by decide) (n := 69) rfl) rfl ?_
            refine w_t (np := 1) (l2 := [some (eR a0), some (eI (1))]) (s2 := [eR a0]) rfl (s_an rfl (pos_g hI gA0 (by decide))) rfl ?_
            refine w_t (np := 2) (l2 := [some (eR a0), some (eI (1))]) (s2 := [eI (0), eR a0]) rfl rfl rfl ?_
            refine j_pf (np := 5) (w := 0) rfl rfl hI gA0 (by decide) (n := 69) rfl rfl (hO_i (lo := -2147483648) (hi := 2147483647) rfl (by decide)) ?_
            intro m8 I9 W10
            have F11 : Fr l_280 0 0 g μ m8 := F0.w W10 gA0 rfl
            refine w_t (np := 6) (l2 := [some (eR a0), some (eI (1))]) (s2 := [eR a0]) rfl (s_an rfl (pos_g I9 gA0 (by decide))) rfl ?_
            refine w_t (np := 7) (l2 := [some (eR a0), some (eI (1))]) (s2 := [eI (1), eR a0]) rfl rfl rfl ?_
            refine j_pf (np := 10) (w := 1) rfl rfl I9 gA0 (by decide) (n := 69) rfl rfl (hO_i (lo := -2147483648) (hi := 2147483647) rfl (by decide)) ?_
            intro m12 I13 W14
            have F15 : Fr l_280 0 0 g μ m12 := F11.w W14 gA0 rfl
            refine w_t (np := 11) (l2 := [some (eR a0), some (eI (1))]) (s2 := [eI (1)]) rfl rfl rfl ?_
            refine b_ine (t1 := 18) (t2 := 14) rfl rfl rfl rfl (fun g16 => ?_) (fun g16 => absurd g16 (by decide))
            refine w_t (np := 19) (l2 := [some (eR a0), some (eI (1))]) (s2 := [eI (0)]) rfl rfl rfl ?_
            refine b_rz rfl rfl (Or.inl rfl) ?_
            show ex_q (dt_fg L ρ) rc (d + 1, (280, 45, [some (eR a0), some (eI (a1)), some (eI (a2)), some (eI (a3))], [eI (0)]), f :: F, m12)
            refine b_ieq (t1 := 66) (t2 := 48) rfl rfl rfl rfl (fun g17 => ?_) (fun g17 => absurd g17 (by decide))
            refine w_t (np := 67) (l2 := [some (eR a0), some (eI (a1)), some (eI (a2)), some (eI (a3))]) (s2 := [eI (-1)]) rfl rfl rfl ?_
            exact b_ri rfl rfl (K m12 (-1) I13 F15 (by decide))
          · have b7 : 0 ≤ a3 ∧ a3 ≤ 3 := by omega
            refine w_t (np := 11) (l2 := [some (eI (a3)), some (eI (0)), some (eI (3))]) (s2 := [eI (1)]) rfl rfl rfl ?_
            refine w_go (t1 := 15) rfl rfl ?_
            refine b_rz rfl rfl (Or.inr rfl) ?_
            show ex_q (dt_fg L ρ) rc (d + 1, (280, 20, [some (eR a0), some (eI (a1)), some (eI (a2)), some (eI (a3))], [eI (1), eR a0]), f :: F, μ)
            refine b_ine (t1 := 27) (t2 := 23) rfl rfl rfl rfl (fun g7 => ?_) (fun g7 => absurd g7 (by decide))
            refine w_t (np := 28) (l2 := [some (eR a0), some (eI (a1)), some (eI (a2)), some (eI (a3))]) (s2 := [eI (a2), eR a0]) rfl rfl rfl ?_
            refine w_t (np := 29) (l2 := [some (eR a0), some (eI (a1)), some (eI (a2)), some (eI (a3))]) (s2 := [eR a0, eI (a2), eR a0]) rfl (s_an rfl (pos_g hI gA0 (by decide))) rfl ?_
            refine j_gr (np := 32) rfl rfl hI gA0 (by decide) (n := 69) rfl rfl rfl ?_
            intro v8 e9 b10 z11
            have b10 : g v8 = 75 := Nat.eq_of_beq_eq_true b10
            refine w_t (np := 33) (l2 := [some (eR a0), some (eI (a1)), some (eI (a2)), some (eI (a3))]) (s2 := [eI (a1), eR v8, eI (a2), eR a0]) rfl rfl rfl ?_
            refine j_al (np := 34) rfl rfl hI b10 (by decide) (n := 2) rfl rfl (lo := 0) (hi := 12) (fun _ => rfl) (by omega) (by omega) ?_
            intro v12 e13 b14
            refine b_clt (t1 := 41) (t2 := 37) rfl rfl rfl (ev_w_in (by omega) (by omega)) (ev_w_in (by omega) (by omega)) (fun g15 => ?_) (fun g15 => ?_)
            · have b16 : 0 ≤ a2 ∧ a2 ≤ 11 := by omega
              have b17 : 1 ≤ v12 ∧ v12 ≤ 12 := by omega
              refine w_t (np := 42) (l2 := [some (eR a0), some (eI (a1)), some (eI (a2)), some (eI (a3))]) (s2 := [eI (0), eR a0]) rfl rfl rfl ?_
              refine w_cw (np := 45) (as := [eI (0)]) (l2 := [some (eR a0), some (eI (0))]) (rest := []) rfl rfl rfl (Nat.ble_eq.mp rfl) rfl rfl rfl (hI.kd gA0 (by decide) (n := 69) rfl) rfl ?_
              refine w_t (np := 1) (l2 := [some (eR a0), some (eI (0))]) (s2 := [eR a0]) rfl (s_an rfl (pos_g hI gA0 (by decide))) rfl ?_
              refine w_t (np := 2) (l2 := [some (eR a0), some (eI (0))]) (s2 := [eI (0), eR a0]) rfl rfl rfl ?_
              refine j_pf (np := 5) (w := 0) rfl rfl hI gA0 (by decide) (n := 69) rfl rfl (hO_i (lo := -2147483648) (hi := 2147483647) rfl (by decide)) ?_
              intro m16 I17 W18
              have F19 : Fr l_280 0 0 g μ m16 := F0.w W18 gA0 rfl
              refine w_t (np := 6) (l2 := [some (eR a0), some (eI (0))]) (s2 := [eR a0]) rfl (s_an rfl (pos_g I17 gA0 (by decide))) rfl ?_
              refine w_t (np := 7) (l2 := [some (eR a0), some (eI (0))]) (s2 := [eI (0), eR a0]) rfl rfl rfl ?_
              refine j_pf (np := 10) (w := 0) rfl rfl I17 gA0 (by decide) (n := 69) rfl rfl (hO_i (lo := -2147483648) (hi := 2147483647) rfl (by decide)) ?_
              intro m20 I21 W22
              have F23 : Fr l_280 0 0 g μ m20 := F19.w W22 gA0 rfl
              refine w_t (np := 11) (l2 := [some (eR a0), some (eI (0))]) (s2 := [eI (0)]) rfl rfl rfl ?_
              refine b_ine (t1 := 18) (t2 := 14) rfl rfl rfl rfl (fun g24 => absurd g24 (by decide)) (fun g24 => ?_)
              refine w_t (np := 15) (l2 := [some (eR a0), some (eI (0))]) (s2 := [eI (1)]) rfl rfl rfl ?_
              refine w_go (t1 := 19) rfl rfl ?_
              refine b_rz rfl rfl (Or.inr rfl) ?_
              show ex_q (dt_fg L ρ) rc (d + 1, (280, 45, [some (eR a0), some (eI (a1)), some (eI (a2)), some (eI (a3))], [eI (1)]), f :: F, m20)
              refine b_ieq (t1 := 66) (t2 := 48) rfl rfl rfl rfl (fun g25 => absurd g25 (by decide)) (fun g25 => ?_)
              refine w_t (np := 49) (l2 := [some (eR a0), some (eI (a1)), some (eI (a2)), some (eI (a3))]) (s2 := [eR a0]) rfl (s_an rfl (pos_g I21 gA0 (by decide))) rfl ?_
              refine j_gr (np := 52) rfl rfl I21 gA0 (by decide) (n := 69) rfl rfl rfl ?_
              intro v26 e27 b28 z29
              have b28 : g v26 = 74 := Nat.eq_of_beq_eq_true b28
              refine w_t (np := 54) (l2 := [some (eR a0), some (eI (a1)), some (eI (a2)), some (eI (a3))]) (s2 := [eI (48), eR v26]) rfl rfl rfl ?_
              refine w_t (np := 55) (l2 := [some (eR a0), some (eI (a1)), some (eI (a2)), some (eI (a3))]) (s2 := [eI (a1), eI (48), eR v26]) rfl rfl rfl ?_
              obtain ⟨v30, e31⟩ : ∃ zz : Int, zz = (48) * (a1) := ⟨_, rfl⟩
              have b32 : 0 ≤ v30 ∧ v30 ≤ 48 := by omega
              refine w_t (np := 56) (l2 := [some (eR a0), some (eI (a1)), some (eI (a2)), some (eI (a3))]) (s2 := [eI (v30), eR v26]) rfl (b_imul (by rw [← e31]; exact ev_w_in (by omega) (by omega))) rfl ?_
              refine w_t (np := 57) (l2 := [some (eR a0), some (eI (a1)), some (eI (a2)), some (eI (a3))]) (s2 := [eI (4), eI (v30), eR v26]) rfl rfl rfl ?_
              refine w_t (np := 58) (l2 := [some (eR a0), some (eI (a1)), some (eI (a2)), some (eI (a3))]) (s2 := [eI (a2), eI (4), eI (v30), eR v26]) rfl rfl rfl ?_
              obtain ⟨v33, e34⟩ : ∃ zz : Int, zz = (4) * (a2) := ⟨_, rfl⟩
              have b35 : 0 ≤ v33 ∧ v33 ≤ 44 := by omega
              refine w_t (np := 59) (l2 := [some (eR a0), some (eI (a1)), some (eI (a2)), some (eI (a3))]) (s2 := [eI (v33), eI (v30), eR v26]) rfl (b_imul (by rw [← e34]; exact ev_w_in (by omega) (by omega))) rfl ?_
              obtain ⟨v36, e37⟩ : ∃ zz : Int, zz = (v30) + (v33) := ⟨_, rfl⟩
              have b38 : 0 ≤ v36 ∧ v36 ≤ 92 := by omega
              refine w_t (np := 60) (l2 := [some (eR a0), some (eI (a1)), some (eI (a2)), some (eI (a3))]) (s2 := [eI (v36), eR v26]) rfl (b_iadd (by rw [← e37]; exact ev_w_in (by omega) (by omega))) rfl ?_
              refine w_t (np := 61) (l2 := [some (eR a0), some (eI (a1)), some (eI (a2)), some (eI (a3))]) (s2 := [eI (a3), eI (v36), eR v26]) rfl rfl rfl ?_
              obtain ⟨v39, e40⟩ : ∃ zz : Int, zz = (v36) + (a3) := ⟨_, rfl⟩
              have b41 : 0 ≤ v39 ∧ v39 ≤ 95 := by omega
              refine w_t (np := 62) (l2 := [some (eR a0), some (eI (a1)), some (eI (a2)), some (eI (a3))]) (s2 := [eI (v39), eR v26]) rfl (b_iadd (by rw [← e40]; exact ev_w_in (by omega) (by omega))) rfl ?_
              refine j_al (np := 63) rfl rfl I21 b28 (by decide) (n := 96) rfl rfl (lo := -2147483648) (hi := 2147483647) (fun _ => rfl) (by omega) (by omega) ?_
              intro v42 e43 b44
              refine w_go (t1 := 67) rfl rfl ?_
              exact b_ri rfl rfl (K m20 (v42) I21 F23 (by omega))
            · refine w_t (np := 38) (l2 := [some (eR a0), some (eI (a1)), some (eI (a2)), some (eI (a3))]) (s2 := [eI (5), eR a0]) rfl rfl rfl ?_
              refine w_go (t1 := 42) rfl rfl ?_
              refine w_cw (np := 45) (as := [eI (5)]) (l2 := [some (eR a0), some (eI (5))]) (rest := []) rfl rfl rfl (Nat.ble_eq.mp rfl) rfl rfl rfl (hI.kd gA0 (by decide) (n := 69) rfl) rfl ?_
              refine w_t (np := 1) (l2 := [some (eR a0), some (eI (5))]) (s2 := [eR a0]) rfl (s_an rfl (pos_g hI gA0 (by decide))) rfl ?_
              refine w_t (np := 2) (l2 := [some (eR a0), some (eI (5))]) (s2 := [eI (0), eR a0]) rfl rfl rfl ?_
              refine j_pf (np := 5) (w := 0) rfl rfl hI gA0 (by decide) (n := 69) rfl rfl (hO_i (lo := -2147483648) (hi := 2147483647) rfl (by decide)) ?_
              intro m16 I17 W18
              have F19 : Fr l_280 0 0 g μ m16 := F0.w W18 gA0 rfl
              refine w_t (np := 6) (l2 := [some (eR a0), some (eI (5))]) (s2 := [eR a0]) rfl (s_an rfl (pos_g I17 gA0 (by decide))) rfl ?_
              refine w_t (np := 7) (l2 := [some (eR a0), some (eI (5))]) (s2 := [eI (5), eR a0]) rfl rfl rfl ?_
              refine j_pf (np := 10) (w := 5) rfl rfl I17 gA0 (by decide) (n := 69) rfl rfl (hO_i (lo := -2147483648) (hi := 2147483647) rfl (by decide)) ?_
              intro m20 I21 W22
              have F23 : Fr l_280 0 0 g μ m20 := F19.w W22 gA0 rfl
              refine w_t (np := 11) (l2 := [some (eR a0), some (eI (5))]) (s2 := [eI (5)]) rfl rfl rfl ?_
              refine b_ine (t1 := 18) (t2 := 14) rfl rfl rfl rfl (fun g24 => ?_) (fun g24 => absurd g24 (by decide))
              refine w_t (np := 19) (l2 := [some (eR a0), some (eI (5))]) (s2 := [eI (0)]) rfl rfl rfl ?_
              refine b_rz rfl rfl (Or.inl rfl) ?_
              show ex_q (dt_fg L ρ) rc (d + 1, (280, 45, [some (eR a0), some (eI (a1)), some (eI (a2)), some (eI (a3))], [eI (0)]), f :: F, m20)
              refine b_ieq (t1 := 66) (t2 := 48) rfl rfl rfl rfl (fun g25 => ?_) (fun g25 => absurd g25 (by decide))
              refine w_t (np := 67) (l2 := [some (eR a0), some (eI (a1)), some (eI (a2)), some (eI (a3))]) (s2 := [eI (-1)]) rfl rfl rfl ?_
              exact b_ri rfl rfl (K m20 (-1) I21 F23 (by decide))
def l_281 : List Nat := [13313, 13314]
theorem s_281 {L : Nat} {ρ : Nat → Int} {rc : eQ} {d : Nat} {f : eFr} {F : List eFr} {μ : eM} {g : Nat → Nat} {a0 : Nat} {a1 : Int} {a2 : Int} (hI : SI g μ) (gA0 : g a0 = 52) (bA1 : -2147483648 ≤ a1 ∧ a1 ≤ 2147483647) (bA2 : -2147483648 ≤ a2 ∧ a2 ≤ 2147483647) (K : ∀ (μ2 : eM) (v : Int), SI g μ2 → Fr l_281 0 0 g μ μ2 → (-2147483648 ≤ v ∧ v ≤ 2147483647) → ex_q (dt_fg L ρ) rc (d + 3, (f.1, f.2.1, f.2.2.1, eI v :: f.2.2.2), F, μ2)) : ex_q (dt_fg L ρ) rc (d + 2, (281, 0, [some (eR a0), some (eI (a1)), some (eI (a2)), none], []), f :: F, μ) := by
  have F0 : Fr l_281 0 0 g μ μ := Fr.r
  refine w_t (np := 1) (l2 := [some (eR a0), some (eI (a1)), some (eI (a2)), none]) (s2 := [eR a0]) rfl (s_an rfl (pos_g hI gA0 (by decide))) rfl ?_
  refine w_t (np := 2) (l2 := [some (eR a0), some (eI (a1)), some (eI (a2)), none]) (s2 := [eR a0, eR a0]) rfl (s_an rfl (pos_g hI gA0 (by decide))) rfl ?_
  refine w_t (np := 3) (l2 := [some (eR a0), some (eI (a1)), some (eI (a2)), none]) (s2 := [eI (a1), eR a0, eR a0]) rfl rfl rfl ?_
  refine w_cw (np := 6) (as := [eI (a1)]) (l2 := [some (eR a0), some (eI (a1))]) (rest := [eR a0]) rfl rfl rfl (Nat.ble_eq.mp rfl) rfl rfl rfl (hI.kd gA0 (by decide) (n := 69) rfl) rfl ?_
  refine w_t (np := 1) (l2 := [some (eR a0), some (eI (a1))]) (s2 := [eI (a1)]) rfl rfl rfl ?_
  refine w_t (np := 2) (l2 := [some (eR a0), some (eI (a1))]) (s2 := [eI (0), eI (a1)]) rfl rfl rfl ?_
  refine w_t (np := 3) (l2 := [some (eR a0), some (eI (a1))]) (s2 := [eR a0, eI (0), eI (a1)]) rfl (s_an rfl (pos_g hI gA0 (by decide))) rfl ?_
  refine j_gi (np := 6) rfl rfl rfl hI gA0 (by decide) (n := 69) rfl rfl (lo := 0) (hi := 890) rfl ?_
  intro v1 e2 b3
  refine w_t (np := 7) (l2 := [some (eR a0), some (eI (a1))]) (s2 := [eI (1), eI (v1), eI (0), eI (a1)]) rfl rfl rfl ?_
  obtain ⟨v4, e5⟩ : ∃ zz : Int, zz = (v1) - (1) := ⟨_, rfl⟩
  have b6 : -1 ≤ v4 ∧ v4 ≤ 889 := by omega
  refine w_t (np := 8) (l2 := [some (eR a0), some (eI (a1))]) (s2 := [eI (v4), eI (0), eI (a1)]) rfl (b_isub (by rw [← e5]; exact ev_w_in (by omega) (by omega))) rfl ?_
  refine w_cu (np := 11) (as := [eI (a1), eI (0), eI (v4)]) (l2 := [some (eI (a1)), some (eI (0)), some (eI (v4))]) (rest := []) rfl rfl rfl (Nat.ble_eq.mp rfl) rfl rfl rfl rfl ?_
  refine w_t (np := 1) (l2 := [some (eI (a1)), some (eI (0)), some (eI (v4))]) (s2 := [eI (a1)]) rfl rfl rfl ?_
  refine w_t (np := 2) (l2 := [some (eI (a1)), some (eI (0)), some (eI (v4))]) (s2 := [eI (0), eI (a1)]) rfl rfl rfl ?_
  refine b_clt (t1 := 14) (t2 := 5) rfl rfl rfl (ev_w_in (by omega) (by omega)) rfl (fun g7 => ?_) (fun g7 => ?_)
  · have b8 : -2147483648 ≤ a1 ∧ a1 ≤ -1 := by omega
    refine w_t (np := 15) (l2 := [some (eI (a1)), some (eI (0)), some (eI (v4))]) (s2 := [eI (0)]) rfl rfl rfl ?_
    refine b_rz rfl rfl (Or.inl rfl) ?_
    show ex_q (dt_fg L ρ) rc (d + 1, (243, 11, [some (eR a0), some (eI (a1))], [eI (0)]), (281, 6, [some (eR a0), some (eI (a1)), some (eI (a2)), none], [eR a0]) :: f :: F, μ)
    refine b_rz rfl rfl (Or.inl rfl) ?_
    show ex_q (dt_fg L ρ) rc (d + 2, (281, 6, [some (eR a0), some (eI (a1)), some (eI (a2)), none], [eI (0), eR a0]), f :: F, μ)
    refine b_ieq (t1 := 21) (t2 := 9) rfl rfl rfl rfl (fun g8 => ?_) (fun g8 => absurd g8 (by decide))
    refine w_t (np := 22) (l2 := [some (eR a0), some (eI (a1)), some (eI (a2)), none]) (s2 := [eI (2), eR a0]) rfl rfl rfl ?_
    refine w_cw (np := 25) (as := [eI (2)]) (l2 := [some (eR a0), some (eI (2))]) (rest := []) rfl rfl rfl (Nat.ble_eq.mp rfl) rfl rfl rfl (hI.kd gA0 (by decide) (n := 69) rfl) rfl ?_
    refine w_t (np := 1) (l2 := [some (eR a0), some (eI (2))]) (s2 := [eR a0]) rfl (s_an rfl (pos_g hI gA0 (by decide))) rfl ?_
    refine w_t (np := 2) (l2 := [some (eR a0), some (eI (2))]) (s2 := [eI (0), eR a0]) rfl rfl rfl ?_
    refine j_pf (np := 5) (w := 0) rfl rfl hI gA0 (by decide) (n := 69) rfl rfl (hO_i (lo := -2147483648) (hi := 2147483647) rfl (by decide)) ?_
    intro m9 I10 W11
    have F12 : Fr l_281 0 0 g μ m9 := F0.w W11 gA0 rfl
    refine w_t (np := 6) (l2 := [some (eR a0), some (eI (2))]) (s2 := [eR a0]) rfl (s_an rfl (pos_g I10 gA0 (by decide))) rfl ?_
    refine w_t (np := 7) (l2 := [some (eR a0), some (eI (2))]) (s2 := [eI (2), eR a0]) rfl rfl rfl ?_
    refine j_pf (np := 10) (w := 2) rfl rfl I10 gA0 (by decide) (n := 69) rfl rfl (hO_i (lo := -2147483648) (hi := 2147483647) rfl (by decide)) ?_
    intro m13 I14 W15
    have F16 : Fr l_281 0 0 g μ m13 := F12.w W15 gA0 rfl
    refine w_t (np := 11) (l2 := [some (eR a0), some (eI (2))]) (s2 := [eI (2)]) rfl rfl rfl ?_
    refine b_ine (t1 := 18) (t2 := 14) rfl rfl rfl rfl (fun g17 => ?_) (fun g17 => absurd g17 (by decide))
    refine w_t (np := 19) (l2 := [some (eR a0), some (eI (2))]) (s2 := [eI (0)]) rfl rfl rfl ?_
    refine b_rz rfl rfl (Or.inl rfl) ?_
    show ex_q (dt_fg L ρ) rc (d + 2, (281, 25, [some (eR a0), some (eI (a1)), some (eI (a2)), none], [eI (0)]), f :: F, m13)
    refine b_ine (t1 := 30) (t2 := 28) rfl rfl rfl rfl (fun g18 => absurd g18 (by decide)) (fun g18 => ?_)
    refine w_t (np := 29) (l2 := [some (eR a0), some (eI (a1)), some (eI (a2)), none]) (s2 := [eI (-1)]) rfl rfl rfl ?_
    exact b_ri rfl rfl (K m13 (-1) I14 F16 (by decide))
  · have b8 : 0 ≤ a1 ∧ a1 ≤ 2147483647 := by omega
    refine w_t (np := 6) (l2 := [some (eI (a1)), some (eI (0)), some (eI (v4))]) (s2 := [eI (a1)]) rfl rfl rfl ?_
    refine w_t (np := 7) (l2 := [some (eI (a1)), some (eI (0)), some (eI (v4))]) (s2 := [eI (v4), eI (a1)]) rfl rfl rfl ?_
    refine b_cgt (t1 := 14) (t2 := 10) rfl rfl rfl (ev_w_in (by omega) (by omega)) (ev_w_in (by omega) (by omega)) (fun g8 => ?_) (fun g8 => ?_)
    · refine w_t (np := 15) (l2 := [some (eI (a1)), some (eI (0)), some (eI (v4))]) (s2 := [eI (0)]) rfl rfl rfl ?_
      refine b_rz rfl rfl (Or.inl rfl) ?_
      show ex_q (dt_fg L ρ) rc (d + 1, (243, 11, [some (eR a0), some (eI (a1))], [eI (0)]), (281, 6, [some (eR a0), some (eI (a1)), some (eI (a2)), none], [eR a0]) :: f :: F, μ)
      refine b_rz rfl rfl (Or.inl rfl) ?_
      show ex_q (dt_fg L ρ) rc (d + 2, (281, 6, [some (eR a0), some (eI (a1)), some (eI (a2)), none], [eI (0), eR a0]), f :: F, μ)
      refine b_ieq (t1 := 21) (t2 := 9) rfl rfl rfl rfl (fun g9 => ?_) (fun g9 => absurd g9 (by decide))
      refine w_t (np := 22) (l2 := [some (eR a0), some (eI (a1)), some (eI (a2)), none]) (s2 := [eI (2), eR a0]) rfl rfl rfl ?_
      refine w_cw (np := 25) (as := [eI (2)]) (l2 := [some (eR a0), some (eI (2))]) (rest := []) rfl rfl rfl (Nat.ble_eq.mp rfl) rfl rfl rfl (hI.kd gA0 (by decide) (n := 69) rfl) rfl ?_
      refine w_t (np := 1) (l2 := [some (eR a0), some (eI (2))]) (s2 := [eR a0]) rfl (s_an rfl (pos_g hI gA0 (by decide))) rfl ?_
      refine w_t (np := 2) (l2 := [some (eR a0), some (eI (2))]) (s2 := [eI (0), eR a0]) rfl rfl rfl ?_
      refine j_pf (np := 5) (w := 0) rfl rfl hI gA0 (by decide) (n := 69) rfl rfl (hO_i (lo := -2147483648) (hi := 2147483647) rfl (by decide)) ?_
      intro m10 I11 W12
      have F13 : Fr l_281 0 0 g μ m10 := F0.w W12 gA0 rfl
      refine w_t (np := 6) (l2 := [some (eR a0), some (eI (2))]) (s2 := [eR a0]) rfl (s_an rfl (pos_g I11 gA0 (by decide))) rfl ?_
      refine w_t (np := 7) (l2 := [some (eR a0), some (eI (2))]) (s2 := [eI (2), eR a0]) rfl rfl rfl ?_
      refine j_pf (np := 10) (w := 2) rfl rfl I11 gA0 (by decide) (n := 69) rfl rfl (hO_i (lo := -2147483648) (hi := 2147483647) rfl (by decide)) ?_
      intro m14 I15 W16
      have F17 : Fr l_281 0 0 g μ m14 := F13.w W16 gA0 rfl
      refine w_t (np := 11) (l2 := [some (eR a0), some (eI (2))]) (s2 := [eI (2)]) rfl rfl rfl ?_
      refine b_ine (t1 := 18) (t2 := 14) rfl rfl rfl rfl (fun g18 => ?_) (fun g18 => absurd g18 (by decide))
      refine w_t (np := 19) (l2 := [some (eR a0), some (eI (2))]) (s2 := [eI (0)]) rfl rfl rfl ?_
      refine b_rz rfl rfl (Or.inl rfl) ?_
      show ex_q (dt_fg L ρ) rc (d + 2, (281, 25, [some (eR a0), some (eI (a1)), some (eI (a2)), none], [eI (0)]), f :: F, m14)
      refine b_ine (t1 := 30) (t2 := 28) rfl rfl rfl rfl (fun g19 => absurd g19 (by decide)) (fun g19 => ?_)
      refine w_t (np := 29) (l2 := [some (eR a0), some (eI (a1)), some (eI (a2)), none]) (s2 := [eI (-1)]) rfl rfl rfl ?_
      exact b_ri rfl rfl (K m14 (-1) I15 F17 (by decide))
    · have b9 : 0 ≤ a1 ∧ a1 ≤ 889 := by omega
      have b10 : 0 ≤ v4 ∧ v4 ≤ 889 := by omega
      refine w_t (np := 11) (l2 := [some (eI (a1)), some (eI (0)), some (eI (v4))]) (s2 := [eI (1)]) rfl rfl rfl ?_
      refine w_go (t1 := 15) rfl rfl ?_
      refine b_rz rfl rfl (Or.inr rfl) ?_
      show ex_q (dt_fg L ρ) rc (d + 1, (243, 11, [some (eR a0), some (eI (a1))], [eI (1)]), (281, 6, [some (eR a0), some (eI (a1)), some (eI (a2)), none], [eR a0]) :: f :: F, μ)
      refine b_rz rfl rfl (Or.inr rfl) ?_
      show ex_q (dt_fg L ρ) rc (d + 2, (281, 6, [some (eR a0), some (eI (a1)), some (eI (a2)), none], [eI (1), eR a0]), f :: F, μ)
      refine b_ieq (t1 := 21) (t2 := 9) rfl rfl rfl rfl (fun g9 => absurd g9 (by decide)) (fun g9 => ?_)
      refine w_t (np := 10) (l2 := [some (eR a0), some (eI (a1)), some (eI (a2)), none]) (s2 := [eR a0, eR a0]) rfl (s_an rfl (pos_g hI gA0 (by decide))) rfl ?_
      refine w_t (np := 11) (l2 := [some (eR a0), some (eI (a1)), some (eI (a2)), none]) (s2 := [eI (a2), eR a0, eR a0]) rfl rfl rfl ?_
      refine w_cw (np := 14) (as := [eI (a2)]) (l2 := [some (eR a0), some (eI (a2))]) (rest := [eR a0]) rfl rfl rfl (Nat.ble_eq.mp rfl) rfl rfl rfl (hI.kd gA0 (by decide) (n := 69) rfl) rfl ?_
      refine w_t (np := 1) (l2 := [some (eR a0), some (eI (a2))]) (s2 := [eI (a2)]) rfl rfl rfl ?_
      refine w_t (np := 2) (l2 := [some (eR a0), some (eI (a2))]) (s2 := [eI (0), eI (a2)]) rfl rfl rfl ?_
      refine w_t (np := 3) (l2 := [some (eR a0), some (eI (a2))]) (s2 := [eR a0, eI (0), eI (a2)]) rfl (s_an rfl (pos_g hI gA0 (by decide))) rfl ?_
      refine w_gf (np := 6) (v := eI (v1)) rfl rfl (hI.kd gA0 (by decide) (n := 69) rfl) (by rw [e2]; rfl) ?_
      refine w_t (np := 7) (l2 := [some (eR a0), some (eI (a2))]) (s2 := [eI (1), eI (v1), eI (0), eI (a2)]) rfl rfl rfl ?_
      obtain ⟨v10, e11⟩ : ∃ zz : Int, zz = (v1) - (1) := ⟨_, rfl⟩
      have b12 : -1 ≤ v10 ∧ v10 ≤ 889 := by omega
      refine w_t (np := 8) (l2 := [some (eR a0), some (eI (a2))]) (s2 := [eI (v10), eI (0), eI (a2)]) rfl (b_isub (by rw [← e11]; exact ev_w_in (by omega) (by omega))) rfl ?_
      refine w_cu (np := 11) (as := [eI (a2), eI (0), eI (v10)]) (l2 := [some (eI (a2)), some (eI (0)), some (eI (v10))]) (rest := []) rfl rfl rfl (Nat.ble_eq.mp rfl) rfl rfl rfl rfl ?_
      refine w_t (np := 1) (l2 := [some (eI (a2)), some (eI (0)), some (eI (v10))]) (s2 := [eI (a2)]) rfl rfl rfl ?_
      refine w_t (np := 2) (l2 := [some (eI (a2)), some (eI (0)), some (eI (v10))]) (s2 := [eI (0), eI (a2)]) rfl rfl rfl ?_
      refine b_clt (t1 := 14) (t2 := 5) rfl rfl rfl (ev_w_in (by omega) (by omega)) rfl (fun g13 => ?_) (fun g13 => ?_)
      · have b14 : -2147483648 ≤ a2 ∧ a2 ≤ -1 := by omega
        refine w_t (np := 15) (l2 := [some (eI (a2)), some (eI (0)), some (eI (v10))]) (s2 := [eI (0)]) rfl rfl rfl ?_
        refine b_rz rfl rfl (Or.inl rfl) ?_
        show ex_q (dt_fg L ρ) rc (d + 1, (243, 11, [some (eR a0), some (eI (a2))], [eI (0)]), (281, 14, [some (eR a0), some (eI (a1)), some (eI (a2)), none], [eR a0]) :: f :: F, μ)
        refine b_rz rfl rfl (Or.inl rfl) ?_
        show ex_q (dt_fg L ρ) rc (d + 2, (281, 14, [some (eR a0), some (eI (a1)), some (eI (a2)), none], [eI (0), eR a0]), f :: F, μ)
        refine b_ieq (t1 := 21) (t2 := 17) rfl rfl rfl rfl (fun g14 => ?_) (fun g14 => absurd g14 (by decide))
        refine w_t (np := 22) (l2 := [some (eR a0), some (eI (a1)), some (eI (a2)), none]) (s2 := [eI (2), eR a0]) rfl rfl rfl ?_
        refine w_cw (np := 25) (as := [eI (2)]) (l2 := [some (eR a0), some (eI (2))]) (rest := []) rfl rfl rfl (Nat.ble_eq.mp rfl) rfl rfl rfl (hI.kd gA0 (by decide) (n := 69) rfl) rfl ?_
        refine w_t (np := 1) (l2 := [some (eR a0), some (eI (2))]) (s2 := [eR a0]) rfl (s_an rfl (pos_g hI gA0 (by decide))) rfl ?_
        refine w_t (np := 2) (l2 := [some (eR a0), some (eI (2))]) (s2 := [eI (0), eR a0]) rfl rfl rfl ?_
        refine j_pf (np := 5) (w := 0) rfl rfl hI gA0 (by decide) (n := 69) rfl rfl (hO_i (lo := -2147483648) (hi := 2147483647) rfl (by decide)) ?_
        intro m15 I16 W17
        have F18 : Fr l_281 0 0 g μ m15 := F0.w W17 gA0 rfl
        refine w_t (np := 6) (l2 := [some (eR a0), some (eI (2))]) (s2 := [eR a0]) rfl (s_an rfl (pos_g I16 gA0 (by decide))) rfl ?_
        refine w_t (np := 7) (l2 := [some (eR a0), some (eI (2))]) (s2 := [eI (2), eR a0]) rfl rfl rfl ?_
        refine j_pf (np := 10) (w := 2) rfl rfl I16 gA0 (by decide) (n := 69) rfl rfl (hO_i (lo := -2147483648) (hi := 2147483647) rfl (by decide)) ?_
        intro m19 I20 W21
        have F22 : Fr l_281 0 0 g μ m19 := F18.w W21 gA0 rfl
        refine w_t (np := 11) (l2 := [some (eR a0), some (eI (2))]) (s2 := [eI (2)]) rfl rfl rfl ?_
        refine b_ine (t1 := 18) (t2 := 14) rfl rfl rfl rfl (fun g23 => ?_) (fun g23 => absurd g23 (by decide))
        refine w_t (np := 19) (l2 := [some (eR a0), some (eI (2))]) (s2 := [eI (0)]) rfl rfl rfl ?_
        refine b_rz rfl rfl (Or.inl rfl) ?_
        show ex_q (dt_fg L ρ) rc (d + 2, (281, 25, [some (eR a0), some (eI (a1)), some (eI (a2)), none], [eI (0)]), f :: F, m19)
        refine b_ine (t1 := 30) (t2 := 28) rfl rfl rfl rfl (fun g24 => absurd g24 (by decide)) (fun g24 => ?_)
        refine w_t (np := 29) (l2 := [some (eR a0), some (eI (a1)), some (eI (a2)), none]) (s2 := [eI (-1)]) rfl rfl rfl ?_
        exact b_ri rfl rfl (K m19 (-1) I20 F22 (by decide))
      · have b14 : 0 ≤ a2 ∧ a2 ≤ 2147483647 := by omega
        refine w_t (np := 6) (l2 := [some (eI (a2)), some (eI (0)), some (eI (v10))]) (s2 := [eI (a2)]) rfl rfl rfl ?_
        refine w_t (np := 7) (l2 := [some (eI (a2)), some (eI (0)), some (eI (v10))]) (s2 := [eI (v10), eI (a2)]) rfl rfl rfl ?_
        refine b_cgt (t1 := 14) (t2 := 10) rfl rfl rfl (ev_w_in (by omega) (by omega)) (ev_w_in (by omega) (by omega)) (fun g14 => ?_) (fun g14 => ?_)
        · refine w_t (np := 15) (l2 := [some (eI (a2)), some (eI (0)), some (eI (v10))]) (s2 := [eI (0)]) rfl rfl rfl ?_
          refine b_rz rfl rfl (Or.inl rfl) ?_
          show ex_q (dt_fg L ρ) rc (d + 1, (243, 11, [some (eR a0), some (eI (a2))], [eI (0)]), (281, 14, [some (eR a0), some (eI (a1)), some (eI (a2)), none], [eR a0]) :: f :: F, μ)
          refine b_rz rfl rfl (Or.inl rfl) ?_
          show ex_q (dt_fg L ρ) rc (d + 2, (281, 14, [some (eR a0), some (eI (a1)), some (eI (a2)), none], [eI (0), eR a0]), f :: F, μ)
          refine b_ieq (t1 := 21) (t2 := 17) rfl rfl rfl rfl (fun g15 => ?_) (fun g15 => absurd g15 (by decide))
          refine w_t (np := 22) (l2 := [some (eR a0), some (eI (a1)), some (eI (a2)), none]) (s2 := [eI (2), eR a0]) rfl rfl rfl ?_
          refine w_cw (np := 25) (as := [eI (2)]) (l2 := [some (eR a0), some (eI (2))]) (rest := []) rfl rfl rfl (Nat.ble_eq.mp rfl) rfl rfl rfl (hI.kd gA0 (by decide) (n := 69) rfl) rfl ?_
          refine w_t (np := 1) (l2 := [some (eR a0), some (eI (2))]) (s2 := [eR a0]) rfl (s_an rfl (pos_g hI gA0 (by decide))) rfl ?_
          refine w_t (np := 2) (l2 := [some (eR a0), some (eI (2))]) (s2 := [eI (0), eR a0]) rfl rfl rfl ?_
          refine j_pf (np := 5) (w := 0) rfl rfl hI gA0 (by decide) (n := 69) rfl rfl (hO_i (lo := -2147483648) (hi := 2147483647) rfl (by decide)) ?_
          intro m16 I17 W18
          have F19 : Fr l_281 0 0 g μ m16 := F0.w W18 gA0 rfl
          refine w_t (np := 6) (l2 := [some (eR a0), some (eI (2))]) (s2 := [eR a0]) rfl (s_an rfl (pos_g I17 gA0 (by decide))) rfl ?_
          refine w_t (np := 7) (l2 := [some (eR a0), some (eI (2))]) (s2 := [eI (2), eR a0]) rfl rfl rfl ?_
          refine j_pf (np := 10) (w := 2) rfl rfl I17 gA0 (by decide) (n := 69) rfl rfl (hO_i (lo := -2147483648) (hi := 2147483647) rfl (by decide)) ?_
          intro m20 I21 W22
          have F23 : Fr l_281 0 0 g μ m20 := F19.w W22 gA0 rfl
          refine w_t (np := 11) (l2 := [some (eR a0), some (eI (2))]) (s2 := [eI (2)]) rfl rfl rfl ?_
          refine b_ine (t1 := 18) (t2 := 14) rfl rfl rfl rfl (fun g24 => ?_) (fun g24 => absurd g24 (by decide))
          refine w_t (np := 19) (l2 := [some (eR a0), some (eI (2))]) (s2 := [eI (0)]) rfl rfl rfl ?_
          refine b_rz rfl rfl (Or.inl rfl) ?_
          show ex_q (dt_fg L ρ) rc (d + 2, (281, 25, [some (eR a0), some (eI (a1)), some (eI (a2)), none], [eI (0)]), f :: F, m20)
          refine b_ine (t1 := 30) (t2 := 28) rfl rfl rfl rfl (fun g25 => absurd g25 (by decide)) (fun g25 => ?_)
          refine w_t (np := 29) (l2 := [some (eR a0), some (eI (a1)), some (eI (a2)), none]) (s2 := [eI (-1)]) rfl rfl rfl ?_
          exact b_ri rfl rfl (K m20 (-1) I21 F23 (by decide))
        · have b15 : 0 ≤ a2 ∧ a2 ≤ 889 := by omega
          have b16 : 0 ≤ v10 ∧ v10 ≤ 889 := by omega
          refine w_t (np := 11) (l2 := [some (eI (a2)), some (eI (0)), some (eI (v10))]) (s2 := [eI (1)]) rfl rfl rfl ?_
          refine w_go (t1 := 15) rfl rfl ?_
          refine b_rz rfl rfl (Or.inr rfl) ?_
          show ex_q (dt_fg L ρ) rc (d + 1, (243, 11, [some (eR a0), some (eI (a2))], [eI (1)]), (281, 14, [some (eR a0), some (eI (a1)), some (eI (a2)), none], [eR a0]) :: f :: F, μ)
          refine b_rz rfl rfl (Or.inr rfl) ?_
          show ex_q (dt_fg L ρ) rc (d + 2, (281, 14, [some (eR a0), some (eI (a1)), some (eI (a2)), none], [eI (1), eR a0]), f :: F, μ)
          refine b_ieq (t1 := 21) (t2 := 17) rfl rfl rfl rfl (fun g15 => absurd g15 (by decide)) (fun g15 => ?_)
          refine w_t (np := 18) (l2 := [some (eR a0), some (eI (a1)), some (eI (a2)), none]) (s2 := [eI (0), eR a0]) rfl rfl rfl ?_
          refine w_go (t1 := 22) rfl rfl ?_
          refine w_cw (np := 25) (as := [eI (0)]) (l2 := [some (eR a0), some (eI (0))]) (rest := []) rfl rfl rfl (Nat.ble_eq.mp rfl) rfl rfl rfl (hI.kd gA0 (by decide) (n := 69) rfl) rfl ?_
          refine w_t (np := 1) (l2 := [some (eR a0), some (eI (0))]) (s2 := [eR a0]) rfl (s_an rfl (pos_g hI gA0 (by decide))) rfl ?_
          refine w_t (np := 2) (l2 := [some (eR a0), some (eI (0))]) (s2 := [eI (0), eR a0]) rfl rfl rfl ?_
          refine j_pf (np := 5) (w := 0) rfl rfl hI gA0 (by decide) (n := 69) rfl rfl (hO_i (lo := -2147483648) (hi := 2147483647) rfl (by decide)) ?_
          intro m16 I17 W18
          have F19 : Fr l_281 0 0 g μ m16 := F0.w W18 gA0 rfl
          refine w_t (np := 6) (l2 := [some (eR a0), some (eI (0))]) (s2 := [eR a0]) rfl (s_an rfl (pos_g I17 gA0 (by decide))) rfl ?_
          refine w_t (np := 7) (l2 := [some (eR a0), some (eI (0))]) (s2 := [eI (0), eR a0]) rfl rfl rfl ?_
          refine j_pf (np := 10) (w := 0) rfl rfl I17 gA0 (by decide) (n := 69) rfl rfl (hO_i (lo := -2147483648) (hi := 2147483647) rfl (by decide)) ?_
          intro m20 I21 W22
          have F23 : Fr l_281 0 0 g μ m20 := F19.w W22 gA0 rfl
          refine w_t (np := 11) (l2 := [some (eR a0), some (eI (0))]) (s2 := [eI (0)]) rfl rfl rfl ?_
          refine b_ine (t1 := 18) (t2 := 14) rfl rfl rfl rfl (fun g24 => absurd g24 (by decide)) (fun g24 => ?_)
          refine w_t (np := 15) (l2 := [some (eR a0), some (eI (0))]) (s2 := [eI (1)]) rfl rfl rfl ?_
          refine w_go (t1 := 19) rfl rfl ?_
          refine b_rz rfl rfl (Or.inr rfl) ?_
          show ex_q (dt_fg L ρ) rc (d + 2, (281, 25, [some (eR a0), some (eI (a1)), some (eI (a2)), none], [eI (1)]), f :: F, m20)
          refine b_ine (t1 := 30) (t2 := 28) rfl rfl rfl rfl (fun g25 => ?_) (fun g25 => absurd g25 (by decide))
          refine w_t (np := 31) (l2 := [some (eR a0), some (eI (a1)), some (eI (a2)), none]) (s2 := [eI (0)]) rfl rfl rfl ?_
          refine w_t (np := 32) (l2 := [some (eR a0), some (eI (a1)), some (eI (a2)), some (eI (0))]) (s2 := []) rfl rfl rfl ?_
          have hL32 : ∀ (n26 : Nat) (m30 : eM) (i28 : Int), SI g m30 → Fr l_281 0 0 g μ m30 → (0 ≤ i28 ∧ i28 ≤ 6) → m30.1 a0 8 = v1 → m30.1 a0 1 = 0 → m30.1 a0 0 = 0 → n26 = (6 - i28).toNat → ex_q (dt_fg L ρ) rc (d + 2, (281, 32, [some (eR a0), some (eI (a1)), some (eI (a2)), some (eI (i28))], []), f :: F, m30) := by
            intro n26
            induction n26 using Nat.strongRecOn with
            | _ n26 ih27 =>
            intro m30 i28 I31 F32 b29 k33 k34 k35 hn36
            refine w_t (np := 33) (l2 := [some (eR a0), some (eI (a1)), some (eI (a2)), some (eI (i28))]) (s2 := [eI (i28)]) rfl rfl rfl ?_
            refine w_t (np := 34) (l2 := [some (eR a0), some (eI (a1)), some (eI (a2)), some (eI (i28))]) (s2 := [eR a0, eI (i28)]) rfl (s_an rfl (pos_g I31 gA0 (by decide))) rfl ?_
            refine j_gi (np := 37) rfl rfl rfl I31 gA0 (by decide) (n := 69) rfl rfl (lo := 0) (hi := 5) rfl ?_
            intro v37 e38 b39
            refine b_cgt (t1 := 68) (t2 := 40) rfl rfl rfl (ev_w_in (by omega) (by omega)) (ev_w_in (by omega) (by omega)) (fun g40 => ?_) (fun g40 => ?_)
            · have b41 : 1 ≤ i28 ∧ i28 ≤ 6 := by omega
              refine w_t (np := 69) (l2 := [some (eR a0), some (eI (a1)), some (eI (a2)), some (eI (i28))]) (s2 := [eR a0]) rfl (s_an rfl (pos_g I31 gA0 (by decide))) rfl ?_
              refine w_t (np := 70) (l2 := [some (eR a0), some (eI (a1)), some (eI (a2)), some (eI (i28))]) (s2 := [eI (5), eR a0]) rfl rfl rfl ?_
              refine w_cw (np := 73) (as := [eI (5)]) (l2 := [some (eR a0), some (eI (5))]) (rest := []) rfl rfl rfl (Nat.ble_eq.mp rfl) rfl rfl rfl (I31.kd gA0 (by decide) (n := 69) rfl) rfl ?_
              refine w_t (np := 1) (l2 := [some (eR a0), some (eI (5))]) (s2 := [eR a0]) rfl (s_an rfl (pos_g I31 gA0 (by decide))) rfl ?_
              refine w_t (np := 2) (l2 := [some (eR a0), some (eI (5))]) (s2 := [eI (5), eR a0]) rfl rfl rfl ?_
              refine j_pf (np := 5) (w := 5) rfl rfl I31 gA0 (by decide) (n := 69) rfl rfl (hO_i (lo := -2147483648) (hi := 2147483647) rfl (by decide)) ?_
              intro m41 I42 W43
              have F44 : Fr l_281 0 0 g μ m41 := F32.w W43 gA0 rfl
              refine w_t (np := 6) (l2 := [some (eR a0), some (eI (5))]) (s2 := [eI (-1)]) rfl rfl rfl ?_
              refine b_ri rfl rfl ?_
              show ex_q (dt_fg L ρ) rc (d + 2, (281, 73, [some (eR a0), some (eI (a1)), some (eI (a2)), some (eI (i28))], [eI (-1)]), f :: F, m41)
              exact b_ri rfl rfl (K m41 (-1) I42 F44 (by decide))
            · have b41 : 0 ≤ i28 ∧ i28 ≤ 5 := by omega
              refine w_t (np := 41) (l2 := [some (eR a0), some (eI (a1)), some (eI (a2)), some (eI (i28))]) (s2 := [eR a0]) rfl (s_an rfl (pos_g I31 gA0 (by decide))) rfl ?_
              refine w_t (np := 42) (l2 := [some (eR a0), some (eI (a1)), some (eI (a2)), some (eI (i28))]) (s2 := [eI (a1), eR a0]) rfl rfl rfl ?_
              refine w_t (np := 43) (l2 := [some (eR a0), some (eI (a1)), some (eI (a2)), some (eI (i28))]) (s2 := [eI (i28), eI (a1), eR a0]) rfl rfl rfl ?_
              refine w_cw (np := 46) (as := [eI (a1), eI (i28)]) (l2 := [some (eR a0), some (eI (a1)), some (eI (i28)), none, none]) (rest := []) rfl rfl rfl (Nat.ble_eq.mp rfl) rfl rfl rfl (I31.kd gA0 (by decide) (n := 69) rfl) rfl ?_
              refine s_269 (a1 := a1) (a2 := i28) I31 gA0 (by omega) (by omega) e38 (by omega) ?_
              intro v41 b42
              show ex_q (dt_fg L ρ) rc (d + 2, (281, 46, [some (eR a0), some (eI (a1)), some (eI (a2)), some (eI (i28))], [eI (v41)]), f :: F, m30)
              refine w_t (np := 47) (l2 := [some (eR a0), some (eI (a1)), some (eI (a2)), some (eI (i28))]) (s2 := [eR a0, eI (v41)]) rfl (s_an rfl (pos_g I31 gA0 (by decide))) rfl ?_
              refine w_t (np := 48) (l2 := [some (eR a0), some (eI (a1)), some (eI (a2)), some (eI (i28))]) (s2 := [eI (a2), eR a0, eI (v41)]) rfl rfl rfl ?_
              refine w_t (np := 49) (l2 := [some (eR a0), some (eI (a1)), some (eI (a2)), some (eI (i28))]) (s2 := [eI (i28), eI (a2), eR a0, eI (v41)]) rfl rfl rfl ?_
              refine w_cw (np := 52) (as := [eI (a2), eI (i28)]) (l2 := [some (eR a0), some (eI (a2)), some (eI (i28)), none, none]) (rest := [eI (v41)]) rfl rfl rfl (Nat.ble_eq.mp rfl) rfl rfl rfl (I31.kd gA0 (by decide) (n := 69) rfl) rfl ?_
              refine s_269 (a1 := a2) (a2 := i28) I31 gA0 (by omega) (by omega) e38 (by omega) ?_
              intro v43 b44
              show ex_q (dt_fg L ρ) rc (d + 2, (281, 52, [some (eR a0), some (eI (a1)), some (eI (a2)), some (eI (i28))], [eI (v43), eI (v41)]), f :: F, m30)
              refine b_cne (t1 := 62) (t2 := 55) rfl rfl rfl (ev_w_in (by omega) (by omega)) (ev_w_in (by omega) (by omega)) (fun g45 => ?_) (fun g45 => ?_)
              · obtain ⟨v46, e47⟩ : ∃ zz : Int, zz = (i28) + (1) := ⟨_, rfl⟩
                have b48 : 1 ≤ v46 ∧ v46 ≤ 6 := by omega
                refine w_t (np := 65) (l2 := [some (eR a0), some (eI (a1)), some (eI (a2)), some (eI (v46))]) (s2 := []) rfl (b_iinc rfl (by rw [← e47]; exact ev_w_in (by omega) (by omega)) rfl) rfl ?_
                refine w_go (t1 := 32) rfl rfl ?_
                exact ih27 (6 - (v46)).toNat (by omega) m30 (v46) I31 F32 (by omega) k33 k34 k35    rfl
              · refine w_t (np := 56) (l2 := [some (eR a0), some (eI (a1)), some (eI (a2)), some (eI (i28))]) (s2 := [eR a0]) rfl (s_an rfl (pos_g I31 gA0 (by decide))) rfl ?_
                refine w_gf (np := 59) (v := eI (v37)) rfl rfl (I31.kd gA0 (by decide) (n := 69) rfl) (by rw [e38]; rfl) ?_
                refine w_t (np := 60) (l2 := [some (eR a0), some (eI (a1)), some (eI (a2)), some (eI (i28))]) (s2 := [eI (i28), eI (v37)]) rfl rfl rfl ?_
                obtain ⟨v46, e47⟩ : ∃ zz : Int, zz = (v37) - (i28) := ⟨_, rfl⟩
                have b48 : -5 ≤ v46 ∧ v46 ≤ 5 := by omega
                refine w_t (np := 61) (l2 := [some (eR a0), some (eI (a1)), some (eI (a2)), some (eI (i28))]) (s2 := [eI (v46)]) rfl (b_isub (by rw [← e47]; exact ev_w_in (by omega) (by omega))) rfl ?_
                exact b_ri rfl rfl (K m30 (v46) I31 F32 (by omega))
          exact hL32 _ m20 (0) I21 F23 (by decide) (W22.slot (W18.slot e2 (by decide)) (by decide)) (W22.slot W18.at (by decide)) W22.at    rfl
theorem s_282 {L : Nat} {ρ : Nat → Int} {rc : eQ} {d : Nat} {f : eFr} {F : List eFr} {μ : eM} {g : Nat → Nat} {a0 : Nat} {a1 : Int} {a2 : Int} {a3 : Int} (hI : SI g μ) (gA0 : g a0 = 52) (bA1 : 0 ≤ a1 ∧ a1 ≤ 889) (bA2 : -2147483648 ≤ a2 ∧ a2 ≤ 2147483647) (bA3 : -2147483648 ≤ a3 ∧ a3 ≤ 2147483647) (K : ∀ (v : Int), (0 ≤ v ∧ v ≤ 1) → ex_q (dt_fg L ρ) rc (d + 3, (f.1, f.2.1, f.2.2.1, eI v :: f.2.2.2), F, μ)) : ex_q (dt_fg L ρ) rc (d + 2, (282, 0, [some (eR a0), some (eI (a1)), some (eI (a2)), some (eI (a3))], []), f :: F, μ) := by
  refine w_t (np := 1) (l2 := [some (eR a0), some (eI (a1)), some (eI (a2)), some (eI (a3))]) (s2 := [eR a0]) rfl (s_an rfl (pos_g hI gA0 (by decide))) rfl ?_
  refine w_t (np := 2) (l2 := [some (eR a0), some (eI (a1)), some (eI (a2)), some (eI (a3))]) (s2 := [eI (a1), eR a0]) rfl rfl rfl ?_
  refine w_t (np := 3) (l2 := [some (eR a0), some (eI (a1)), some (eI (a2)), some (eI (a3))]) (s2 := [eI (a2), eI (a1), eR a0]) rfl rfl rfl ?_
  refine w_t (np := 4) (l2 := [some (eR a0), some (eI (a1)), some (eI (a2)), some (eI (a3))]) (s2 := [eI (a3), eI (a2), eI (a1), eR a0]) rfl rfl rfl ?_
  refine w_cw (np := 7) (as := [eI (a1), eI (a2), eI (a3)]) (l2 := [some (eR a0), some (eI (a1)), some (eI (a2)), some (eI (a3))]) (rest := []) rfl rfl rfl (Nat.ble_eq.mp rfl) rfl rfl rfl (hI.kd gA0 (by decide) (n := 69) rfl) rfl ?_
  refine s_241 (a1 := a1) (a2 := a2) (a3 := a3) hI gA0 (by omega) (by omega) (by omega) ?_
  intro v1 b2
  show ex_q (dt_fg L ρ) rc (d + 2, (282, 7, [some (eR a0), some (eI (a1)), some (eI (a2)), some (eI (a3))], [eI (v1)]), f :: F, μ)
  refine b_ine (t1 := 30) (t2 := 10) rfl rfl rfl (ev_w_in (by omega) (by omega)) (fun g3 => ?_) (fun g3 => ?_)
  · have b4 : 1 ≤ v1 ∧ v1 ≤ 1 := by omega
    refine w_t (np := 31) (l2 := [some (eR a0), some (eI (a1)), some (eI (a2)), some (eI (a3))]) (s2 := [eI (1)]) rfl rfl rfl ?_
    refine w_go (t1 := 35) rfl rfl ?_
    exact b_rz rfl rfl (Or.inr rfl) (K (1) (by decide))
  · have b4 : 0 ≤ v1 ∧ v1 ≤ 0 := by omega
    refine w_t (np := 11) (l2 := [some (eR a0), some (eI (a1)), some (eI (a2)), some (eI (a3))]) (s2 := [eR a0]) rfl (s_an rfl (pos_g hI gA0 (by decide))) rfl ?_
    refine w_t (np := 12) (l2 := [some (eR a0), some (eI (a1)), some (eI (a2)), some (eI (a3))]) (s2 := [eI (a1), eR a0]) rfl rfl rfl ?_
    refine w_t (np := 13) (l2 := [some (eR a0), some (eI (a1)), some (eI (a2)), some (eI (a3))]) (s2 := [eI (1), eI (a1), eR a0]) rfl rfl rfl ?_
    refine w_cw (np := 16) (as := [eI (a1), eI (1)]) (l2 := [some (eR a0), some (eI (a1)), some (eI (1))]) (rest := []) rfl rfl rfl (Nat.ble_eq.mp rfl) rfl rfl rfl (hI.kd gA0 (by decide) (n := 69) rfl) rfl ?_
    refine w_t (np := 1) (l2 := [some (eR a0), some (eI (a1)), some (eI (1))]) (s2 := [eR a0]) rfl (s_an rfl (pos_g hI gA0 (by decide))) rfl ?_
    refine j_gr (np := 4) rfl rfl hI gA0 (by decide) (n := 69) rfl rfl rfl ?_
    intro v4 e5 b6 z7
    have b6 : g v4 = 64 := Nat.eq_of_beq_eq_true b6
    refine w_t (np := 5) (l2 := [some (eR a0), some (eI (a1)), some (eI (1))]) (s2 := [eI (3), eR v4]) rfl rfl rfl ?_
    refine w_t (np := 6) (l2 := [some (eR a0), some (eI (a1)), some (eI (1))]) (s2 := [eI (a1), eI (3), eR v4]) rfl rfl rfl ?_
    obtain ⟨v8, e9⟩ : ∃ zz : Int, zz = (3) * (a1) := ⟨_, rfl⟩
    have b10 : 0 ≤ v8 ∧ v8 ≤ 2667 := by omega
    refine w_t (np := 7) (l2 := [some (eR a0), some (eI (a1)), some (eI (1))]) (s2 := [eI (v8), eR v4]) rfl (b_imul (by rw [← e9]; exact ev_w_in (by omega) (by omega))) rfl ?_
    refine w_t (np := 8) (l2 := [some (eR a0), some (eI (a1)), some (eI (1))]) (s2 := [eI (1), eI (v8), eR v4]) rfl rfl rfl ?_
    obtain ⟨v11, e12⟩ : ∃ zz : Int, zz = (v8) + (1) := ⟨_, rfl⟩
    have b13 : 1 ≤ v11 ∧ v11 ≤ 2668 := by omega
    refine w_t (np := 9) (l2 := [some (eR a0), some (eI (a1)), some (eI (1))]) (s2 := [eI (v11), eR v4]) rfl (b_iadd (by rw [← e12]; exact ev_w_in (by omega) (by omega))) rfl ?_
    refine j_al (np := 10) rfl rfl hI b6 (by decide) (n := 2670) rfl rfl (lo := 0) (hi := 2669) (fun _ => rfl) (by omega) (by omega) ?_
    intro v14 e15 b16
    refine b_ri rfl rfl ?_
    show ex_q (dt_fg L ρ) rc (d + 2, (282, 16, [some (eR a0), some (eI (a1)), some (eI (a2)), some (eI (a3))], [eI (v14)]), f :: F, μ)
    refine w_t (np := 17) (l2 := [some (eR a0), some (eI (a1)), some (eI (a2)), some (eI (a3))]) (s2 := [eR a0, eI (v14)]) rfl (s_an rfl (pos_g hI gA0 (by decide))) rfl ?_
    refine w_t (np := 18) (l2 := [some (eR a0), some (eI (a1)), some (eI (a2)), some (eI (a3))]) (s2 := [eI (a1), eR a0, eI (v14)]) rfl rfl rfl ?_
    refine w_t (np := 19) (l2 := [some (eR a0), some (eI (a1)), some (eI (a2)), some (eI (a3))]) (s2 := [eI (2), eI (a1), eR a0, eI (v14)]) rfl rfl rfl ?_
    refine w_cw (np := 22) (as := [eI (a1), eI (2)]) (l2 := [some (eR a0), some (eI (a1)), some (eI (2))]) (rest := [eI (v14)]) rfl rfl rfl (Nat.ble_eq.mp rfl) rfl rfl rfl (hI.kd gA0 (by decide) (n := 69) rfl) rfl ?_
    refine w_t (np := 1) (l2 := [some (eR a0), some (eI (a1)), some (eI (2))]) (s2 := [eR a0]) rfl (s_an rfl (pos_g hI gA0 (by decide))) rfl ?_
    refine w_gf (np := 4) (v := eR v4) rfl rfl (hI.kd gA0 (by decide) (n := 69) rfl) (by rw [e5]; rfl) ?_
    refine w_t (np := 5) (l2 := [some (eR a0), some (eI (a1)), some (eI (2))]) (s2 := [eI (3), eR v4]) rfl rfl rfl ?_
    refine w_t (np := 6) (l2 := [some (eR a0), some (eI (a1)), some (eI (2))]) (s2 := [eI (a1), eI (3), eR v4]) rfl rfl rfl ?_
    obtain ⟨v17, e18⟩ : ∃ zz : Int, zz = (3) * (a1) := ⟨_, rfl⟩
    have b19 : 0 ≤ v17 ∧ v17 ≤ 2667 := by omega
    refine w_t (np := 7) (l2 := [some (eR a0), some (eI (a1)), some (eI (2))]) (s2 := [eI (v17), eR v4]) rfl (b_imul (by rw [← e18]; exact ev_w_in (by omega) (by omega))) rfl ?_
    refine w_t (np := 8) (l2 := [some (eR a0), some (eI (a1)), some (eI (2))]) (s2 := [eI (2), eI (v17), eR v4]) rfl rfl rfl ?_
    obtain ⟨v20, e21⟩ : ∃ zz : Int, zz = (v17) + (2) := ⟨_, rfl⟩
    have b22 : 2 ≤ v20 ∧ v20 ≤ 2669 := by omega
    refine w_t (np := 9) (l2 := [some (eR a0), some (eI (a1)), some (eI (2))]) (s2 := [eI (v20), eR v4]) rfl (b_iadd (by rw [← e21]; exact ev_w_in (by omega) (by omega))) rfl ?_
    refine j_al (np := 10) rfl rfl hI b6 (by decide) (n := 2670) rfl rfl (lo := 0) (hi := 2669) (fun _ => rfl) (by omega) (by omega) ?_
    intro v23 e24 b25
    refine b_ri rfl rfl ?_
    show ex_q (dt_fg L ρ) rc (d + 2, (282, 22, [some (eR a0), some (eI (a1)), some (eI (a2)), some (eI (a3))], [eI (v23), eI (v14)]), f :: F, μ)
    refine w_t (np := 23) (l2 := [some (eR a0), some (eI (a1)), some (eI (a2)), some (eI (a3))]) (s2 := [eI (a2), eI (v23), eI (v14)]) rfl rfl rfl ?_
    refine w_t (np := 24) (l2 := [some (eR a0), some (eI (a1)), some (eI (a2)), some (eI (a3))]) (s2 := [eI (a3), eI (a2), eI (v23), eI (v14)]) rfl rfl rfl ?_
    refine w_cu (np := 27) (as := [eI (v14), eI (v23), eI (a2), eI (a3)]) (l2 := [some (eI (v14)), some (eI (v23)), some (eI (a2)), some (eI (a3))]) (rest := []) rfl rfl rfl (Nat.ble_eq.mp rfl) rfl rfl rfl rfl ?_
    refine s_240 (a0 := v14) (a1 := v23) (a2 := a2) (a3 := a3) hI (by omega) (by omega) (by omega) (by omega) ?_
    intro v26 b27
    show ex_q (dt_fg L ρ) rc (d + 2, (282, 27, [some (eR a0), some (eI (a1)), some (eI (a2)), some (eI (a3))], [eI (v26)]), f :: F, μ)
    refine b_ieq (t1 := 34) (t2 := 30) rfl rfl rfl (ev_w_in (by omega) (by omega)) (fun g28 => ?_) (fun g28 => ?_)
    · have b29 : 0 ≤ v26 ∧ v26 ≤ 0 := by omega
      refine w_t (np := 35) (l2 := [some (eR a0), some (eI (a1)), some (eI (a2)), some (eI (a3))]) (s2 := [eI (0)]) rfl rfl rfl ?_
      exact b_rz rfl rfl (Or.inl rfl) (K (0) (by decide))
    · have b29 : 1 ≤ v26 ∧ v26 ≤ 1 := by omega
      refine w_t (np := 31) (l2 := [some (eR a0), some (eI (a1)), some (eI (a2)), some (eI (a3))]) (s2 := [eI (1)]) rfl rfl rfl ?_
      refine w_go (t1 := 35) rfl rfl ?_
      exact b_rz rfl rfl (Or.inr rfl) (K (1) (by decide))
theorem s_283 {L : Nat} {ρ : Nat → Int} {rc : eQ} {d : Nat} {f : eFr} {F : List eFr} {μ : eM} {g : Nat → Nat} {a0 : Nat} {a1 : Int} (hI : SI g μ) (gA0 : g a0 = 52) (bA1 : 0 ≤ a1 ∧ a1 ≤ 889) (K : ∀ (v : Int), (-1 ≤ v ∧ v ≤ 889) → ex_q (dt_fg L ρ) rc (d + 4, (f.1, f.2.1, f.2.2.1, eI v :: f.2.2.2), F, μ)) : ex_q (dt_fg L ρ) rc (d + 3, (283, 0, [some (eR a0), some (eI (a1)), none], []), f :: F, μ) := by
  refine w_t (np := 1) (l2 := [some (eR a0), some (eI (a1)), none]) (s2 := [eI (0)]) rfl rfl rfl ?_
  refine w_t (np := 2) (l2 := [some (eR a0), some (eI (a1)), some (eI (0))]) (s2 := []) rfl rfl rfl ?_
  have hL2 : ∀ (n1 : Nat) (i3 : Int), (0 ≤ i3 ∧ i3 ≤ 890) → n1 = (890 - i3).toNat → ex_q (dt_fg L ρ) rc (d + 3, (283, 2, [some (eR a0), some (eI (a1)), some (eI (i3))], []), f :: F, μ) := by
    intro n1
    induction n1 using Nat.strongRecOn with
    | _ n1 ih2 =>
    intro i3 b4 hn5
    refine w_t (np := 3) (l2 := [some (eR a0), some (eI (a1)), some (eI (i3))]) (s2 := [eI (i3)]) rfl rfl rfl ?_
    refine w_t (np := 4) (l2 := [some (eR a0), some (eI (a1)), some (eI (i3))]) (s2 := [eR a0, eI (i3)]) rfl (s_an rfl (pos_g hI gA0 (by decide))) rfl ?_
    refine j_gi (np := 7) rfl rfl rfl hI gA0 (by decide) (n := 69) rfl rfl (lo := 0) (hi := 890) rfl ?_
    intro v6 e7 b8
    refine b_cge (t1 := 43) (t2 := 10) rfl rfl rfl (ev_w_in (by omega) (by omega)) (ev_w_in (by omega) (by omega)) (fun g9 => ?_) (fun g9 => ?_)
    · refine w_t (np := 44) (l2 := [some (eR a0), some (eI (a1)), some (eI (i3))]) (s2 := [eI (-1)]) rfl rfl rfl ?_
      exact b_ri rfl rfl (K (-1) (by decide))
    · have b10 : 0 ≤ i3 ∧ i3 ≤ 889 := by omega
      have b11 : 1 ≤ v6 ∧ v6 ≤ 890 := by omega
      refine w_t (np := 11) (l2 := [some (eR a0), some (eI (a1)), some (eI (i3))]) (s2 := [eI (i3)]) rfl rfl rfl ?_
      refine w_t (np := 12) (l2 := [some (eR a0), some (eI (a1)), some (eI (i3))]) (s2 := [eI (a1), eI (i3)]) rfl rfl rfl ?_
      refine b_ceq (t1 := 37) (t2 := 15) rfl rfl rfl (ev_w_in (by omega) (by omega)) (ev_w_in (by omega) (by omega)) (fun g10 => ?_) (fun g10 => ?_)
      · obtain ⟨v11, e12⟩ : ∃ zz : Int, zz = (i3) + (1) := ⟨_, rfl⟩
        have b13 : 1 ≤ v11 ∧ v11 ≤ 890 := by omega
        refine w_t (np := 40) (l2 := [some (eR a0), some (eI (a1)), some (eI (v11))]) (s2 := []) rfl (b_iinc rfl (by rw [← e12]; exact ev_w_in (by omega) (by omega)) rfl) rfl ?_
        refine w_go (t1 := 2) rfl rfl ?_
        exact ih2 (890 - (v11)).toNat (by omega) (v11) (by omega)     rfl
      · refine w_t (np := 16) (l2 := [some (eR a0), some (eI (a1)), some (eI (i3))]) (s2 := [eR a0]) rfl (s_an rfl (pos_g hI gA0 (by decide))) rfl ?_
        refine w_t (np := 17) (l2 := [some (eR a0), some (eI (a1)), some (eI (i3))]) (s2 := [eI (i3), eR a0]) rfl rfl rfl ?_
        refine w_t (np := 18) (l2 := [some (eR a0), some (eI (a1)), some (eI (i3))]) (s2 := [eR a0, eI (i3), eR a0]) rfl (s_an rfl (pos_g hI gA0 (by decide))) rfl ?_
        refine w_t (np := 19) (l2 := [some (eR a0), some (eI (a1)), some (eI (i3))]) (s2 := [eI (a1), eR a0, eI (i3), eR a0]) rfl rfl rfl ?_
        refine w_t (np := 20) (l2 := [some (eR a0), some (eI (a1)), some (eI (i3))]) (s2 := [eI (1), eI (a1), eR a0, eI (i3), eR a0]) rfl rfl rfl ?_
        refine w_cw (np := 23) (as := [eI (a1), eI (1)]) (l2 := [some (eR a0), some (eI (a1)), some (eI (1))]) (rest := [eI (i3), eR a0]) rfl rfl rfl (Nat.ble_eq.mp rfl) rfl rfl rfl (hI.kd gA0 (by decide) (n := 69) rfl) rfl ?_
        refine w_t (np := 1) (l2 := [some (eR a0), some (eI (a1)), some (eI (1))]) (s2 := [eR a0]) rfl (s_an rfl (pos_g hI gA0 (by decide))) rfl ?_
        refine j_gr (np := 4) rfl rfl hI gA0 (by decide) (n := 69) rfl rfl rfl ?_
        intro v11 e12 b13 z14
        have b13 : g v11 = 64 := Nat.eq_of_beq_eq_true b13
        refine w_t (np := 5) (l2 := [some (eR a0), some (eI (a1)), some (eI (1))]) (s2 := [eI (3), eR v11]) rfl rfl rfl ?_
        refine w_t (np := 6) (l2 := [some (eR a0), some (eI (a1)), some (eI (1))]) (s2 := [eI (a1), eI (3), eR v11]) rfl rfl rfl ?_
        obtain ⟨v15, e16⟩ : ∃ zz : Int, zz = (3) * (a1) := ⟨_, rfl⟩
        have b17 : 0 ≤ v15 ∧ v15 ≤ 2667 := by omega
        refine w_t (np := 7) (l2 := [some (eR a0), some (eI (a1)), some (eI (1))]) (s2 := [eI (v15), eR v11]) rfl (b_imul (by rw [← e16]; exact ev_w_in (by omega) (by omega))) rfl ?_
        refine w_t (np := 8) (l2 := [some (eR a0), some (eI (a1)), some (eI (1))]) (s2 := [eI (1), eI (v15), eR v11]) rfl rfl rfl ?_
        obtain ⟨v18, e19⟩ : ∃ zz : Int, zz = (v15) + (1) := ⟨_, rfl⟩
        have b20 : 1 ≤ v18 ∧ v18 ≤ 2668 := by omega
        refine w_t (np := 9) (l2 := [some (eR a0), some (eI (a1)), some (eI (1))]) (s2 := [eI (v18), eR v11]) rfl (b_iadd (by rw [← e19]; exact ev_w_in (by omega) (by omega))) rfl ?_
        refine j_al (np := 10) rfl rfl hI b13 (by decide) (n := 2670) rfl rfl (lo := 0) (hi := 2669) (fun _ => rfl) (by omega) (by omega) ?_
        intro v21 e22 b23
        refine b_ri rfl rfl ?_
        show ex_q (dt_fg L ρ) rc (d + 3, (283, 23, [some (eR a0), some (eI (a1)), some (eI (i3))], [eI (v21), eI (i3), eR a0]), f :: F, μ)
        refine w_t (np := 24) (l2 := [some (eR a0), some (eI (a1)), some (eI (i3))]) (s2 := [eR a0, eI (v21), eI (i3), eR a0]) rfl (s_an rfl (pos_g hI gA0 (by decide))) rfl ?_
        refine w_t (np := 25) (l2 := [some (eR a0), some (eI (a1)), some (eI (i3))]) (s2 := [eI (a1), eR a0, eI (v21), eI (i3), eR a0]) rfl rfl rfl ?_
        refine w_t (np := 26) (l2 := [some (eR a0), some (eI (a1)), some (eI (i3))]) (s2 := [eI (2), eI (a1), eR a0, eI (v21), eI (i3), eR a0]) rfl rfl rfl ?_
        refine w_cw (np := 29) (as := [eI (a1), eI (2)]) (l2 := [some (eR a0), some (eI (a1)), some (eI (2))]) (rest := [eI (v21), eI (i3), eR a0]) rfl rfl rfl (Nat.ble_eq.mp rfl) rfl rfl rfl (hI.kd gA0 (by decide) (n := 69) rfl) rfl ?_
        refine w_t (np := 1) (l2 := [some (eR a0), some (eI (a1)), some (eI (2))]) (s2 := [eR a0]) rfl (s_an rfl (pos_g hI gA0 (by decide))) rfl ?_
        refine w_gf (np := 4) (v := eR v11) rfl rfl (hI.kd gA0 (by decide) (n := 69) rfl) (by rw [e12]; rfl) ?_
        refine w_t (np := 5) (l2 := [some (eR a0), some (eI (a1)), some (eI (2))]) (s2 := [eI (3), eR v11]) rfl rfl rfl ?_
        refine w_t (np := 6) (l2 := [some (eR a0), some (eI (a1)), some (eI (2))]) (s2 := [eI (a1), eI (3), eR v11]) rfl rfl rfl ?_
        obtain ⟨v24, e25⟩ : ∃ zz : Int, zz = (3) * (a1) := ⟨_, rfl⟩
        have b26 : 0 ≤ v24 ∧ v24 ≤ 2667 := by omega
        refine w_t (np := 7) (l2 := [some (eR a0), some (eI (a1)), some (eI (2))]) (s2 := [eI (v24), eR v11]) rfl (b_imul (by rw [← e25]; exact ev_w_in (by omega) (by omega))) rfl ?_
        refine w_t (np := 8) (l2 := [some (eR a0), some (eI (a1)), some (eI (2))]) (s2 := [eI (2), eI (v24), eR v11]) rfl rfl rfl ?_
        obtain ⟨v27, e28⟩ : ∃ zz : Int, zz = (v24) + (2) := ⟨_, rfl⟩
        have b29 : 2 ≤ v27 ∧ v27 ≤ 2669 := by omega
        refine w_t (np := 9) (l2 := [some (eR a0), some (eI (a1)), some (eI (2))]) (s2 := [eI (v27), eR v11]) rfl (b_iadd (by rw [← e28]; exact ev_w_in (by omega) (by omega))) rfl ?_
        refine j_al (np := 10) rfl rfl hI b13 (by decide) (n := 2670) rfl rfl (lo := 0) (hi := 2669) (fun _ => rfl) (by omega) (by omega) ?_
        intro v30 e31 b32
        refine b_ri rfl rfl ?_
        show ex_q (dt_fg L ρ) rc (d + 3, (283, 29, [some (eR a0), some (eI (a1)), some (eI (i3))], [eI (v30), eI (v21), eI (i3), eR a0]), f :: F, μ)
        refine w_cw (np := 32) (as := [eI (i3), eI (v21), eI (v30)]) (l2 := [some (eR a0), some (eI (i3)), some (eI (v21)), some (eI (v30))]) (rest := []) rfl rfl rfl (Nat.ble_eq.mp rfl) rfl rfl rfl (hI.kd gA0 (by decide) (n := 69) rfl) rfl ?_
        refine s_282 (a1 := i3) (a2 := v21) (a3 := v30) hI gA0 (by omega) (by omega) (by omega) ?_
        intro v33 b34
        show ex_q (dt_fg L ρ) rc (d + 3, (283, 32, [some (eR a0), some (eI (a1)), some (eI (i3))], [eI (v33)]), f :: F, μ)
        refine b_ieq (t1 := 37) (t2 := 35) rfl rfl rfl (ev_w_in (by omega) (by omega)) (fun g35 => ?_) (fun g35 => ?_)
        · have b36 : 0 ≤ v33 ∧ v33 ≤ 0 := by omega
          obtain ⟨v36, e37⟩ : ∃ zz : Int, zz = (i3) + (1) := ⟨_, rfl⟩
          have b38 : 1 ≤ v36 ∧ v36 ≤ 890 := by omega
          refine w_t (np := 40) (l2 := [some (eR a0), some (eI (a1)), some (eI (v36))]) (s2 := []) rfl (b_iinc rfl (by rw [← e37]; exact ev_w_in (by omega) (by omega)) rfl) rfl ?_
          refine w_go (t1 := 2) rfl rfl ?_
          exact ih2 (890 - (v36)).toNat (by omega) (v36) (by omega)     rfl
        · have b36 : 1 ≤ v33 ∧ v33 ≤ 1 := by omega
          refine w_t (np := 36) (l2 := [some (eR a0), some (eI (a1)), some (eI (i3))]) (s2 := [eI (i3)]) rfl rfl rfl ?_
          exact b_ri rfl rfl (K (i3) (by omega))
  exact hL2 _ (0) (by decide)     rfl
def l_284 : List Nat := [13354, 19456, 19712]
theorem s_284 {L : Nat} {ρ : Nat → Int} {rc : eQ} {d : Nat} {f : eFr} {F : List eFr} {μ : eM} {g : Nat → Nat} {a0 : Nat} {a1 : Int} {a2 : Int} {qd : Int} (hI : SI g μ) (gA0 : g a0 = 52) (bA1 : -1 ≤ a1 ∧ a1 ≤ 889) (bA2 : -2147483648 ≤ a2 ∧ a2 ≤ 2147483647) (h_qd : μ.1 a0 41 = qd) (h_QF : QF g μ) (hp0 : 0 ≤ a2) (hp1 : a2 ≤ qd) (K : ∀ (μ2 : eM) (qd2 : Int), SI g μ2 → Fr l_284 0 0 g μ μ2 → μ2.1 a0 41 = qd2 → (qd ≤ qd2) → QF g μ2 → (FK g μ μ2) → ex_q (dt_fg L ρ) rc (d + 1, (f.1, f.2.1, f.2.2.1, f.2.2.2), F, μ2)) : ex_q (dt_fg L ρ) rc (d, (284, 0, [some (eR a0), some (eI (a1)), some (eI (a2))], []), f :: F, μ) := by
  have F0 : Fr l_284 0 0 g μ μ := Fr.r
  have b_qd : 0 ≤ qd ∧ qd ≤ 890 := by
    rw [← h_qd]
    exact hI.int gA0 (by decide) (n := 69) rfl (by decide) rfl
  refine w_t (np := 1) (l2 := [some (eR a0), some (eI (a1)), some (eI (a2))]) (s2 := [eI (a1)]) rfl rfl rfl ?_
  refine b_ilt (t1 := 13) (t2 := 4) rfl rfl rfl (ev_w_in (by omega) (by omega)) (fun g1 => ?_) (fun g1 => ?_)
  · have b2 : -1 ≤ a1 ∧ a1 ≤ -1 := by omega
    exact v_rv rfl rfl (K μ (qd) hI F0 h_qd (by omega) h_QF FK.r)
  · have b2 : 0 ≤ a1 ∧ a1 ≤ 889 := by omega
    refine w_t (np := 5) (l2 := [some (eR a0), some (eI (a1)), some (eI (a2))]) (s2 := [eR a0]) rfl (s_an rfl (pos_g hI gA0 (by decide))) rfl ?_
    refine j_gr (np := 8) rfl rfl hI gA0 (by decide) (n := 69) rfl rfl rfl ?_
    intro v2 e3 b4 z5
    have b4 : g v2 = 76 := Nat.eq_of_beq_eq_true b4
    refine w_t (np := 9) (l2 := [some (eR a0), some (eI (a1)), some (eI (a2))]) (s2 := [eI (a1), eR v2]) rfl rfl rfl ?_
    refine j_al (np := 10) rfl rfl hI b4 (by decide) (n := 890) rfl rfl (lo := -1) (hi := 890) (fun _ => rfl) (by omega) (by omega) ?_
    intro v6 e7 b8
    refine b_ilt (t1 := 14) (t2 := 13) rfl rfl rfl (ev_w_in (by omega) (by omega)) (fun g9 => ?_) (fun g9 => ?_)
    · have b10 : -1 ≤ v6 ∧ v6 ≤ -1 := by omega
      obtain ⟨v10, e11, b12, z13⟩ := hI.ref (k := 40) gA0 (by decide) (n := 69) rfl (by decide) rfl
      have b12 : g v10 = 77 := Nat.eq_of_beq_eq_true b12
      have hfx : μ.1 v2 (a1).toNat < 0 := by rw [e7]; omega
      have hqx := QF.lt h_QF gA0 b4 b12 h_qd (by omega) hfx
      refine w_t (np := 15) (l2 := [some (eR a0), some (eI (a1)), some (eI (a2))]) (s2 := [eR a0]) rfl (s_an rfl (pos_g hI gA0 (by decide))) rfl ?_
      refine w_gf (np := 18) (v := eR v2) rfl rfl (hI.kd gA0 (by decide) (n := 69) rfl) (by rw [e3]; rfl) ?_
      refine w_t (np := 19) (l2 := [some (eR a0), some (eI (a1)), some (eI (a2))]) (s2 := [eI (a1), eR v2]) rfl rfl rfl ?_
      refine w_t (np := 20) (l2 := [some (eR a0), some (eI (a1)), some (eI (a2))]) (s2 := [eI (a2), eI (a1), eR v2]) rfl rfl rfl ?_
      refine j_as (np := 21) rfl rfl hI b4 (by decide) (n := 890) rfl rfl (lo := -1) (hi := 890) (fun _ => rfl) (by omega) (by omega) (by omega) ?_
      intro m14 I15 W16
      have F17 : Fr l_284 0 0 g μ m14 := F0.v W16 b4 rfl rfl
      refine w_t (np := 22) (l2 := [some (eR a0), some (eI (a1)), some (eI (a2))]) (s2 := [eR a0]) rfl (s_an rfl (pos_g I15 gA0 (by decide))) rfl ?_
      refine w_gf (np := 25) (v := eR v10) rfl rfl (I15.kd gA0 (by decide) (n := 69) rfl) (by rw [(W16.addr e11 b4 gA0 (by decide))]; rfl) ?_
      refine w_t (np := 26) (l2 := [some (eR a0), some (eI (a1)), some (eI (a2))]) (s2 := [eR a0, eR v10]) rfl (s_an rfl (pos_g I15 gA0 (by decide))) rfl ?_
      refine w_gf (np := 29) (v := eI (qd)) rfl rfl (I15.kd gA0 (by decide) (n := 69) rfl) (by rw [(W16.addr h_qd b4 gA0 (by decide))]; rfl) ?_
      refine w_t (np := 30) (l2 := [some (eR a0), some (eI (a1)), some (eI (a2))]) (s2 := [eI (a1), eI (qd), eR v10]) rfl rfl rfl ?_
      refine j_as (np := 31) rfl rfl I15 b12 (by decide) (n := 890) rfl rfl (lo := 0) (hi := 889) (fun _ => rfl) (by omega) (by omega) (by omega) ?_
      intro m18 I19 W20
      have F21 : Fr l_284 0 0 g μ m18 := F17.v W20 b12 rfl rfl
      refine w_t (np := 32) (l2 := [some (eR a0), some (eI (a1)), some (eI (a2))]) (s2 := [eR a0]) rfl (s_an rfl (pos_g I19 gA0 (by decide))) rfl ?_
      refine w_t (np := 33) (l2 := [some (eR a0), some (eI (a1)), some (eI (a2))]) (s2 := [eR a0, eR a0]) rfl rfl rfl ?_
      refine w_gf (np := 36) (v := eI (qd)) rfl rfl (I19.kd gA0 (by decide) (n := 69) rfl) (by rw [(W20.addr (W16.addr h_qd b4 gA0 (by decide)) b12 gA0 (by decide))]; rfl) ?_
      refine w_t (np := 37) (l2 := [some (eR a0), some (eI (a1)), some (eI (a2))]) (s2 := [eI (1), eI (qd), eR a0]) rfl rfl rfl ?_
      obtain ⟨v22, e23⟩ : ∃ zz : Int, zz = (qd) + (1) := ⟨_, rfl⟩
      have b24 : 1 ≤ v22 ∧ v22 ≤ 891 := by omega
      refine w_t (np := 38) (l2 := [some (eR a0), some (eI (a1)), some (eI (a2))]) (s2 := [eI (v22), eR a0]) rfl (b_iadd (by rw [← e23]; exact ev_w_in (by omega) (by omega))) rfl ?_
      refine j_pf (np := 41) (w := v22) rfl rfl I19 gA0 (by decide) (n := 69) rfl rfl (hO_i (lo := 0) (hi := 890) rfl (by omega)) ?_
      intro m25 I26 W27
      have F28 : Fr l_284 0 0 g μ m25 := F21.w W27 gA0 rfl
      exact v_rv rfl rfl (K m25 (v22) I26 F28 W27.at (by omega) (QF.st hI gA0 b4 b12 h_QF h_qd (by omega) (by omega) hfx W16 W20 W27 (by omega)).1 (QF.st hI gA0 b4 b12 h_QF h_qd (by omega) (by omega) hfx W16 W20 W27 (by omega)).2)
    · have b10 : 0 ≤ v6 ∧ v6 ≤ 890 := by omega
      exact v_rv rfl rfl (K μ (qd) hI F0 h_qd (by omega) h_QF FK.r)
def l_285 : List Nat := [13354, 19456, 19712]
theorem s_285 {L : Nat} {ρ : Nat → Int} {rc : eQ} {d : Nat} {f : eFr} {F : List eFr} {μ : eM} {g : Nat → Nat} {a0 : Nat} {a1 : Int} (hI : SI g μ) (gA0 : g a0 = 52) (bA1 : 0 ≤ a1 ∧ a1 ≤ 889) (K : ∀ (μ2 : eM), SI g μ2 → Fr l_285 0 0 g μ μ2 → ex_q (dt_fg L ρ) rc (d + 5, (f.1, f.2.1, f.2.2.1, f.2.2.2), F, μ2)) : ex_q (dt_fg L ρ) rc (d + 4, (285, 0, [some (eR a0), some (eI (a1)), none, none], []), f :: F, μ) := by
  have F0 : Fr l_285 0 0 g μ μ := Fr.r
  refine w_t (np := 1) (l2 := [some (eR a0), some (eI (a1)), none, none]) (s2 := [eI (0)]) rfl rfl rfl ?_
  refine w_t (np := 2) (l2 := [some (eR a0), some (eI (a1)), some (eI (0)), none]) (s2 := []) rfl rfl rfl ?_
  have hL2 : ∀ (n1 : Nat) (m5 : eM) (i3 : Int), SI g m5 → Fr l_285 0 0 g μ m5 → (0 ≤ i3 ∧ i3 ≤ 890) → n1 = (890 - i3).toNat → ex_q (dt_fg L ρ) rc (d + 4, (285, 2, [some (eR a0), some (eI (a1)), some (eI (i3)), none], []), f :: F, m5) := by
    intro n1
    induction n1 using Nat.strongRecOn with
    | _ n1 ih2 =>
    intro m5 i3 I6 F7 b4 hn8
    refine w_t (np := 3) (l2 := [some (eR a0), some (eI (a1)), some (eI (i3)), none]) (s2 := [eI (i3)]) rfl rfl rfl ?_
    refine w_t (np := 4) (l2 := [some (eR a0), some (eI (a1)), some (eI (i3)), none]) (s2 := [eR a0, eI (i3)]) rfl (s_an rfl (pos_g I6 gA0 (by decide))) rfl ?_
    refine j_gi (np := 7) rfl rfl rfl I6 gA0 (by decide) (n := 69) rfl rfl (lo := 0) (hi := 890) rfl ?_
    intro v9 e10 b11
    refine b_cge (t1 := 23) (t2 := 10) rfl rfl rfl (ev_w_in (by omega) (by omega)) (ev_w_in (by omega) (by omega)) (fun g12 => ?_) (fun g12 => ?_)
    · refine w_t (np := 24) (l2 := [some (eR a0), some (eI (a1)), some (eI (i3)), none]) (s2 := [eR a0]) rfl (s_an rfl (pos_g I6 gA0 (by decide))) rfl ?_
      refine w_t (np := 25) (l2 := [some (eR a0), some (eI (a1)), some (eI (i3)), none]) (s2 := [eI (0), eR a0]) rfl rfl rfl ?_
      refine j_pf (np := 28) (w := 0) rfl rfl I6 gA0 (by decide) (n := 69) rfl rfl (hO_i (lo := 0) (hi := 890) rfl (by decide)) ?_
      intro m13 I14 W15
      have F16 : Fr l_285 0 0 g μ m13 := F7.w W15 gA0 rfl
      have p17 : QF g m13 := QF.z I14 gA0 W15.at
      refine w_t (np := 29) (l2 := [some (eR a0), some (eI (a1)), some (eI (i3)), none]) (s2 := [eR a0]) rfl (s_an rfl (pos_g I14 gA0 (by decide))) rfl ?_
      refine w_t (np := 30) (l2 := [some (eR a0), some (eI (a1)), some (eI (i3)), none]) (s2 := [eI (a1), eR a0]) rfl rfl rfl ?_
      refine w_t (np := 31) (l2 := [some (eR a0), some (eI (a1)), some (eI (i3)), none]) (s2 := [eI (0), eI (a1), eR a0]) rfl rfl rfl ?_
      refine w_cw (np := 34) (as := [eI (a1), eI (0)]) (l2 := [some (eR a0), some (eI (a1)), some (eI (0))]) (rest := []) rfl rfl rfl (Nat.ble_eq.mp rfl) rfl rfl rfl (I14.kd gA0 (by decide) (n := 69) rfl) rfl ?_
      refine s_284 (a1 := a1) (a2 := 0) I14 gA0 (by omega) (by decide) W15.at p17 (by omega) (by omega) ?_
      intro m18 v21 I19 F20 e22 h23 p24 h25
      have F26 : Fr l_285 0 0 g μ m18 := F16.t F20 rfl
      have b27 : 0 ≤ v21 ∧ v21 ≤ 890 := by
        rw [← e22]
        exact I19.int gA0 (by decide) (n := 69) rfl (by decide) rfl
      show ex_q (dt_fg L ρ) rc (d + 4, (285, 34, [some (eR a0), some (eI (a1)), some (eI (i3)), none], []), f :: F, m18)
      refine w_t (np := 35) (l2 := [some (eR a0), some (eI (a1)), some (eI (i3)), none]) (s2 := [eI (0)]) rfl rfl rfl ?_
      refine w_t (np := 36) (l2 := [some (eR a0), some (eI (a1)), some (eI (0)), none]) (s2 := []) rfl rfl rfl ?_
      have hL36 : ∀ (n28 : Nat) (m33 : eM) (i30 : Int) (o32 : Option eV) (x36 : Int), SI g m33 → Fr l_285 0 0 g μ m33 → (0 ≤ i30 ∧ i30 ≤ 890) → m33.1 a0 8 = v9 → m33.1 a0 41 = x36 → (0 ≤ x36 ∧ x36 ≤ 890) → QF g m33 → n28 = (890 - i30).toNat → ex_q (dt_fg L ρ) rc (d + 4, (285, 36, [some (eR a0), some (eI (a1)), some (eI (i30)), o32], []), f :: F, m33) := by
        intro n28
        induction n28 using Nat.strongRecOn with
        | _ n28 ih29 =>
        intro m33 i30 o32 x36 I34 F35 b31 k39 h37 b38 p40 hn41
        refine w_t (np := 37) (l2 := [some (eR a0), some (eI (a1)), some (eI (i30)), o32]) (s2 := [eI (i30)]) rfl rfl rfl ?_
        refine w_t (np := 38) (l2 := [some (eR a0), some (eI (a1)), some (eI (i30)), o32]) (s2 := [eR a0, eI (i30)]) rfl (s_an rfl (pos_g I34 gA0 (by decide))) rfl ?_
        refine w_gf (np := 41) (v := eI (x36)) rfl rfl (I34.kd gA0 (by decide) (n := 69) rfl) (by rw [h37]; rfl) ?_
        refine b_cge (t1 := 110) (t2 := 44) rfl rfl rfl (ev_w_in (by omega) (by omega)) (ev_w_in (by omega) (by omega)) (fun g42 => ?_) (fun g42 => ?_)
        · exact v_rv rfl rfl (K m33 I34 F35)
        · have b43 : 0 ≤ i30 ∧ i30 ≤ 889 := by omega
          have b44 : 1 ≤ x36 ∧ x36 ≤ 890 := by omega
          refine w_t (np := 45) (l2 := [some (eR a0), some (eI (a1)), some (eI (i30)), o32]) (s2 := [eR a0]) rfl (s_an rfl (pos_g I34 gA0 (by decide))) rfl ?_
          refine j_gr (np := 48) rfl rfl I34 gA0 (by decide) (n := 69) rfl rfl rfl ?_
          intro v43 e44 b45 z46
          have b45 : g v43 = 77 := Nat.eq_of_beq_eq_true b45
          refine w_t (np := 49) (l2 := [some (eR a0), some (eI (a1)), some (eI (i30)), o32]) (s2 := [eI (i30), eR v43]) rfl rfl rfl ?_
          refine j_al (np := 50) rfl rfl I34 b45 (by decide) (n := 890) rfl rfl (lo := 0) (hi := 889) (fun _ => rfl) (by omega) (by omega) ?_
          intro v47 e48 b49
          refine w_t (np := 51) (l2 := [some (eR a0), some (eI (a1)), some (eI (i30)), some (eI (v47))]) (s2 := []) rfl rfl rfl ?_
          obtain ⟨v50, e51, b52, z53⟩ := I34.ref (k := 39) gA0 (by decide) (n := 69) rfl (by decide) rfl
          have b52 : g v50 = 76 := Nat.eq_of_beq_eq_true b52
          obtain ⟨v54, e55, b56⟩ := QF.at p40 gA0 b52 b45 h37 (show 0 ≤ i30 ∧ i30 < x36 by omega) e48
          refine w_t (np := 52) (l2 := [some (eR a0), some (eI (a1)), some (eI (i30)), some (eI (v47))]) (s2 := [eR a0]) rfl (s_an rfl (pos_g I34 gA0 (by decide))) rfl ?_
          refine w_t (np := 53) (l2 := [some (eR a0), some (eI (a1)), some (eI (i30)), some (eI (v47))]) (s2 := [eR a0, eR a0]) rfl (s_an rfl (pos_g I34 gA0 (by decide))) rfl ?_
          refine j_gr (np := 56) rfl rfl I34 gA0 (by decide) (n := 69) rfl rfl rfl ?_
          intro v57 e58 b59 z60
          have b59 : g v57 = 68 := Nat.eq_of_beq_eq_true b59
          refine w_t (np := 57) (l2 := [some (eR a0), some (eI (a1)), some (eI (i30)), some (eI (v47))]) (s2 := [eI (v47), eR v57, eR a0]) rfl rfl rfl ?_
          refine j_al (np := 58) rfl rfl I34 b59 (by decide) (n := 890) rfl rfl (lo := -1) (hi := 889) (fun _ => rfl) (by omega) (by omega) ?_
          intro v61 e62 b63
          refine w_t (np := 59) (l2 := [some (eR a0), some (eI (a1)), some (eI (i30)), some (eI (v47))]) (s2 := [eR a0, eI (v61), eR a0]) rfl (s_an rfl (pos_g I34 gA0 (by decide))) rfl ?_
          refine w_gf (np := 62) (v := eR v50) rfl rfl (I34.kd gA0 (by decide) (n := 69) rfl) (by rw [e51]; rfl) ?_
          refine w_t (np := 63) (l2 := [some (eR a0), some (eI (a1)), some (eI (i30)), some (eI (v47))]) (s2 := [eI (v47), eR v50, eI (v61), eR a0]) rfl rfl rfl ?_
          refine j_al (np := 64) rfl rfl I34 b52 (by decide) (n := 890) rfl rfl (lo := -1) (hi := 890) (fun _ => rfl) (by omega) (by omega) ?_
          intro v64 e65 b66
          have e65 := e65.symm.trans e55
          rw [e65]
          refine w_t (np := 65) (l2 := [some (eR a0), some (eI (a1)), some (eI (i30)), some (eI (v47))]) (s2 := [eI (1), eI (v54), eI (v61), eR a0]) rfl rfl rfl ?_
          obtain ⟨v67, e68⟩ : ∃ zz : Int, zz = (v54) + (1) := ⟨_, rfl⟩
          have b69 : 1 ≤ v67 ∧ v67 ≤ 890 := by omega
          refine w_t (np := 66) (l2 := [some (eR a0), some (eI (a1)), some (eI (i30)), some (eI (v47))]) (s2 := [eI (v67), eI (v61), eR a0]) rfl (b_iadd (by rw [← e68]; exact ev_w_in (by omega) (by omega))) rfl ?_
          refine w_cw (np := 69) (as := [eI (v61), eI (v67)]) (l2 := [some (eR a0), some (eI (v61)), some (eI (v67))]) (rest := []) rfl rfl rfl (Nat.ble_eq.mp rfl) rfl rfl rfl (I34.kd gA0 (by decide) (n := 69) rfl) rfl ?_
          refine s_284 (a1 := v61) (a2 := v67) I34 gA0 (by omega) (by omega) h37 p40 (by omega) (by omega) ?_
          intro m70 v73 I71 F72 e74 h75 p76 h77
          have F78 : Fr l_285 0 0 g μ m70 := F35.t F72 rfl
          have b79 : 0 ≤ v73 ∧ v73 ≤ 890 := by
            rw [← e74]
            exact I71.int gA0 (by decide) (n := 69) rfl (by decide) rfl
          show ex_q (dt_fg L ρ) rc (d + 4, (285, 69, [some (eR a0), some (eI (a1)), some (eI (i30)), some (eI (v47))], []), f :: F, m70)
          have e80 := (h77 _ b52 (v47).toNat (by rw [e55]; omega)).trans e55
          refine w_t (np := 70) (l2 := [some (eR a0), some (eI (a1)), some (eI (i30)), some (eI (v47))]) (s2 := [eR a0]) rfl (s_an rfl (pos_g I71 gA0 (by decide))) rfl ?_
          refine w_t (np := 71) (l2 := [some (eR a0), some (eI (a1)), some (eI (i30)), some (eI (v47))]) (s2 := [eR a0, eR a0]) rfl (s_an rfl (pos_g I71 gA0 (by decide))) rfl ?_
          refine j_gr (np := 74) rfl rfl I71 gA0 (by decide) (n := 69) rfl rfl rfl ?_
          intro v81 e82 b83 z84
          have b83 : g v81 = 69 := Nat.eq_of_beq_eq_true b83
          refine w_t (np := 75) (l2 := [some (eR a0), some (eI (a1)), some (eI (i30)), some (eI (v47))]) (s2 := [eI (v47), eR v81, eR a0]) rfl rfl rfl ?_
          refine j_al (np := 76) rfl rfl I71 b83 (by decide) (n := 890) rfl rfl (lo := -1) (hi := 889) (fun _ => rfl) (by omega) (by omega) ?_
          intro v85 e86 b87
          refine w_t (np := 77) (l2 := [some (eR a0), some (eI (a1)), some (eI (i30)), some (eI (v47))]) (s2 := [eR a0, eI (v85), eR a0]) rfl (s_an rfl (pos_g I71 gA0 (by decide))) rfl ?_
          refine w_gf (np := 80) (v := eR v50) rfl rfl (I71.kd gA0 (by decide) (n := 69) rfl) (by rw [(F72.k e51 gA0 (by decide) rfl)]; rfl) ?_
          refine w_t (np := 81) (l2 := [some (eR a0), some (eI (a1)), some (eI (i30)), some (eI (v47))]) (s2 := [eI (v47), eR v50, eI (v85), eR a0]) rfl rfl rfl ?_
          refine j_al (np := 82) rfl rfl I71 b52 (by decide) (n := 890) rfl rfl (lo := -1) (hi := 890) (fun _ => rfl) (by omega) (by omega) ?_
          intro v88 e89 b90
          have e89 := e89.symm.trans e80
          rw [e89]
          refine w_t (np := 83) (l2 := [some (eR a0), some (eI (a1)), some (eI (i30)), some (eI (v47))]) (s2 := [eI (1), eI (v54), eI (v85), eR a0]) rfl rfl rfl ?_
          obtain ⟨v91, e92⟩ : ∃ zz : Int, zz = (v54) + (1) := ⟨_, rfl⟩
          have b93 : 1 ≤ v91 ∧ v91 ≤ 890 := by omega
          refine w_t (np := 84) (l2 := [some (eR a0), some (eI (a1)), some (eI (i30)), some (eI (v47))]) (s2 := [eI (v91), eI (v85), eR a0]) rfl (b_iadd (by rw [← e92]; exact ev_w_in (by omega) (by omega))) rfl ?_
          refine w_cw (np := 87) (as := [eI (v85), eI (v91)]) (l2 := [some (eR a0), some (eI (v85)), some (eI (v91))]) (rest := []) rfl rfl rfl (Nat.ble_eq.mp rfl) rfl rfl rfl (I71.kd gA0 (by decide) (n := 69) rfl) rfl ?_
          refine s_284 (a1 := v85) (a2 := v91) I71 gA0 (by omega) (by omega) e74 p76 (by omega) (by omega) ?_
          intro m94 v97 I95 F96 e98 h99 p100 h101
          have F102 : Fr l_285 0 0 g μ m94 := F78.t F96 rfl
          have b103 : 0 ≤ v97 ∧ v97 ≤ 890 := by
            rw [← e98]
            exact I95.int gA0 (by decide) (n := 69) rfl (by decide) rfl
          show ex_q (dt_fg L ρ) rc (d + 4, (285, 87, [some (eR a0), some (eI (a1)), some (eI (i30)), some (eI (v47))], []), f :: F, m94)
          have e104 := (h101 _ b52 (v47).toNat (by rw [e80]; omega)).trans e80
          refine w_t (np := 88) (l2 := [some (eR a0), some (eI (a1)), some (eI (i30)), some (eI (v47))]) (s2 := [eR a0]) rfl (s_an rfl (pos_g I95 gA0 (by decide))) rfl ?_
          refine w_t (np := 89) (l2 := [some (eR a0), some (eI (a1)), some (eI (i30)), some (eI (v47))]) (s2 := [eR a0, eR a0]) rfl (s_an rfl (pos_g I95 gA0 (by decide))) rfl ?_
          refine w_t (np := 90) (l2 := [some (eR a0), some (eI (a1)), some (eI (i30)), some (eI (v47))]) (s2 := [eI (v47), eR a0, eR a0]) rfl rfl rfl ?_
          refine w_cw (np := 93) (as := [eI (v47)]) (l2 := [some (eR a0), some (eI (v47)), none]) (rest := [eR a0]) rfl rfl rfl (Nat.ble_eq.mp rfl) rfl rfl rfl (I95.kd gA0 (by decide) (n := 69) rfl) rfl ?_
          refine s_283 (a1 := v47) I95 gA0 (by omega) ?_
          intro v105 b106
          show ex_q (dt_fg L ρ) rc (d + 4, (285, 93, [some (eR a0), some (eI (a1)), some (eI (i30)), some (eI (v47))], [eI (v105), eR a0]), f :: F, m94)
          refine w_t (np := 94) (l2 := [some (eR a0), some (eI (a1)), some (eI (i30)), some (eI (v47))]) (s2 := [eR a0, eI (v105), eR a0]) rfl (s_an rfl (pos_g I95 gA0 (by decide))) rfl ?_
          refine w_gf (np := 97) (v := eR v50) rfl rfl (I95.kd gA0 (by decide) (n := 69) rfl) (by rw [(F96.k (F72.k e51 gA0 (by decide) rfl) gA0 (by decide) rfl)]; rfl) ?_
          refine w_t (np := 98) (l2 := [some (eR a0), some (eI (a1)), some (eI (i30)), some (eI (v47))]) (s2 := [eI (v47), eR v50, eI (v105), eR a0]) rfl rfl rfl ?_
          refine j_al (np := 99) rfl rfl I95 b52 (by decide) (n := 890) rfl rfl (lo := -1) (hi := 890) (fun _ => rfl) (by omega) (by omega) ?_
          intro v107 e108 b109
          have e108 := e108.symm.trans e104
          rw [e108]
          refine w_t (np := 100) (l2 := [some (eR a0), some (eI (a1)), some (eI (i30)), some (eI (v47))]) (s2 := [eI (1), eI (v54), eI (v105), eR a0]) rfl rfl rfl ?_
          obtain ⟨v110, e111⟩ : ∃ zz : Int, zz = (v54) + (1) := ⟨_, rfl⟩
          have b112 : 1 ≤ v110 ∧ v110 ≤ 890 := by omega
          refine w_t (np := 101) (l2 := [some (eR a0), some (eI (a1)), some (eI (i30)), some (eI (v47))]) (s2 := [eI (v110), eI (v105), eR a0]) rfl (b_iadd (by rw [← e111]; exact ev_w_in (by omega) (by omega))) rfl ?_
          refine w_cw (np := 104) (as := [eI (v105), eI (v110)]) (l2 := [some (eR a0), some (eI (v105)), some (eI (v110))]) (rest := []) rfl rfl rfl (Nat.ble_eq.mp rfl) rfl rfl rfl (I95.kd gA0 (by decide) (n := 69) rfl) rfl ?_
          refine s_284 (a1 := v105) (a2 := v110) I95 gA0 (by omega) (by omega) e98 p100 (by omega) (by omega) ?_
          intro m113 v116 I114 F115 e117 h118 p119 h120
          have F121 : Fr l_285 0 0 g μ m113 := F102.t F115 rfl
          have b122 : 0 ≤ v116 ∧ v116 ≤ 890 := by
            rw [← e117]
            exact I114.int gA0 (by decide) (n := 69) rfl (by decide) rfl
          show ex_q (dt_fg L ρ) rc (d + 4, (285, 104, [some (eR a0), some (eI (a1)), some (eI (i30)), some (eI (v47))], []), f :: F, m113)
          obtain ⟨v123, e124⟩ : ∃ zz : Int, zz = (i30) + (1) := ⟨_, rfl⟩
          have b125 : 1 ≤ v123 ∧ v123 ≤ 890 := by omega
          refine w_t (np := 107) (l2 := [some (eR a0), some (eI (a1)), some (eI (v123)), some (eI (v47))]) (s2 := []) rfl (b_iinc rfl (by rw [← e124]; exact ev_w_in (by omega) (by omega)) rfl) rfl ?_
          refine w_go (t1 := 36) rfl rfl ?_
          exact ih29 (890 - (v123)).toNat (by omega) m113 (v123) (some (eI (v47))) (v116) I114 F121 (by omega) (F115.k (F96.k (F72.k k39 gA0 (by decide) rfl) gA0 (by decide) rfl) gA0 (by decide) rfl) e117 (by omega) p119  rfl
      exact hL36 _ m18 (0) (none) (v21) I19 F26 (by decide) (F20.k (W15.slot e10 (by decide)) gA0 (by decide) rfl) e22 (by omega) p24  rfl
    · have b13 : 0 ≤ i3 ∧ i3 ≤ 889 := by omega
      have b14 : 1 ≤ v9 ∧ v9 ≤ 890 := by omega
      refine w_t (np := 11) (l2 := [some (eR a0), some (eI (a1)), some (eI (i3)), none]) (s2 := [eR a0]) rfl (s_an rfl (pos_g I6 gA0 (by decide))) rfl ?_
      refine j_gr (np := 14) rfl rfl I6 gA0 (by decide) (n := 69) rfl rfl rfl ?_
      intro v13 e14 b15 z16
      have b15 : g v13 = 76 := Nat.eq_of_beq_eq_true b15
      refine w_t (np := 15) (l2 := [some (eR a0), some (eI (a1)), some (eI (i3)), none]) (s2 := [eI (i3), eR v13]) rfl rfl rfl ?_
      refine w_t (np := 16) (l2 := [some (eR a0), some (eI (a1)), some (eI (i3)), none]) (s2 := [eI (-1), eI (i3), eR v13]) rfl rfl rfl ?_
      refine j_as (np := 17) rfl rfl I6 b15 (by decide) (n := 890) rfl rfl (lo := -1) (hi := 890) (fun _ => rfl) (by omega) (by omega) (by decide) ?_
      intro m17 I18 W19
      have F20 : Fr l_285 0 0 g μ m17 := F7.v W19 b15 rfl rfl
      obtain ⟨v21, e22⟩ : ∃ zz : Int, zz = (i3) + (1) := ⟨_, rfl⟩
      have b23 : 1 ≤ v21 ∧ v21 ≤ 890 := by omega
      refine w_t (np := 20) (l2 := [some (eR a0), some (eI (a1)), some (eI (v21)), none]) (s2 := []) rfl (b_iinc rfl (by rw [← e22]; exact ev_w_in (by omega) (by omega)) rfl) rfl ?_
      refine w_go (t1 := 2) rfl rfl ?_
      exact ih2 (890 - (v21)).toNat (by omega) m17 (v21) I18 F20 (by omega)     rfl
  exact hL2 _ μ (0) hI F0 (by decide)     rfl
