/-! methods, walked -/
def l_276 : List Nat := [13313, 13314]
theorem s_276 {L : Nat} {ρ : Nat → Int} {rc : eQ} {d : Nat} {f : eFr} {F : List eFr} {μ : eM} {g : Nat → Nat} {a0 : Nat} {a1 : Int} {a2 : Int} {a3 : Int} (hI : SI g μ) (gA0 : g a0 = 52) (bA1 : -2147483648 ≤ a1 ∧ a1 ≤ 2147483647) (bA2 : -2147483648 ≤ a2 ∧ a2 ≤ 2147483647) (bA3 : -2147483648 ≤ a3 ∧ a3 ≤ 2147483647) (K : ∀ (μ2 : eM) (v : Int), SI g μ2 → Fr l_276 0 0 g μ μ2 → (-2147483648 ≤ v ∧ v ≤ 2147483647) → ex_q (dt_fg L ρ) rc (d + 3, (f.1, f.2.1, f.2.2.1, eI v :: f.2.2.2), F, μ2)) : ex_q (dt_fg L ρ) rc (d + 2, (276, 0, [some (eR a0), some (eI (a1)), some (eI (a2)), some (eI (a3)), none, none, none, none, none], []), f :: F, μ) := by
  have F0 : Fr l_276 0 0 g μ μ := Fr.r
  refine w_t (np := 1) (l2 := [some (eR a0), some (eI (a1)), some (eI (a2)), some (eI (a3)), none, none, none, none, none]) (s2 := [eR a0]) rfl (s_an rfl (pos_g hI gA0 (by decide))) rfl ?_
  refine w_t (np := 2) (l2 := [some (eR a0), some (eI (a1)), some (eI (a2)), some (eI (a3)), none, none, none, none, none]) (s2 := [eI (a2), eR a0]) rfl rfl rfl ?_
  refine w_t (np := 3) (l2 := [some (eR a0), some (eI (a1)), some (eI (a2)), some (eI (a3)), none, none, none, none, none]) (s2 := [eI (0), eI (a2), eR a0]) rfl rfl rfl ?_
  refine w_t (np := 4) (l2 := [some (eR a0), some (eI (a1)), some (eI (a2)), some (eI (a3)), none, none, none, none, none]) (s2 := [eI (2), eI (0), eI (a2), eR a0]) rfl rfl rfl ?_
  refine w_cu (np := 7) (as := [eI (a2), eI (0), eI (2)]) (l2 := [some (eI (a2)), some (eI (0)), some (eI (2))]) (rest := [eR a0]) rfl rfl rfl (Nat.ble_eq.mp rfl) rfl rfl rfl rfl ?_
  refine w_t (np := 1) (l2 := [some (eI (a2)), some (eI (0)), some (eI (2))]) (s2 := [eI (a2)]) rfl rfl rfl ?_
  refine w_t (np := 2) (l2 := [some (eI (a2)), some (eI (0)), some (eI (2))]) (s2 := [eI (0), eI (a2)]) rfl rfl rfl ?_
  refine b_clt (t1 := 14) (t2 := 5) rfl rfl rfl (ev_w_in (by omega) (by omega)) rfl (fun g1 => ?_) (fun g1 => ?_)
  · have b2 : -2147483648 ≤ a2 ∧ a2 ≤ -1 := by omega
    refine w_t (np := 15) (l2 := [some (eI (a2)), some (eI (0)), some (eI (2))]) (s2 := [eI (0)]) rfl rfl rfl ?_
    refine b_rz rfl rfl (Or.inl rfl) ?_
    show ex_q (dt_fg L ρ) rc (d + 2, (276, 7, [some (eR a0), some (eI (a1)), some (eI (a2)), some (eI (a3)), none, none, none, none, none], [eI (0), eR a0]), f :: F, μ)
    refine b_ieq (t1 := 19) (t2 := 10) rfl rfl rfl rfl (fun g2 => ?_) (fun g2 => absurd g2 (by decide))
    refine w_t (np := 20) (l2 := [some (eR a0), some (eI (a1)), some (eI (a2)), some (eI (a3)), none, none, none, none, none]) (s2 := [eI (1), eR a0]) rfl rfl rfl ?_
    refine w_go (t1 := 36) rfl rfl ?_
    refine w_cw (np := 39) (as := [eI (1)]) (l2 := [some (eR a0), some (eI (1))]) (rest := []) rfl rfl rfl (Nat.ble_eq.mp rfl) rfl rfl rfl (hI.kd gA0 (by decide) (n := 69) rfl) rfl ?_
    refine w_t (np := 1) (l2 := [some (eR a0), some (eI (1))]) (s2 := [eR a0]) rfl (s_an rfl (pos_g hI gA0 (by decide))) rfl ?_
    refine w_t (np := 2) (l2 := [some (eR a0), some (eI (1))]) (s2 := [eI (0), eR a0]) rfl rfl rfl ?_
    refine j_pf (np := 5) (w := 0) rfl rfl hI gA0 (by decide) (n := 69) rfl rfl (hO_i (lo := -2147483648) (hi := 2147483647) rfl (by decide)) ?_
    intro m3 I4 W5
    have F6 : Fr l_276 0 0 g μ m3 := F0.w W5 gA0 rfl
    refine w_t (np := 6) (l2 := [some (eR a0), some (eI (1))]) (s2 := [eR a0]) rfl (s_an rfl (pos_g I4 gA0 (by decide))) rfl ?_
    refine w_t (np := 7) (l2 := [some (eR a0), some (eI (1))]) (s2 := [eI (1), eR a0]) rfl rfl rfl ?_
    refine j_pf (np := 10) (w := 1) rfl rfl I4 gA0 (by decide) (n := 69) rfl rfl (hO_i (lo := -2147483648) (hi := 2147483647) rfl (by decide)) ?_
    intro m7 I8 W9
    have F10 : Fr l_276 0 0 g μ m7 := F6.w W9 gA0 rfl
    refine w_t (np := 11) (l2 := [some (eR a0), some (eI (1))]) (s2 := [eI (1)]) rfl rfl rfl ?_
    refine b_ine (t1 := 18) (t2 := 14) rfl rfl rfl rfl (fun g11 => ?_) (fun g11 => absurd g11 (by decide))
    refine w_t (np := 19) (l2 := [some (eR a0), some (eI (1))]) (s2 := [eI (0)]) rfl rfl rfl ?_
    refine b_rz rfl rfl (Or.inl rfl) ?_
    show ex_q (dt_fg L ρ) rc (d + 2, (276, 39, [some (eR a0), some (eI (a1)), some (eI (a2)), some (eI (a3)), none, none, none, none, none], [eI (0)]), f :: F, m7)
    refine b_ine (t1 := 44) (t2 := 42) rfl rfl rfl rfl (fun g12 => absurd g12 (by decide)) (fun g12 => ?_)
    refine w_t (np := 43) (l2 := [some (eR a0), some (eI (a1)), some (eI (a2)), some (eI (a3)), none, none, none, none, none]) (s2 := [eI (-1)]) rfl rfl rfl ?_
    exact b_ri rfl rfl (K m7 (-1) I8 F10 (by decide))
  · have b2 : 0 ≤ a2 ∧ a2 ≤ 2147483647 := by omega
    refine w_t (np := 6) (l2 := [some (eI (a2)), some (eI (0)), some (eI (2))]) (s2 := [eI (a2)]) rfl rfl rfl ?_
    refine w_t (np := 7) (l2 := [some (eI (a2)), some (eI (0)), some (eI (2))]) (s2 := [eI (2), eI (a2)]) rfl rfl rfl ?_
    refine b_cgt (t1 := 14) (t2 := 10) rfl rfl rfl (ev_w_in (by omega) (by omega)) rfl (fun g2 => ?_) (fun g2 => ?_)
    · have b3 : 3 ≤ a2 ∧ a2 ≤ 2147483647 := by omega
      refine w_t (np := 15) (l2 := [some (eI (a2)), some (eI (0)), some (eI (2))]) (s2 := [eI (0)]) rfl rfl rfl ?_
      refine b_rz rfl rfl (Or.inl rfl) ?_
      show ex_q (dt_fg L ρ) rc (d + 2, (276, 7, [some (eR a0), some (eI (a1)), some (eI (a2)), some (eI (a3)), none, none, none, none, none], [eI (0), eR a0]), f :: F, μ)
      refine b_ieq (t1 := 19) (t2 := 10) rfl rfl rfl rfl (fun g3 => ?_) (fun g3 => absurd g3 (by decide))
      refine w_t (np := 20) (l2 := [some (eR a0), some (eI (a1)), some (eI (a2)), some (eI (a3)), none, none, none, none, none]) (s2 := [eI (1), eR a0]) rfl rfl rfl ?_
      refine w_go (t1 := 36) rfl rfl ?_
      refine w_cw (np := 39) (as := [eI (1)]) (l2 := [some (eR a0), some (eI (1))]) (rest := []) rfl rfl rfl (Nat.ble_eq.mp rfl) rfl rfl rfl (hI.kd gA0 (by decide) (n := 69) rfl) rfl ?_
      refine w_t (np := 1) (l2 := [some (eR a0), some (eI (1))]) (s2 := [eR a0]) rfl (s_an rfl (pos_g hI gA0 (by decide))) rfl ?_
      refine w_t (np := 2) (l2 := [some (eR a0), some (eI (1))]) (s2 := [eI (0), eR a0]) rfl rfl rfl ?_
      refine j_pf (np := 5) (w := 0) rfl rfl hI gA0 (by decide) (n := 69) rfl rfl (hO_i (lo := -2147483648) (hi := 2147483647) rfl (by decide)) ?_
      intro m4 I5 W6
      have F7 : Fr l_276 0 0 g μ m4 := F0.w W6 gA0 rfl
      refine w_t (np := 6) (l2 := [some (eR a0), some (eI (1))]) (s2 := [eR a0]) rfl (s_an rfl (pos_g I5 gA0 (by decide))) rfl ?_
      refine w_t (np := 7) (l2 := [some (eR a0), some (eI (1))]) (s2 := [eI (1), eR a0]) rfl rfl rfl ?_
      refine j_pf (np := 10) (w := 1) rfl rfl I5 gA0 (by decide) (n := 69) rfl rfl (hO_i (lo := -2147483648) (hi := 2147483647) rfl (by decide)) ?_
      intro m8 I9 W10
      have F11 : Fr l_276 0 0 g μ m8 := F7.w W10 gA0 rfl
      refine w_t (np := 11) (l2 := [some (eR a0), some (eI (1))]) (s2 := [eI (1)]) rfl rfl rfl ?_
      refine b_ine (t1 := 18) (t2 := 14) rfl rfl rfl rfl (fun g12 => ?_) (fun g12 => absurd g12 (by decide))
      refine w_t (np := 19) (l2 := [some (eR a0), some (eI (1))]) (s2 := [eI (0)]) rfl rfl rfl ?_
      refine b_rz rfl rfl (Or.inl rfl) ?_
      show ex_q (dt_fg L ρ) rc (d + 2, (276, 39, [some (eR a0), some (eI (a1)), some (eI (a2)), some (eI (a3)), none, none, none, none, none], [eI (0)]), f :: F, m8)
      refine b_ine (t1 := 44) (t2 := 42) rfl rfl rfl rfl (fun g13 => absurd g13 (by decide)) (fun g13 => ?_)
      refine w_t (np := 43) (l2 := [some (eR a0), some (eI (a1)), some (eI (a2)), some (eI (a3)), none, none, none, none, none]) (s2 := [eI (-1)]) rfl rfl rfl ?_
      exact b_ri rfl rfl (K m8 (-1) I9 F11 (by decide))
    · have b3 : 0 ≤ a2 ∧ a2 ≤ 2 := by omega
      refine w_t (np := 11) (l2 := [some (eI (a2)), some (eI (0)), some (eI (2))]) (s2 := [eI (1)]) rfl rfl rfl ?_
      refine w_go (t1 := 15) rfl rfl ?_
      refine b_rz rfl rfl (Or.inr rfl) ?_
      show ex_q (dt_fg L ρ) rc (d + 2, (276, 7, [some (eR a0), some (eI (a1)), some (eI (a2)), some (eI (a3)), none, none, none, none, none], [eI (1), eR a0]), f :: F, μ)
      refine b_ieq (t1 := 19) (t2 := 10) rfl rfl rfl rfl (fun g3 => absurd g3 (by decide)) (fun g3 => ?_)
      refine w_t (np := 11) (l2 := [some (eR a0), some (eI (a1)), some (eI (a2)), some (eI (a3)), none, none, none, none, none]) (s2 := [eI (a3), eR a0]) rfl rfl rfl ?_
      refine w_t (np := 12) (l2 := [some (eR a0), some (eI (a1)), some (eI (a2)), some (eI (a3)), none, none, none, none, none]) (s2 := [eI (0), eI (a3), eR a0]) rfl rfl rfl ?_
      refine w_t (np := 13) (l2 := [some (eR a0), some (eI (a1)), some (eI (a2)), some (eI (a3)), none, none, none, none, none]) (s2 := [eI (1), eI (0), eI (a3), eR a0]) rfl rfl rfl ?_
      refine w_cu (np := 16) (as := [eI (a3), eI (0), eI (1)]) (l2 := [some (eI (a3)), some (eI (0)), some (eI (1))]) (rest := [eR a0]) rfl rfl rfl (Nat.ble_eq.mp rfl) rfl rfl rfl rfl ?_
      refine w_t (np := 1) (l2 := [some (eI (a3)), some (eI (0)), some (eI (1))]) (s2 := [eI (a3)]) rfl rfl rfl ?_
      refine w_t (np := 2) (l2 := [some (eI (a3)), some (eI (0)), some (eI (1))]) (s2 := [eI (0), eI (a3)]) rfl rfl rfl ?_
      refine b_clt (t1 := 14) (t2 := 5) rfl rfl rfl (ev_w_in (by omega) (by omega)) rfl (fun g4 => ?_) (fun g4 => ?_)
      · have b5 : -2147483648 ≤ a3 ∧ a3 ≤ -1 := by omega
        refine w_t (np := 15) (l2 := [some (eI (a3)), some (eI (0)), some (eI (1))]) (s2 := [eI (0)]) rfl rfl rfl ?_
        refine b_rz rfl rfl (Or.inl rfl) ?_
        show ex_q (dt_fg L ρ) rc (d + 2, (276, 16, [some (eR a0), some (eI (a1)), some (eI (a2)), some (eI (a3)), none, none, none, none, none], [eI (0), eR a0]), f :: F, μ)
        refine b_ine (t1 := 23) (t2 := 19) rfl rfl rfl rfl (fun g5 => absurd g5 (by decide)) (fun g5 => ?_)
        refine w_t (np := 20) (l2 := [some (eR a0), some (eI (a1)), some (eI (a2)), some (eI (a3)), none, none, none, none, none]) (s2 := [eI (1), eR a0]) rfl rfl rfl ?_
        refine w_go (t1 := 36) rfl rfl ?_
        refine w_cw (np := 39) (as := [eI (1)]) (l2 := [some (eR a0), some (eI (1))]) (rest := []) rfl rfl rfl (Nat.ble_eq.mp rfl) rfl rfl rfl (hI.kd gA0 (by decide) (n := 69) rfl) rfl ?_
        refine w_t (np := 1) (l2 := [some (eR a0), some (eI (1))]) (s2 := [eR a0]) rfl (s_an rfl (pos_g hI gA0 (by decide))) rfl ?_
        refine w_t (np := 2) (l2 := [some (eR a0), some (eI (1))]) (s2 := [eI (0), eR a0]) rfl rfl rfl ?_
        refine j_pf (np := 5) (w := 0) rfl rfl hI gA0 (by decide) (n := 69) rfl rfl (hO_i (lo := -2147483648) (hi := 2147483647) rfl (by decide)) ?_
        intro m6 I7 W8
        have F9 : Fr l_276 0 0 g μ m6 := F0.w W8 gA0 rfl
        refine w_t (np := 6) (l2 := [some (eR a0), some (eI (1))]) (s2 := [eR a0]) rfl (s_an rfl (pos_g I7 gA0 (by decide))) rfl ?_
        refine w_t (np := 7) (l2 := [some (eR a0), some (eI (1))]) (s2 := [eI (1), eR a0]) rfl rfl rfl ?_
        refine j_pf (np := 10) (w := 1) rfl rfl I7 gA0 (by decide) (n := 69) rfl rfl (hO_i (lo := -2147483648) (hi := 2147483647) rfl (by decide)) ?_
        intro m10 I11 W12
        have F13 : Fr l_276 0 0 g μ m10 := F9.w W12 gA0 rfl
        refine w_t (np := 11) (l2 := [some (eR a0), some (eI (1))]) (s2 := [eI (1)]) rfl rfl rfl ?_
        refine b_ine (t1 := 18) (t2 := 14) rfl rfl rfl rfl (fun g14 => ?_) (fun g14 => absurd g14 (by decide))
        refine w_t (np := 19) (l2 := [some (eR a0), some (eI (1))]) (s2 := [eI (0)]) rfl rfl rfl ?_
        refine b_rz rfl rfl (Or.inl rfl) ?_
        show ex_q (dt_fg L ρ) rc (d + 2, (276, 39, [some (eR a0), some (eI (a1)), some (eI (a2)), some (eI (a3)), none, none, none, none, none], [eI (0)]), f :: F, m10)
        refine b_ine (t1 := 44) (t2 := 42) rfl rfl rfl rfl (fun g15 => absurd g15 (by decide)) (fun g15 => ?_)
        refine w_t (np := 43) (l2 := [some (eR a0), some (eI (a1)), some (eI (a2)), some (eI (a3)), none, none, none, none, none]) (s2 := [eI (-1)]) rfl rfl rfl ?_
        exact b_ri rfl rfl (K m10 (-1) I11 F13 (by decide))
      · have b5 : 0 ≤ a3 ∧ a3 ≤ 2147483647 := by omega
        refine w_t (np := 6) (l2 := [some (eI (a3)), some (eI (0)), some (eI (1))]) (s2 := [eI (a3)]) rfl rfl rfl ?_
        refine w_t (np := 7) (l2 := [some (eI (a3)), some (eI (0)), some (eI (1))]) (s2 := [eI (1), eI (a3)]) rfl rfl rfl ?_
        refine b_cgt (t1 := 14) (t2 := 10) rfl rfl rfl (ev_w_in (by omega) (by omega)) rfl (fun g5 => ?_) (fun g5 => ?_)
        · have b6 : 2 ≤ a3 ∧ a3 ≤ 2147483647 := by omega
          refine w_t (np := 15) (l2 := [some (eI (a3)), some (eI (0)), some (eI (1))]) (s2 := [eI (0)]) rfl rfl rfl ?_
          refine b_rz rfl rfl (Or.inl rfl) ?_
          show ex_q (dt_fg L ρ) rc (d + 2, (276, 16, [some (eR a0), some (eI (a1)), some (eI (a2)), some (eI (a3)), none, none, none, none, none], [eI (0), eR a0]), f :: F, μ)
          refine b_ine (t1 := 23) (t2 := 19) rfl rfl rfl rfl (fun g6 => absurd g6 (by decide)) (fun g6 => ?_)
          refine w_t (np := 20) (l2 := [some (eR a0), some (eI (a1)), some (eI (a2)), some (eI (a3)), none, none, none, none, none]) (s2 := [eI (1), eR a0]) rfl rfl rfl ?_
          refine w_go (t1 := 36) rfl rfl ?_
          refine w_cw (np := 39) (as := [eI (1)]) (l2 := [some (eR a0), some (eI (1))]) (rest := []) rfl rfl rfl (Nat.ble_eq.mp rfl) rfl rfl rfl (hI.kd gA0 (by decide) (n := 69) rfl) rfl ?_
          refine w_t (np := 1) (l2 := [some (eR a0), some (eI (1))]) (s2 := [eR a0]) rfl (s_an rfl (pos_g hI gA0 (by decide))) rfl ?_
          refine w_t (np := 2) (l2 := [some (eR a0), some (eI (1))]) (s2 := [eI (0), eR a0]) rfl rfl rfl ?_
          refine j_pf (np := 5) (w := 0) rfl rfl hI gA0 (by decide) (n := 69) rfl rfl (hO_i (lo := -2147483648) (hi := 2147483647) rfl (by decide)) ?_
          intro m7 I8 W9
          have F10 : Fr l_276 0 0 g μ m7 := F0.w W9 gA0 rfl
          refine w_t (np := 6) (l2 := [some (eR a0), some (eI (1))]) (s2 := [eR a0]) rfl (s_an rfl (pos_g I8 gA0 (by decide))) rfl ?_
          refine w_t (np := 7) (l2 := [some (eR a0), some (eI (1))]) (s2 := [eI (1), eR a0]) rfl rfl rfl ?_
          refine j_pf (np := 10) (w := 1) rfl rfl I8 gA0 (by decide) (n := 69) rfl rfl (hO_i (lo := -2147483648) (hi := 2147483647) rfl (by decide)) ?_
          intro m11 I12 W13
          have F14 : Fr l_276 0 0 g μ m11 := F10.w W13 gA0 rfl
          refine w_t (np := 11) (l2 := [some (eR a0), some (eI (1))]) (s2 := [eI (1)]) rfl rfl rfl ?_
          refine b_ine (t1 := 18) (t2 := 14) rfl rfl rfl rfl (fun g15 => ?_) (fun g15 => absurd g15 (by decide))
          refine w_t (np := 19) (l2 := [some (eR a0), some (eI (1))]) (s2 := [eI (0)]) rfl rfl rfl ?_
          refine b_rz rfl rfl (Or.inl rfl) ?_
          show ex_q (dt_fg L ρ) rc (d + 2, (276, 39, [some (eR a0), some (eI (a1)), some (eI (a2)), some (eI (a3)), none, none, none, none, none], [eI (0)]), f :: F, m11)
          refine b_ine (t1 := 44) (t2 := 42) rfl rfl rfl rfl (fun g16 => absurd g16 (by decide)) (fun g16 => ?_)
          refine w_t (np := 43) (l2 := [some (eR a0), some (eI (a1)), some (eI (a2)), some (eI (a3)), none, none, none, none, none]) (s2 := [eI (-1)]) rfl rfl rfl ?_
          exact b_ri rfl rfl (K m11 (-1) I12 F14 (by decide))
        · have b6 : 0 ≤ a3 ∧ a3 ≤ 1 := by omega
          refine w_t (np := 11) (l2 := [some (eI (a3)), some (eI (0)), some (eI (1))]) (s2 := [eI (1)]) rfl rfl rfl ?_
          refine w_go (t1 := 15) rfl rfl ?_
          refine b_rz rfl rfl (Or.inr rfl) ?_
          show ex_q (dt_fg L ρ) rc (d + 2, (276, 16, [some (eR a0), some (eI (a1)), some (eI (a2)), some (eI (a3)), none, none, none, none, none], [eI (1), eR a0]), f :: F, μ)
          refine b_ine (t1 := 23) (t2 := 19) rfl rfl rfl rfl (fun g6 => ?_) (fun g6 => absurd g6 (by decide))
          refine w_t (np := 24) (l2 := [some (eR a0), some (eI (a1)), some (eI (a2)), some (eI (a3)), none, none, none, none, none]) (s2 := [eR a0, eR a0]) rfl (s_an rfl (pos_g hI gA0 (by decide))) rfl ?_
          refine w_t (np := 25) (l2 := [some (eR a0), some (eI (a1)), some (eI (a2)), some (eI (a3)), none, none, none, none, none]) (s2 := [eI (a1), eR a0, eR a0]) rfl rfl rfl ?_
          refine w_cw (np := 28) (as := [eI (a1)]) (l2 := [some (eR a0), some (eI (a1))]) (rest := [eR a0]) rfl rfl rfl (Nat.ble_eq.mp rfl) rfl rfl rfl (hI.kd gA0 (by decide) (n := 69) rfl) rfl ?_
          refine w_t (np := 1) (l2 := [some (eR a0), some (eI (a1))]) (s2 := [eI (a1)]) rfl rfl rfl ?_
          refine w_t (np := 2) (l2 := [some (eR a0), some (eI (a1))]) (s2 := [eI (0), eI (a1)]) rfl rfl rfl ?_
          refine w_t (np := 3) (l2 := [some (eR a0), some (eI (a1))]) (s2 := [eR a0, eI (0), eI (a1)]) rfl (s_an rfl (pos_g hI gA0 (by decide))) rfl ?_
          refine j_gi (np := 6) rfl rfl rfl hI gA0 (by decide) (n := 69) rfl rfl (lo := 0) (hi := 890) rfl ?_
          intro v7 e8 b9
          refine w_t (np := 7) (l2 := [some (eR a0), some (eI (a1))]) (s2 := [eI (1), eI (v7), eI (0), eI (a1)]) rfl rfl rfl ?_
          obtain ⟨v10, e11⟩ : ∃ zz : Int, zz = (v7) - (1) := ⟨_, rfl⟩
          have b12 : -1 ≤ v10 ∧ v10 ≤ 889 := by omega
          refine w_t (np := 8) (l2 := [some (eR a0), some (eI (a1))]) (s2 := [eI (v10), eI (0), eI (a1)]) rfl (b_isub (by rw [← e11]; exact ev_w_in (by omega) (by omega))) rfl ?_
          refine w_cu (np := 11) (as := [eI (a1), eI (0), eI (v10)]) (l2 := [some (eI (a1)), some (eI (0)), some (eI (v10))]) (rest := []) rfl rfl rfl (Nat.ble_eq.mp rfl) rfl rfl rfl rfl ?_
          refine w_t (np := 1) (l2 := [some (eI (a1)), some (eI (0)), some (eI (v10))]) (s2 := [eI (a1)]) rfl rfl rfl ?_
          refine w_t (np := 2) (l2 := [some (eI (a1)), some (eI (0)), some (eI (v10))]) (s2 := [eI (0), eI (a1)]) rfl rfl rfl ?_
          refine b_clt (t1 := 14) (t2 := 5) rfl rfl rfl (ev_w_in (by omega) (by omega)) rfl (fun g13 => ?_) (fun g13 => ?_)
          · have b14 : -2147483648 ≤ a1 ∧ a1 ≤ -1 := by omega
            refine w_t (np := 15) (l2 := [some (eI (a1)), some (eI (0)), some (eI (v10))]) (s2 := [eI (0)]) rfl rfl rfl ?_
            refine b_rz rfl rfl (Or.inl rfl) ?_
            show ex_q (dt_fg L ρ) rc (d + 1, (243, 11, [some (eR a0), some (eI (a1))], [eI (0)]), (276, 28, [some (eR a0), some (eI (a1)), some (eI (a2)), some (eI (a3)), none, none, none, none, none], [eR a0]) :: f :: F, μ)
            refine b_rz rfl rfl (Or.inl rfl) ?_
            show ex_q (dt_fg L ρ) rc (d + 2, (276, 28, [some (eR a0), some (eI (a1)), some (eI (a2)), some (eI (a3)), none, none, none, none, none], [eI (0), eR a0]), f :: F, μ)
            refine b_ieq (t1 := 35) (t2 := 31) rfl rfl rfl rfl (fun g14 => ?_) (fun g14 => absurd g14 (by decide))
            refine w_t (np := 36) (l2 := [some (eR a0), some (eI (a1)), some (eI (a2)), some (eI (a3)), none, none, none, none, none]) (s2 := [eI (2), eR a0]) rfl rfl rfl ?_
            refine w_cw (np := 39) (as := [eI (2)]) (l2 := [some (eR a0), some (eI (2))]) (rest := []) rfl rfl rfl (Nat.ble_eq.mp rfl) rfl rfl rfl (hI.kd gA0 (by decide) (n := 69) rfl) rfl ?_
            refine w_t (np := 1) (l2 := [some (eR a0), some (eI (2))]) (s2 := [eR a0]) rfl (s_an rfl (pos_g hI gA0 (by decide))) rfl ?_
            refine w_t (np := 2) (l2 := [some (eR a0), some (eI (2))]) (s2 := [eI (0), eR a0]) rfl rfl rfl ?_
            refine j_pf (np := 5) (w := 0) rfl rfl hI gA0 (by decide) (n := 69) rfl rfl (hO_i (lo := -2147483648) (hi := 2147483647) rfl (by decide)) ?_
            intro m15 I16 W17
            have F18 : Fr l_276 0 0 g μ m15 := F0.w W17 gA0 rfl
            refine w_t (np := 6) (l2 := [some (eR a0), some (eI (2))]) (s2 := [eR a0]) rfl (s_an rfl (pos_g I16 gA0 (by decide))) rfl ?_
            refine w_t (np := 7) (l2 := [some (eR a0), some (eI (2))]) (s2 := [eI (2), eR a0]) rfl rfl rfl ?_
            refine j_pf (np := 10) (w := 2) rfl rfl I16 gA0 (by decide) (n := 69) rfl rfl (hO_i (lo := -2147483648) (hi := 2147483647) rfl (by decide)) ?_
            intro m19 I20 W21
            have F22 : Fr l_276 0 0 g μ m19 := F18.w W21 gA0 rfl
            refine w_t (np := 11) (l2 := [some (eR a0), some (eI (2))]) (s2 := [eI (2)]) rfl rfl rfl ?_
            refine b_ine (t1 := 18) (t2 := 14) rfl rfl rfl rfl (fun g23 => ?_) (fun g23 => absurd g23 (by decide))
            refine w_t (np := 19) (l2 := [some (eR a0), some (eI (2))]) (s2 := [eI (0)]) rfl rfl rfl ?_
            refine b_rz rfl rfl (Or.inl rfl) ?_
            show ex_q (dt_fg L ρ) rc (d + 2, (276, 39, [some (eR a0), some (eI (a1)), some (eI (a2)), some (eI (a3)), none, none, none, none, none], [eI (0)]), f :: F, m19)
            refine b_ine (t1 := 44) (t2 := 42) rfl rfl rfl rfl (fun g24 => absurd g24 (by decide)) (fun g24 => ?_)
            refine w_t (np := 43) (l2 := [some (eR a0), some (eI (a1)), some (eI (a2)), some (eI (a3)), none, none, none, none, none]) (s2 := [eI (-1)]) rfl rfl rfl ?_
            exact b_ri rfl rfl (K m19 (-1) I20 F22 (by decide))
          · have b14 : 0 ≤ a1 ∧ a1 ≤ 2147483647 := by omega
            refine w_t (np := 6) (l2 := [some (eI (a1)), some (eI (0)), some (eI (v10))]) (s2 := [eI (a1)]) rfl rfl rfl ?_
            refine w_t (np := 7) (l2 := [some (eI (a1)), some (eI (0)), some (eI (v10))]) (s2 := [eI (v10), eI (a1)]) rfl rfl rfl ?_
            refine b_cgt (t1 := 14) (t2 := 10) rfl rfl rfl (ev_w_in (by omega) (by omega)) (ev_w_in (by omega) (by omega)) (fun g14 => ?_) (fun g14 => ?_)
            · refine w_t (np := 15) (l2 := [some (eI (a1)), some (eI (0)), some (eI (v10))]) (s2 := [eI (0)]) rfl rfl rfl ?_
              refine b_rz rfl rfl (Or.inl rfl) ?_
              show ex_q (dt_fg L ρ) rc (d + 1, (243, 11, [some (eR a0), some (eI (a1))], [eI (0)]), (276, 28, [some (eR a0), some (eI (a1)), some (eI (a2)), some (eI (a3)), none, none, none, none, none], [eR a0]) :: f :: F, μ)
              refine b_rz rfl rfl (Or.inl rfl) ?_
              show ex_q (dt_fg L ρ) rc (d + 2, (276, 28, [some (eR a0), some (eI (a1)), some (eI (a2)), some (eI (a3)), none, none, none, none, none], [eI (0), eR a0]), f :: F, μ)
              refine b_ieq (t1 := 35) (t2 := 31) rfl rfl rfl rfl (fun g15 => ?_) (fun g15 => absurd g15 (by decide))
              refine w_t (np := 36) (l2 := [some (eR a0), some (eI (a1)), some (eI (a2)), some (eI (a3)), none, none, none, none, none]) (s2 := [eI (2), eR a0]) rfl rfl rfl ?_
              refine w_cw (np := 39) (as := [eI (2)]) (l2 := [some (eR a0), some (eI (2))]) (rest := []) rfl rfl rfl (Nat.ble_eq.mp rfl) rfl rfl rfl (hI.kd gA0 (by decide) (n := 69) rfl) rfl ?_
              refine w_t (np := 1) (l2 := [some (eR a0), some (eI (2))]) (s2 := [eR a0]) rfl (s_an rfl (pos_g hI gA0 (by decide))) rfl ?_
              refine w_t (np := 2) (l2 := [some (eR a0), some (eI (2))]) (s2 := [eI (0), eR a0]) rfl rfl rfl ?_
              refine j_pf (np := 5) (w := 0) rfl rfl hI gA0 (by decide) (n := 69) rfl rfl (hO_i (lo := -2147483648) (hi := 2147483647) rfl (by decide)) ?_
              intro m16 I17 W18
              have F19 : Fr l_276 0 0 g μ m16 := F0.w W18 gA0 rfl
              refine w_t (np := 6) (l2 := [some (eR a0), some (eI (2))]) (s2 := [eR a0]) rfl (s_an rfl (pos_g I17 gA0 (by decide))) rfl ?_
              refine w_t (np := 7) (l2 := [some (eR a0), some (eI (2))]) (s2 := [eI (2), eR a0]) rfl rfl rfl ?_
              refine j_pf (np := 10) (w := 2) rfl rfl I17 gA0 (by decide) (n := 69) rfl rfl (hO_i (lo := -2147483648) (hi := 2147483647) rfl (by decide)) ?_
              intro m20 I21 W22
              have F23 : Fr l_276 0 0 g μ m20 := F19.w W22 gA0 rfl
              refine w_t (np := 11) (l2 := [some (eR a0), some (eI (2))]) (s2 := [eI (2)]) rfl rfl rfl ?_
              refine b_ine (t1 := 18) (t2 := 14) rfl rfl rfl rfl (fun g24 => ?_) (fun g24 => absurd g24 (by decide))
              refine w_t (np := 19) (l2 := [some (eR a0), some (eI (2))]) (s2 := [eI (0)]) rfl rfl rfl ?_
              refine b_rz rfl rfl (Or.inl rfl) ?_
              show ex_q (dt_fg L ρ) rc (d + 2, (276, 39, [some (eR a0), some (eI (a1)), some (eI (a2)), some (eI (a3)), none, none, none, none, none], [eI (0)]), f :: F, m20)
              refine b_ine (t1 := 44) (t2 := 42) rfl rfl rfl rfl (fun g25 => absurd g25 (by decide)) (fun g25 => ?_)
              refine w_t (np := 43) (l2 := [some (eR a0), some (eI (a1)), some (eI (a2)), some (eI (a3)), none, none, none, none, none]) (s2 := [eI (-1)]) rfl rfl rfl ?_
              exact b_ri rfl rfl (K m20 (-1) I21 F23 (by decide))
            · have b15 : 0 ≤ a1 ∧ a1 ≤ 889 := by omega
              have b16 : 0 ≤ v10 ∧ v10 ≤ 889 := by omega
              refine w_t (np := 11) (l2 := [some (eI (a1)), some (eI (0)), some (eI (v10))]) (s2 := [eI (1)]) rfl rfl rfl ?_
              refine w_go (t1 := 15) rfl rfl ?_
              refine b_rz rfl rfl (Or.inr rfl) ?_
              show ex_q (dt_fg L ρ) rc (d + 1, (243, 11, [some (eR a0), some (eI (a1))], [eI (1)]), (276, 28, [some (eR a0), some (eI (a1)), some (eI (a2)), some (eI (a3)), none, none, none, none, none], [eR a0]) :: f :: F, μ)
              refine b_rz rfl rfl (Or.inr rfl) ?_
              show ex_q (dt_fg L ρ) rc (d + 2, (276, 28, [some (eR a0), some (eI (a1)), some (eI (a2)), some (eI (a3)), none, none, none, none, none], [eI (1), eR a0]), f :: F, μ)
              refine b_ieq (t1 := 35) (t2 := 31) rfl rfl rfl rfl (fun g15 => absurd g15 (by decide)) (fun g15 => ?_)
              refine w_t (np := 32) (l2 := [some (eR a0), some (eI (a1)), some (eI (a2)), some (eI (a3)), none, none, none, none, none]) (s2 := [eI (0), eR a0]) rfl rfl rfl ?_
              refine w_go (t1 := 36) rfl rfl ?_
              refine w_cw (np := 39) (as := [eI (0)]) (l2 := [some (eR a0), some (eI (0))]) (rest := []) rfl rfl rfl (Nat.ble_eq.mp rfl) rfl rfl rfl (hI.kd gA0 (by decide) (n := 69) rfl) rfl ?_
              refine w_t (np := 1) (l2 := [some (eR a0), some (eI (0))]) (s2 := [eR a0]) rfl (s_an rfl (pos_g hI gA0 (by decide))) rfl ?_
              refine w_t (np := 2) (l2 := [some (eR a0), some (eI (0))]) (s2 := [eI (0), eR a0]) rfl rfl rfl ?_
              refine j_pf (np := 5) (w := 0) rfl rfl hI gA0 (by decide) (n := 69) rfl rfl (hO_i (lo := -2147483648) (hi := 2147483647) rfl (by decide)) ?_
              intro m16 I17 W18
              have F19 : Fr l_276 0 0 g μ m16 := F0.w W18 gA0 rfl
              refine w_t (np := 6) (l2 := [some (eR a0), some (eI (0))]) (s2 := [eR a0]) rfl (s_an rfl (pos_g I17 gA0 (by decide))) rfl ?_
              refine w_t (np := 7) (l2 := [some (eR a0), some (eI (0))]) (s2 := [eI (0), eR a0]) rfl rfl rfl ?_
              refine j_pf (np := 10) (w := 0) rfl rfl I17 gA0 (by decide) (n := 69) rfl rfl (hO_i (lo := -2147483648) (hi := 2147483647) rfl (by decide)) ?_
              intro m20 I21 W22
              have F23 : Fr l_276 0 0 g μ m20 := F19.w W22 gA0 rfl
              refine w_t (np := 11) (l2 := [some (eR a0), some (eI (0))]) (s2 := [eI (0)]) rfl rfl rfl ?_
              refine b_ine (t1 := 18) (t2 := 14) rfl rfl rfl rfl (fun g24 => absurd g24 (by decide)) (fun g24 => ?_)
              refine w_t (np := 15) (l2 := [some (eR a0), some (eI (0))]) (s2 := [eI (1)]) rfl rfl rfl ?_
              refine w_go (t1 := 19) rfl rfl ?_
              refine b_rz rfl rfl (Or.inr rfl) ?_
              show ex_q (dt_fg L ρ) rc (d + 2, (276, 39, [some (eR a0), some (eI (a1)), some (eI (a2)), some (eI (a3)), none, none, none, none, none], [eI (1)]), f :: F, m20)
              refine b_ine (t1 := 44) (t2 := 42) rfl rfl rfl rfl (fun g25 => ?_) (fun g25 => absurd g25 (by decide))
              refine w_t (np := 46) (l2 := [some (eR a0), some (eI (a1)), some (eI (a2)), some (eI (a3)), none, none, none, none, none]) (s2 := [eI (12)]) rfl rfl rfl ?_
              refine w_t (np := 47) (l2 := [some (eR a0), some (eI (a1)), some (eI (a2)), some (eI (a3)), none, none, none, none, none]) (s2 := [eI (a1), eI (12)]) rfl rfl rfl ?_
              obtain ⟨v26, e27⟩ : ∃ zz : Int, zz = (12) * (a1) := ⟨_, rfl⟩
              have b28 : 0 ≤ v26 ∧ v26 ≤ 10668 := by omega
              refine w_t (np := 48) (l2 := [some (eR a0), some (eI (a1)), some (eI (a2)), some (eI (a3)), none, none, none, none, none]) (s2 := [eI (v26)]) rfl (b_imul (by rw [← e27]; exact ev_w_in (by omega) (by omega))) rfl ?_
              refine w_t (np := 49) (l2 := [some (eR a0), some (eI (a1)), some (eI (a2)), some (eI (a3)), none, none, none, none, none]) (s2 := [eI (4), eI (v26)]) rfl rfl rfl ?_
              refine w_t (np := 50) (l2 := [some (eR a0), some (eI (a1)), some (eI (a2)), some (eI (a3)), none, none, none, none, none]) (s2 := [eI (a2), eI (4), eI (v26)]) rfl rfl rfl ?_
              obtain ⟨v29, e30⟩ : ∃ zz : Int, zz = (4) * (a2) := ⟨_, rfl⟩
              have b31 : 0 ≤ v29 ∧ v29 ≤ 8 := by omega
              refine w_t (np := 51) (l2 := [some (eR a0), some (eI (a1)), some (eI (a2)), some (eI (a3)), none, none, none, none, none]) (s2 := [eI (v29), eI (v26)]) rfl (b_imul (by rw [← e30]; exact ev_w_in (by omega) (by omega))) rfl ?_
              obtain ⟨v32, e33⟩ : ∃ zz : Int, zz = (v26) + (v29) := ⟨_, rfl⟩
              have b34 : 0 ≤ v32 ∧ v32 ≤ 10676 := by omega
              refine w_t (np := 52) (l2 := [some (eR a0), some (eI (a1)), some (eI (a2)), some (eI (a3)), none, none, none, none, none]) (s2 := [eI (v32)]) rfl (b_iadd (by rw [← e33]; exact ev_w_in (by omega) (by omega))) rfl ?_
              refine w_t (np := 54) (l2 := [some (eR a0), some (eI (a1)), some (eI (a2)), some (eI (a3)), some (eI (v32)), none, none, none, none]) (s2 := []) rfl rfl rfl ?_
              refine w_t (np := 55) (l2 := [some (eR a0), some (eI (a1)), some (eI (a2)), some (eI (a3)), some (eI (v32)), none, none, none, none]) (s2 := [eR a0]) rfl (s_an rfl (pos_g I21 gA0 (by decide))) rfl ?_
              refine j_gr (np := 58) rfl rfl I21 gA0 (by decide) (n := 69) rfl rfl rfl ?_
              intro v35 e36 b37 z38
              have b37 : g v35 = 54 := Nat.eq_of_beq_eq_true b37
              refine w_t (np := 60) (l2 := [some (eR a0), some (eI (a1)), some (eI (a2)), some (eI (a3)), some (eI (v32)), none, none, none, none]) (s2 := [eI (v32), eR v35]) rfl rfl rfl ?_
              refine j_al (np := 61) rfl rfl I21 b37 (by decide) (n := 10680) rfl rfl (lo := -2147483648) (hi := 2147483647) (fun _ => rfl) (by omega) (by omega) ?_
              intro v39 e40 b41
              obtain ⟨v42, e43, b44⟩ := d_i2d (v39)
              refine w_t (np := 62) (l2 := [some (eR a0), some (eI (a1)), some (eI (a2)), some (eI (a3)), some (eI (v32)), none, none, none, none]) (s2 := [eD v42]) rfl (e43 _ _) rfl ?_
              refine w_t (np := 63) (l2 := [some (eR a0), some (eI (a1)), some (eI (a2)), some (eI (a3)), some (eI (v32)), none, none, none, none]) (s2 := [eR a0, eD v42]) rfl (s_an rfl (pos_g I21 gA0 (by decide))) rfl ?_
              refine w_gf (np := 66) (v := eR v35) rfl rfl (I21.kd gA0 (by decide) (n := 69) rfl) (by rw [e36]; rfl) ?_
              refine w_t (np := 68) (l2 := [some (eR a0), some (eI (a1)), some (eI (a2)), some (eI (a3)), some (eI (v32)), none, none, none, none]) (s2 := [eI (v32), eR v35, eD v42]) rfl rfl rfl ?_
              refine w_t (np := 69) (l2 := [some (eR a0), some (eI (a1)), some (eI (a2)), some (eI (a3)), some (eI (v32)), none, none, none, none]) (s2 := [eI (1), eI (v32), eR v35, eD v42]) rfl rfl rfl ?_
              obtain ⟨v45, e46⟩ : ∃ zz : Int, zz = (v32) + (1) := ⟨_, rfl⟩
              have b47 : 1 ≤ v45 ∧ v45 ≤ 10677 := by omega
              refine w_t (np := 70) (l2 := [some (eR a0), some (eI (a1)), some (eI (a2)), some (eI (a3)), some (eI (v32)), none, none, none, none]) (s2 := [eI (v45), eR v35, eD v42]) rfl (b_iadd (by rw [← e46]; exact ev_w_in (by omega) (by omega))) rfl ?_
              refine j_al (np := 71) rfl rfl I21 b37 (by decide) (n := 10680) rfl rfl (lo := -2147483648) (hi := 2147483647) (fun _ => rfl) (by omega) (by omega) ?_
              intro v48 e49 b50
              obtain ⟨v51, e52, b53⟩ := d_i2d (v48)
              refine w_t (np := 72) (l2 := [some (eR a0), some (eI (a1)), some (eI (a2)), some (eI (a3)), some (eI (v32)), none, none, none, none]) (s2 := [eD v51, eD v42]) rfl (e52 _ _) rfl ?_
              refine v_ld (np := 75) (c := 4605462196814083713) rfl rfl rfl ?_
              have b54 : DB 1023 4605462196814083713 := by
                unfold DB
                decide
              obtain ⟨v55, e56, b57⟩ := d_dmul (K := 1057) b53 b54 (by decide) (by decide) rfl (by decide)
              refine w_t (np := 76) (l2 := [some (eR a0), some (eI (a1)), some (eI (a2)), some (eI (a3)), some (eI (v32)), none, none, none, none]) (s2 := [eD v55, eD v42]) rfl (e56 _ _) rfl ?_
              obtain ⟨v58, e59, b60⟩ := d_dadd (K := 1057) (K2 := 1059) (b44.up (by decide)) (b57.up (by decide)) (by decide) rfl
              refine w_t (np := 77) (l2 := [some (eR a0), some (eI (a1)), some (eI (a2)), some (eI (a3)), some (eI (v32)), none, none, none, none]) (s2 := [eD v58]) rfl (e59 _ _) rfl ?_
              refine w_t (np := 78) (l2 := [some (eR a0), some (eI (a1)), some (eI (a2)), some (eI (a3)), some (eI (v32)), none, none, none, none]) (s2 := [eR a0, eD v58]) rfl (s_an rfl (pos_g I21 gA0 (by decide))) rfl ?_
              refine w_gf (np := 81) (v := eR v35) rfl rfl (I21.kd gA0 (by decide) (n := 69) rfl) (by rw [e36]; rfl) ?_
              refine w_t (np := 83) (l2 := [some (eR a0), some (eI (a1)), some (eI (a2)), some (eI (a3)), some (eI (v32)), none, none, none, none]) (s2 := [eI (v32), eR v35, eD v58]) rfl rfl rfl ?_
              refine w_t (np := 84) (l2 := [some (eR a0), some (eI (a1)), some (eI (a2)), some (eI (a3)), some (eI (v32)), none, none, none, none]) (s2 := [eI (2), eI (v32), eR v35, eD v58]) rfl rfl rfl ?_
              obtain ⟨v61, e62⟩ : ∃ zz : Int, zz = (v32) + (2) := ⟨_, rfl⟩
              have b63 : 2 ≤ v61 ∧ v61 ≤ 10678 := by omega
              refine w_t (np := 85) (l2 := [some (eR a0), some (eI (a1)), some (eI (a2)), some (eI (a3)), some (eI (v32)), none, none, none, none]) (s2 := [eI (v61), eR v35, eD v58]) rfl (b_iadd (by rw [← e62]; exact ev_w_in (by omega) (by omega))) rfl ?_
              refine j_al (np := 86) rfl rfl I21 b37 (by decide) (n := 10680) rfl rfl (lo := -2147483648) (hi := 2147483647) (fun _ => rfl) (by omega) (by omega) ?_
              intro v64 e65 b66
              obtain ⟨v67, e68, b69⟩ := d_i2d (v64)
              refine w_t (np := 87) (l2 := [some (eR a0), some (eI (a1)), some (eI (a2)), some (eI (a3)), some (eI (v32)), none, none, none, none]) (s2 := [eD v67, eD v58]) rfl (e68 _ _) rfl ?_
              refine v_ld (np := 90) (c := 4599238375200779523) rfl rfl rfl ?_
              have b70 : DB 1022 4599238375200779523 := by
                unfold DB
                decide
              obtain ⟨v71, e72, b73⟩ := d_dmul (K := 1056) b69 b70 (by decide) (by decide) rfl (by decide)
              refine w_t (np := 91) (l2 := [some (eR a0), some (eI (a1)), some (eI (a2)), some (eI (a3)), some (eI (v32)), none, none, none, none]) (s2 := [eD v71, eD v58]) rfl (e72 _ _) rfl ?_
              obtain ⟨v74, e75, b76⟩ := d_dadd (K := 1059) (K2 := 1061) (b60.up (by decide)) (b73.up (by decide)) (by decide) rfl
              refine w_t (np := 92) (l2 := [some (eR a0), some (eI (a1)), some (eI (a2)), some (eI (a3)), some (eI (v32)), none, none, none, none]) (s2 := [eD v74]) rfl (e75 _ _) rfl ?_
              refine w_t (np := 93) (l2 := [some (eR a0), some (eI (a1)), some (eI (a2)), some (eI (a3)), some (eI (v32)), none, none, none, none]) (s2 := [eR a0, eD v74]) rfl (s_an rfl (pos_g I21 gA0 (by decide))) rfl ?_
              refine w_gf (np := 96) (v := eR v35) rfl rfl (I21.kd gA0 (by decide) (n := 69) rfl) (by rw [e36]; rfl) ?_
              refine w_t (np := 98) (l2 := [some (eR a0), some (eI (a1)), some (eI (a2)), some (eI (a3)), some (eI (v32)), none, none, none, none]) (s2 := [eI (v32), eR v35, eD v74]) rfl rfl rfl ?_
              refine w_t (np := 99) (l2 := [some (eR a0), some (eI (a1)), some (eI (a2)), some (eI (a3)), some (eI (v32)), none, none, none, none]) (s2 := [eI (3), eI (v32), eR v35, eD v74]) rfl rfl rfl ?_
              obtain ⟨v77, e78⟩ : ∃ zz : Int, zz = (v32) + (3) := ⟨_, rfl⟩
              have b79 : 3 ≤ v77 ∧ v77 ≤ 10679 := by omega
              refine w_t (np := 100) (l2 := [some (eR a0), some (eI (a1)), some (eI (a2)), some (eI (a3)), some (eI (v32)), none, none, none, none]) (s2 := [eI (v77), eR v35, eD v74]) rfl (b_iadd (by rw [← e78]; exact ev_w_in (by omega) (by omega))) rfl ?_
              refine j_al (np := 101) rfl rfl I21 b37 (by decide) (n := 10680) rfl rfl (lo := -2147483648) (hi := 2147483647) (fun _ => rfl) (by omega) (by omega) ?_
              intro v80 e81 b82
              obtain ⟨v83, e84, b85⟩ := d_i2d (v80)
              refine w_t (np := 102) (l2 := [some (eR a0), some (eI (a1)), some (eI (a2)), some (eI (a3)), some (eI (v32)), none, none, none, none]) (s2 := [eD v83, eD v74]) rfl (e84 _ _) rfl ?_
              refine v_ld (np := 105) (c := 4599238375200779523) rfl rfl rfl ?_
              have b86 : DB 1022 4599238375200779523 := by
                unfold DB
                decide
              obtain ⟨v87, e88, b89⟩ := d_dmul (K := 1056) b85 b86 (by decide) (by decide) rfl (by decide)
              refine w_t (np := 106) (l2 := [some (eR a0), some (eI (a1)), some (eI (a2)), some (eI (a3)), some (eI (v32)), none, none, none, none]) (s2 := [eD v87, eD v74]) rfl (e88 _ _) rfl ?_
              obtain ⟨v90, e91, b92⟩ := d_dsub (K := 1061) (K2 := 1063) (b76.up (by decide)) (b89.up (by decide)) (by decide) rfl
              refine w_t (np := 107) (l2 := [some (eR a0), some (eI (a1)), some (eI (a2)), some (eI (a3)), some (eI (v32)), none, none, none, none]) (s2 := [eD v90]) rfl (e91 _ _) rfl ?_
              refine w_t (np := 109) (l2 := [some (eR a0), some (eI (a1)), some (eI (a2)), some (eI (a3)), some (eI (v32)), some (eD v90), none, none, none]) (s2 := []) rfl rfl rfl ?_
              refine w_t (np := 110) (l2 := [some (eR a0), some (eI (a1)), some (eI (a2)), some (eI (a3)), some (eI (v32)), some (eD v90), none, none, none]) (s2 := [eR a0]) rfl (s_an rfl (pos_g I21 gA0 (by decide))) rfl ?_
              refine w_gf (np := 113) (v := eR v35) rfl rfl (I21.kd gA0 (by decide) (n := 69) rfl) (by rw [e36]; rfl) ?_
              refine w_t (np := 115) (l2 := [some (eR a0), some (eI (a1)), some (eI (a2)), some (eI (a3)), some (eI (v32)), some (eD v90), none, none, none]) (s2 := [eI (v32), eR v35]) rfl rfl rfl ?_
              refine w_t (np := 116) (l2 := [some (eR a0), some (eI (a1)), some (eI (a2)), some (eI (a3)), some (eI (v32)), some (eD v90), none, none, none]) (s2 := [eI (1), eI (v32), eR v35]) rfl rfl rfl ?_
              obtain ⟨v93, e94⟩ : ∃ zz : Int, zz = (v32) + (1) := ⟨_, rfl⟩
              have b95 : 1 ≤ v93 ∧ v93 ≤ 10677 := by omega
              refine w_t (np := 117) (l2 := [some (eR a0), some (eI (a1)), some (eI (a2)), some (eI (a3)), some (eI (v32)), some (eD v90), none, none, none]) (s2 := [eI (v93), eR v35]) rfl (b_iadd (by rw [← e94]; exact ev_w_in (by omega) (by omega))) rfl ?_
              refine j_al (np := 118) rfl rfl I21 b37 (by decide) (n := 10680) rfl rfl (lo := -2147483648) (hi := 2147483647) (fun _ => rfl) (by omega) (by omega) ?_
              intro v96 e97 b98
              obtain ⟨v99, e100, b101⟩ := d_i2d (v96)
              refine w_t (np := 119) (l2 := [some (eR a0), some (eI (a1)), some (eI (a2)), some (eI (a3)), some (eI (v32)), some (eD v90), none, none, none]) (s2 := [eD v99]) rfl (e100 _ _) rfl ?_
              refine v_ld (np := 122) (c := 4603469518431668664) rfl rfl rfl ?_
              have b102 : DB 1023 4603469518431668664 := by
                unfold DB
                decide
              obtain ⟨v103, e104, b105⟩ := d_dmul (K := 1057) b101 b102 (by decide) (by decide) rfl (by decide)
              refine w_t (np := 123) (l2 := [some (eR a0), some (eI (a1)), some (eI (a2)), some (eI (a3)), some (eI (v32)), some (eD v90), none, none, none]) (s2 := [eD v103]) rfl (e104 _ _) rfl ?_
              refine w_t (np := 124) (l2 := [some (eR a0), some (eI (a1)), some (eI (a2)), some (eI (a3)), some (eI (v32)), some (eD v90), none, none, none]) (s2 := [eR a0, eD v103]) rfl (s_an rfl (pos_g I21 gA0 (by decide))) rfl ?_
              refine w_gf (np := 127) (v := eR v35) rfl rfl (I21.kd gA0 (by decide) (n := 69) rfl) (by rw [e36]; rfl) ?_
              refine w_t (np := 129) (l2 := [some (eR a0), some (eI (a1)), some (eI (a2)), some (eI (a3)), some (eI (v32)), some (eD v90), none, none, none]) (s2 := [eI (v32), eR v35, eD v103]) rfl rfl rfl ?_
              refine w_t (np := 130) (l2 := [some (eR a0), some (eI (a1)), some (eI (a2)), some (eI (a3)), some (eI (v32)), some (eD v90), none, none, none]) (s2 := [eI (2), eI (v32), eR v35, eD v103]) rfl rfl rfl ?_
              obtain ⟨v106, e107⟩ : ∃ zz : Int, zz = (v32) + (2) := ⟨_, rfl⟩
              have b108 : 2 ≤ v106 ∧ v106 ≤ 10678 := by omega
              refine w_t (np := 131) (l2 := [some (eR a0), some (eI (a1)), some (eI (a2)), some (eI (a3)), some (eI (v32)), some (eD v90), none, none, none]) (s2 := [eI (v106), eR v35, eD v103]) rfl (b_iadd (by rw [← e107]; exact ev_w_in (by omega) (by omega))) rfl ?_
              refine j_al (np := 132) rfl rfl I21 b37 (by decide) (n := 10680) rfl rfl (lo := -2147483648) (hi := 2147483647) (fun _ => rfl) (by omega) (by omega) ?_
              intro v109 e110 b111
              obtain ⟨v112, e113, b114⟩ := d_i2d (v109)
              refine w_t (np := 133) (l2 := [some (eR a0), some (eI (a1)), some (eI (a2)), some (eI (a3)), some (eI (v32)), some (eD v90), none, none, none]) (s2 := [eD v112, eD v103]) rfl (e113 _ _) rfl ?_
              refine v_ld (np := 136) (c := 4606741575090065304) rfl rfl rfl ?_
              have b115 : DB 1023 4606741575090065304 := by
                unfold DB
                decide
              obtain ⟨v116, e117, b118⟩ := d_dmul (K := 1057) b114 b115 (by decide) (by decide) rfl (by decide)
              refine w_t (np := 137) (l2 := [some (eR a0), some (eI (a1)), some (eI (a2)), some (eI (a3)), some (eI (v32)), some (eD v90), none, none, none]) (s2 := [eD v116, eD v103]) rfl (e117 _ _) rfl ?_
              obtain ⟨v119, e120, b121⟩ := d_dadd (K := 1057) (K2 := 1059) (b105.up (by decide)) (b118.up (by decide)) (by decide) rfl
              refine w_t (np := 138) (l2 := [some (eR a0), some (eI (a1)), some (eI (a2)), some (eI (a3)), some (eI (v32)), some (eD v90), none, none, none]) (s2 := [eD v119]) rfl (e120 _ _) rfl ?_
              refine w_t (np := 139) (l2 := [some (eR a0), some (eI (a1)), some (eI (a2)), some (eI (a3)), some (eI (v32)), some (eD v90), none, none, none]) (s2 := [eR a0, eD v119]) rfl (s_an rfl (pos_g I21 gA0 (by decide))) rfl ?_
              refine w_gf (np := 142) (v := eR v35) rfl rfl (I21.kd gA0 (by decide) (n := 69) rfl) (by rw [e36]; rfl) ?_
              refine w_t (np := 144) (l2 := [some (eR a0), some (eI (a1)), some (eI (a2)), some (eI (a3)), some (eI (v32)), some (eD v90), none, none, none]) (s2 := [eI (v32), eR v35, eD v119]) rfl rfl rfl ?_
              refine w_t (np := 145) (l2 := [some (eR a0), some (eI (a1)), some (eI (a2)), some (eI (a3)), some (eI (v32)), some (eD v90), none, none, none]) (s2 := [eI (3), eI (v32), eR v35, eD v119]) rfl rfl rfl ?_
              obtain ⟨v122, e123⟩ : ∃ zz : Int, zz = (v32) + (3) := ⟨_, rfl⟩
              have b124 : 3 ≤ v122 ∧ v122 ≤ 10679 := by omega
              refine w_t (np := 146) (l2 := [some (eR a0), some (eI (a1)), some (eI (a2)), some (eI (a3)), some (eI (v32)), some (eD v90), none, none, none]) (s2 := [eI (v122), eR v35, eD v119]) rfl (b_iadd (by rw [← e123]; exact ev_w_in (by omega) (by omega))) rfl ?_
              refine j_al (np := 147) rfl rfl I21 b37 (by decide) (n := 10680) rfl rfl (lo := -2147483648) (hi := 2147483647) (fun _ => rfl) (by omega) (by omega) ?_
              intro v125 e126 b127
              obtain ⟨v128, e129, b130⟩ := d_i2d (v125)
              refine w_t (np := 148) (l2 := [some (eR a0), some (eI (a1)), some (eI (a2)), some (eI (a3)), some (eI (v32)), some (eD v90), none, none, none]) (s2 := [eD v128, eD v119]) rfl (e129 _ _) rfl ?_
              refine v_ld (np := 151) (c := 4606741575090065304) rfl rfl rfl ?_
              have b131 : DB 1023 4606741575090065304 := by
                unfold DB
                decide
              obtain ⟨v132, e133, b134⟩ := d_dmul (K := 1057) b130 b131 (by decide) (by decide) rfl (by decide)
              refine w_t (np := 152) (l2 := [some (eR a0), some (eI (a1)), some (eI (a2)), some (eI (a3)), some (eI (v32)), some (eD v90), none, none, none]) (s2 := [eD v132, eD v119]) rfl (e133 _ _) rfl ?_
              obtain ⟨v135, e136, b137⟩ := d_dadd (K := 1059) (K2 := 1061) (b121.up (by decide)) (b134.up (by decide)) (by decide) rfl
              refine w_t (np := 153) (l2 := [some (eR a0), some (eI (a1)), some (eI (a2)), some (eI (a3)), some (eI (v32)), some (eD v90), none, none, none]) (s2 := [eD v135]) rfl (e136 _ _) rfl ?_
              refine w_t (np := 155) (l2 := [some (eR a0), some (eI (a1)), some (eI (a2)), some (eI (a3)), some (eI (v32)), some (eD v90), none, some (eD v135), none]) (s2 := []) rfl rfl rfl ?_
              refine w_t (np := 156) (l2 := [some (eR a0), some (eI (a1)), some (eI (a2)), some (eI (a3)), some (eI (v32)), some (eD v90), none, some (eD v135), none]) (s2 := [eI (a3)]) rfl rfl rfl ?_
              refine b_ine (t1 := 164) (t2 := 159) rfl rfl rfl (ev_w_in (by omega) (by omega)) (fun g138 => ?_) (fun g138 => ?_)
              · have b139 : 1 ≤ a3 ∧ a3 ≤ 1 := by omega
                refine w_t (np := 166) (l2 := [some (eR a0), some (eI (a1)), some (eI (a2)), some (eI (a3)), some (eI (v32)), some (eD v90), none, some (eD v135), none]) (s2 := [eD v135]) rfl rfl rfl ?_
                obtain ⟨v139, e140, b141⟩ := d_d2f b137 (by decide)
                refine w_t (np := 167) (l2 := [some (eR a0), some (eI (a1)), some (eI (a2)), some (eI (a3)), some (eI (v32)), some (eD v90), none, some (eD v135), none]) (s2 := [eF v139]) rfl (e140 _ _) rfl ?_
                refine w_cu (np := 170) (as := [eF v139]) (l2 := [some (eF v139)]) (rest := []) rfl rfl rfl (Nat.ble_eq.mp rfl) rfl rfl rfl rfl ?_
                refine w_t (np := 1) (l2 := [some (eF v139)]) (s2 := [eF v139]) rfl rfl rfl ?_
                refine w_cu (np := 4) (as := [eF v139]) (l2 := [some (eF v139)]) (rest := []) rfl rfl rfl (Nat.ble_eq.mp rfl) rfl rfl rfl rfl ?_
                refine w_t (np := 1) (l2 := [some (eF v139)]) (s2 := [eF v139]) rfl rfl rfl ?_
                refine w_t (np := 2) (l2 := [some (eF v139)]) (s2 := [eF v139, eF v139]) rfl rfl rfl ?_
                obtain ⟨v142, e143, b144⟩ := d_fcmp .l v139 v139
                refine w_t (np := 3) (l2 := [some (eF v139)]) (s2 := [eI (v142)]) rfl (e143 _ _) rfl ?_
                refine b_ieq (t1 := 10) (t2 := 6) rfl rfl rfl (ev_w_in (by omega) (by omega)) (fun g145 => ?_) (fun g145 => ?_)
                · have b146 : 0 ≤ v142 ∧ v142 ≤ 0 := by omega
                  refine w_t (np := 11) (l2 := [some (eF v139)]) (s2 := [eI (0)]) rfl rfl rfl ?_
                  refine b_rz rfl rfl (Or.inl rfl) ?_
                  show ex_q (dt_fg L ρ) rc (d + 1, (360, 4, [some (eF v139)], [eI (0)]), (276, 170, [some (eR a0), some (eI (a1)), some (eI (a2)), some (eI (a3)), some (eI (v32)), some (eD v90), none, some (eD v135), none], []) :: f :: F, m20)
                  refine b_ine (t1 := 12) (t2 := 7) rfl rfl rfl rfl (fun g146 => absurd g146 (by decide)) (fun g146 => ?_)
                  refine w_t (np := 8) (l2 := [some (eF v139)]) (s2 := [eF v139]) rfl rfl rfl ?_
                  refine v_fb (np := 11) rfl rfl rfl ?_
                  intro v147 b148
                  refine b_ri rfl rfl ?_
                  show ex_q (dt_fg L ρ) rc (d + 2, (276, 170, [some (eR a0), some (eI (a1)), some (eI (a2)), some (eI (a3)), some (eI (v32)), some (eD v90), none, some (eD v135), none], [eI (v147)]), f :: F, m20)
                  exact b_ri rfl rfl (K m20 (v147) I21 F23 (by omega))
                · refine w_t (np := 7) (l2 := [some (eF v139)]) (s2 := [eI (1)]) rfl rfl rfl ?_
                  refine w_go (t1 := 11) rfl rfl ?_
                  refine b_rz rfl rfl (Or.inr rfl) ?_
                  show ex_q (dt_fg L ρ) rc (d + 1, (360, 4, [some (eF v139)], [eI (1)]), (276, 170, [some (eR a0), some (eI (a1)), some (eI (a2)), some (eI (a3)), some (eI (v32)), some (eD v90), none, some (eD v135), none], []) :: f :: F, m20)
                  refine b_ine (t1 := 12) (t2 := 7) rfl rfl rfl rfl (fun g146 => ?_) (fun g146 => absurd g146 (by decide))
                  refine v_lc (np := 14) (c := 2143289344) rfl rfl (by decide) ?_
                  rw [show zI 2143289344 = 2143289344 by decide]
                  refine b_ri rfl rfl ?_
                  show ex_q (dt_fg L ρ) rc (d + 2, (276, 170, [some (eR a0), some (eI (a1)), some (eI (a2)), some (eI (a3)), some (eI (v32)), some (eD v90), none, some (eD v135), none], [eI (2143289344)]), f :: F, m20)
                  exact b_ri rfl rfl (K m20 (2143289344) I21 F23 (by decide))
              · have b139 : 0 ≤ a3 ∧ a3 ≤ 0 := by omega
                refine w_t (np := 161) (l2 := [some (eR a0), some (eI (a1)), some (eI (a2)), some (eI (a3)), some (eI (v32)), some (eD v90), none, some (eD v135), none]) (s2 := [eD v90]) rfl rfl rfl ?_
                refine w_go (t1 := 166) rfl rfl ?_
                obtain ⟨v139, e140, b141⟩ := d_d2f b92 (by decide)
                refine w_t (np := 167) (l2 := [some (eR a0), some (eI (a1)), some (eI (a2)), some (eI (a3)), some (eI (v32)), some (eD v90), none, some (eD v135), none]) (s2 := [eF v139]) rfl (e140 _ _) rfl ?_
                refine w_cu (np := 170) (as := [eF v139]) (l2 := [some (eF v139)]) (rest := []) rfl rfl rfl (Nat.ble_eq.mp rfl) rfl rfl rfl rfl ?_
                refine w_t (np := 1) (l2 := [some (eF v139)]) (s2 := [eF v139]) rfl rfl rfl ?_
                refine w_cu (np := 4) (as := [eF v139]) (l2 := [some (eF v139)]) (rest := []) rfl rfl rfl (Nat.ble_eq.mp rfl) rfl rfl rfl rfl ?_
                refine w_t (np := 1) (l2 := [some (eF v139)]) (s2 := [eF v139]) rfl rfl rfl ?_
                refine w_t (np := 2) (l2 := [some (eF v139)]) (s2 := [eF v139, eF v139]) rfl rfl rfl ?_
                obtain ⟨v142, e143, b144⟩ := d_fcmp .l v139 v139
                refine w_t (np := 3) (l2 := [some (eF v139)]) (s2 := [eI (v142)]) rfl (e143 _ _) rfl ?_
                refine b_ieq (t1 := 10) (t2 := 6) rfl rfl rfl (ev_w_in (by omega) (by omega)) (fun g145 => ?_) (fun g145 => ?_)
                · have b146 : 0 ≤ v142 ∧ v142 ≤ 0 := by omega
                  refine w_t (np := 11) (l2 := [some (eF v139)]) (s2 := [eI (0)]) rfl rfl rfl ?_
                  refine b_rz rfl rfl (Or.inl rfl) ?_
                  show ex_q (dt_fg L ρ) rc (d + 1, (360, 4, [some (eF v139)], [eI (0)]), (276, 170, [some (eR a0), some (eI (a1)), some (eI (a2)), some (eI (a3)), some (eI (v32)), some (eD v90), none, some (eD v135), none], []) :: f :: F, m20)
                  refine b_ine (t1 := 12) (t2 := 7) rfl rfl rfl rfl (fun g146 => absurd g146 (by decide)) (fun g146 => ?_)
                  refine w_t (np := 8) (l2 := [some (eF v139)]) (s2 := [eF v139]) rfl rfl rfl ?_
                  refine v_fb (np := 11) rfl rfl rfl ?_
                  intro v147 b148
                  refine b_ri rfl rfl ?_
                  show ex_q (dt_fg L ρ) rc (d + 2, (276, 170, [some (eR a0), some (eI (a1)), some (eI (a2)), some (eI (a3)), some (eI (v32)), some (eD v90), none, some (eD v135), none], [eI (v147)]), f :: F, m20)
                  exact b_ri rfl rfl (K m20 (v147) I21 F23 (by omega))
                · refine w_t (np := 7) (l2 := [some (eF v139)]) (s2 := [eI (1)]) rfl rfl rfl ?_
                  refine w_go (t1 := 11) rfl rfl ?_
                  refine b_rz rfl rfl (Or.inr rfl) ?_
                  show ex_q (dt_fg L ρ) rc (d + 1, (360, 4, [some (eF v139)], [eI (1)]), (276, 170, [some (eR a0), some (eI (a1)), some (eI (a2)), some (eI (a3)), some (eI (v32)), some (eD v90), none, some (eD v135), none], []) :: f :: F, m20)
                  refine b_ine (t1 := 12) (t2 := 7) rfl rfl rfl rfl (fun g146 => ?_) (fun g146 => absurd g146 (by decide))
                  refine v_lc (np := 14) (c := 2143289344) rfl rfl (by decide) ?_
                  rw [show zI 2143289344 = 2143289344 by decide]
                  refine b_ri rfl rfl ?_
                  show ex_q (dt_fg L ρ) rc (d + 2, (276, 170, [some (eR a0), some (eI (a1)), some (eI (a2)), some (eI (a3)), some (eI (v32)), some (eD v90), none, some (eD v135), none], [eI (2143289344)]), f :: F, m20)
                  exact b_ri rfl rfl (K m20 (2143289344) I21 F23 (by decide))
