/-! methods, walked -/
def l_286 : List Nat := [13313, 13314, 13354, 19456, 19712]
theorem s_286 {L : Nat} {ρ : Nat → Int} {rc : eQ} {d : Nat} {f : eFr} {F : List eFr} {μ : eM} {g : Nat → Nat} {a0 : Nat} {a1 : Int} {a2 : Int} (hI : SI g μ) (gA0 : g a0 = 52) (bA1 : -2147483648 ≤ a1 ∧ a1 ≤ 2147483647) (bA2 : -2147483648 ≤ a2 ∧ a2 ≤ 2147483647) (K : ∀ (μ2 : eM) (v : Int), SI g μ2 → Fr l_286 0 0 g μ μ2 → (-2147483648 ≤ v ∧ v ≤ 2147483647) → ex_q (dt_fg L ρ) rc (d + 6, (f.1, f.2.1, f.2.2.1, eI v :: f.2.2.2), F, μ2)) : ex_q (dt_fg L ρ) rc (d + 5, (286, 0, [some (eR a0), some (eI (a1)), some (eI (a2))], []), f :: F, μ) := by
  have F0 : Fr l_286 0 0 g μ μ := Fr.r
  refine w_t (np := 1) (l2 := [some (eR a0), some (eI (a1)), some (eI (a2))]) (s2 := [eR a0]) rfl (s_an rfl (pos_g hI gA0 (by decide))) rfl ?_
  refine w_t (np := 2) (l2 := [some (eR a0), some (eI (a1)), some (eI (a2))]) (s2 := [eR a0, eR a0]) rfl (s_an rfl (pos_g hI gA0 (by decide))) rfl ?_
  refine w_t (np := 3) (l2 := [some (eR a0), some (eI (a1)), some (eI (a2))]) (s2 := [eI (a1), eR a0, eR a0]) rfl rfl rfl ?_
  refine w_cw (np := 6) (as := [eI (a1)]) (l2 := [some (eR a0), some (eI (a1))]) (rest := [eR a0]) rfl rfl rfl (Nat.ble_eq.mp rfl) rfl rfl rfl (hI.kd gA0 (by decide) (n := 69) rfl) rfl ?_
  refine w_t (np := 1) (l2 := [some (eR a0), some (eI (a1))]) (s2 := [eI (a1)]) rfl rfl rfl ?_
  refine w_t (np := 2) (l2 := [some (eR a0), some (eI (a1))]) (s2 := [eI (0), eI (a1)]) rfl rfl rfl ?_
  refine w_t (np := 3) (l2 := [some (eR a0), some (eI (a1))]) (s2 := [eR a0, eI (0), eI (a1)]) rfl (s_an rfl (pos_g hI gA0 (by decide))) rfl ?_
  refine j_gi (np := 6) rfl rfl rfl hI gA0 (by decide) (n := 69) rfl rfl (lo := 0) (hi := 890) rfl ?_
  intro v1 e2 b3
  refine w_t (np := 7) (l2 := [some (eR a0), some (eI (a1))]) (s2 := [eI (1), eI (v1), eI (0), eI (a1)]) rfl rfl rfl ?_
  obtain ⟨v4, e5⟩ : ∃ zz : Int, zz = (v1) - (1) := ⟨_, rfl⟩
  have b6 : -1 ≤ v4 ∧ v4 ≤ 889 := by omega
  refine w_t (np := 8) (l2 := [some (eR a0), some (eI (a1))]) (s2 := [eI (v4), eI (0), eI (a1)]) rfl (b_isub (by rw [← e5]; exact ev_w_in (by omega) (by omega))) rfl ?_
  refine w_cu (np := 11) (as := [eI (a1), eI (0), eI (v4)]) (l2 := [some (eI (a1)), some (eI (0)), some (eI (v4))]) (rest := []) rfl rfl rfl (Nat.ble_eq.mp rfl) rfl rfl rfl rfl ?_
  refine w_t (np := 1) (l2 := [some (eI (a1)), some (eI (0)), some (eI (v4))]) (s2 := [eI (a1)]) rfl rfl rfl ?_
  refine w_t (np := 2) (l2 := [some (eI (a1)), some (eI (0)), some (eI (v4))]) (s2 := [eI (0), eI (a1)]) rfl rfl rfl ?_
  refine b_clt (t1 := 14) (t2 := 5) rfl rfl rfl (ev_w_in (by omega) (by omega)) rfl (fun g7 => ?_) (fun g7 => ?_)
  · have b8 : -2147483648 ≤ a1 ∧ a1 ≤ -1 := by omega
    refine w_t (np := 15) (l2 := [some (eI (a1)), some (eI (0)), some (eI (v4))]) (s2 := [eI (0)]) rfl rfl rfl ?_
    refine b_rz rfl rfl (Or.inl rfl) ?_
    show ex_q (dt_fg L ρ) rc (d + 4, (243, 11, [some (eR a0), some (eI (a1))], [eI (0)]), (286, 6, [some (eR a0), some (eI (a1)), some (eI (a2))], [eR a0]) :: f :: F, μ)
    refine b_rz rfl rfl (Or.inl rfl) ?_
    show ex_q (dt_fg L ρ) rc (d + 5, (286, 6, [some (eR a0), some (eI (a1)), some (eI (a2))], [eI (0), eR a0]), f :: F, μ)
    refine b_ieq (t1 := 21) (t2 := 9) rfl rfl rfl rfl (fun g8 => ?_) (fun g8 => absurd g8 (by decide))
    refine w_t (np := 22) (l2 := [some (eR a0), some (eI (a1)), some (eI (a2))]) (s2 := [eI (2), eR a0]) rfl rfl rfl ?_
    refine w_cw (np := 25) (as := [eI (2)]) (l2 := [some (eR a0), some (eI (2))]) (rest := []) rfl rfl rfl (Nat.ble_eq.mp rfl) rfl rfl rfl (hI.kd gA0 (by decide) (n := 69) rfl) rfl ?_
    refine w_t (np := 1) (l2 := [some (eR a0), some (eI (2))]) (s2 := [eR a0]) rfl (s_an rfl (pos_g hI gA0 (by decide))) rfl ?_
    refine w_t (np := 2) (l2 := [some (eR a0), some (eI (2))]) (s2 := [eI (0), eR a0]) rfl rfl rfl ?_
    refine j_pf (np := 5) (w := 0) rfl rfl hI gA0 (by decide) (n := 69) rfl rfl (hO_i (lo := -2147483648) (hi := 2147483647) rfl (by decide)) ?_
    intro m9 I10 W11
    have F12 : Fr l_286 0 0 g μ m9 := F0.w W11 gA0 rfl
    refine w_t (np := 6) (l2 := [some (eR a0), some (eI (2))]) (s2 := [eR a0]) rfl (s_an rfl (pos_g I10 gA0 (by decide))) rfl ?_
    refine w_t (np := 7) (l2 := [some (eR a0), some (eI (2))]) (s2 := [eI (2), eR a0]) rfl rfl rfl ?_
    refine j_pf (np := 10) (w := 2) rfl rfl I10 gA0 (by decide) (n := 69) rfl rfl (hO_i (lo := -2147483648) (hi := 2147483647) rfl (by decide)) ?_
    intro m13 I14 W15
    have F16 : Fr l_286 0 0 g μ m13 := F12.w W15 gA0 rfl
    refine w_t (np := 11) (l2 := [some (eR a0), some (eI (2))]) (s2 := [eI (2)]) rfl rfl rfl ?_
    refine b_ine (t1 := 18) (t2 := 14) rfl rfl rfl rfl (fun g17 => ?_) (fun g17 => absurd g17 (by decide))
    refine w_t (np := 19) (l2 := [some (eR a0), some (eI (2))]) (s2 := [eI (0)]) rfl rfl rfl ?_
    refine b_rz rfl rfl (Or.inl rfl) ?_
    show ex_q (dt_fg L ρ) rc (d + 5, (286, 25, [some (eR a0), some (eI (a1)), some (eI (a2))], [eI (0)]), f :: F, m13)
    refine b_ine (t1 := 30) (t2 := 28) rfl rfl rfl rfl (fun g18 => absurd g18 (by decide)) (fun g18 => ?_)
    refine w_t (np := 29) (l2 := [some (eR a0), some (eI (a1)), some (eI (a2))]) (s2 := [eI (-1)]) rfl rfl rfl ?_
    exact b_ri rfl rfl (K m13 (-1) I14 F16 (by decide))
  · have b8 : 0 ≤ a1 ∧ a1 ≤ 2147483647 := by omega
    refine w_t (np := 6) (l2 := [some (eI (a1)), some (eI (0)), some (eI (v4))]) (s2 := [eI (a1)]) rfl rfl rfl ?_
    refine w_t (np := 7) (l2 := [some (eI (a1)), some (eI (0)), some (eI (v4))]) (s2 := [eI (v4), eI (a1)]) rfl rfl rfl ?_
    refine b_cgt (t1 := 14) (t2 := 10) rfl rfl rfl (ev_w_in (by omega) (by omega)) (ev_w_in (by omega) (by omega)) (fun g8 => ?_) (fun g8 => ?_)
    · refine w_t (np := 15) (l2 := [some (eI (a1)), some (eI (0)), some (eI (v4))]) (s2 := [eI (0)]) rfl rfl rfl ?_
      refine b_rz rfl rfl (Or.inl rfl) ?_
      show ex_q (dt_fg L ρ) rc (d + 4, (243, 11, [some (eR a0), some (eI (a1))], [eI (0)]), (286, 6, [some (eR a0), some (eI (a1)), some (eI (a2))], [eR a0]) :: f :: F, μ)
      refine b_rz rfl rfl (Or.inl rfl) ?_
      show ex_q (dt_fg L ρ) rc (d + 5, (286, 6, [some (eR a0), some (eI (a1)), some (eI (a2))], [eI (0), eR a0]), f :: F, μ)
      refine b_ieq (t1 := 21) (t2 := 9) rfl rfl rfl rfl (fun g9 => ?_) (fun g9 => absurd g9 (by decide))
      refine w_t (np := 22) (l2 := [some (eR a0), some (eI (a1)), some (eI (a2))]) (s2 := [eI (2), eR a0]) rfl rfl rfl ?_
      refine w_cw (np := 25) (as := [eI (2)]) (l2 := [some (eR a0), some (eI (2))]) (rest := []) rfl rfl rfl (Nat.ble_eq.mp rfl) rfl rfl rfl (hI.kd gA0 (by decide) (n := 69) rfl) rfl ?_
      refine w_t (np := 1) (l2 := [some (eR a0), some (eI (2))]) (s2 := [eR a0]) rfl (s_an rfl (pos_g hI gA0 (by decide))) rfl ?_
      refine w_t (np := 2) (l2 := [some (eR a0), some (eI (2))]) (s2 := [eI (0), eR a0]) rfl rfl rfl ?_
      refine j_pf (np := 5) (w := 0) rfl rfl hI gA0 (by decide) (n := 69) rfl rfl (hO_i (lo := -2147483648) (hi := 2147483647) rfl (by decide)) ?_
      intro m10 I11 W12
      have F13 : Fr l_286 0 0 g μ m10 := F0.w W12 gA0 rfl
      refine w_t (np := 6) (l2 := [some (eR a0), some (eI (2))]) (s2 := [eR a0]) rfl (s_an rfl (pos_g I11 gA0 (by decide))) rfl ?_
      refine w_t (np := 7) (l2 := [some (eR a0), some (eI (2))]) (s2 := [eI (2), eR a0]) rfl rfl rfl ?_
      refine j_pf (np := 10) (w := 2) rfl rfl I11 gA0 (by decide) (n := 69) rfl rfl (hO_i (lo := -2147483648) (hi := 2147483647) rfl (by decide)) ?_
      intro m14 I15 W16
      have F17 : Fr l_286 0 0 g μ m14 := F13.w W16 gA0 rfl
      refine w_t (np := 11) (l2 := [some (eR a0), some (eI (2))]) (s2 := [eI (2)]) rfl rfl rfl ?_
      refine b_ine (t1 := 18) (t2 := 14) rfl rfl rfl rfl (fun g18 => ?_) (fun g18 => absurd g18 (by decide))
      refine w_t (np := 19) (l2 := [some (eR a0), some (eI (2))]) (s2 := [eI (0)]) rfl rfl rfl ?_
      refine b_rz rfl rfl (Or.inl rfl) ?_
      show ex_q (dt_fg L ρ) rc (d + 5, (286, 25, [some (eR a0), some (eI (a1)), some (eI (a2))], [eI (0)]), f :: F, m14)
      refine b_ine (t1 := 30) (t2 := 28) rfl rfl rfl rfl (fun g19 => absurd g19 (by decide)) (fun g19 => ?_)
      refine w_t (np := 29) (l2 := [some (eR a0), some (eI (a1)), some (eI (a2))]) (s2 := [eI (-1)]) rfl rfl rfl ?_
      exact b_ri rfl rfl (K m14 (-1) I15 F17 (by decide))
    · have b9 : 0 ≤ a1 ∧ a1 ≤ 889 := by omega
      have b10 : 0 ≤ v4 ∧ v4 ≤ 889 := by omega
      refine w_t (np := 11) (l2 := [some (eI (a1)), some (eI (0)), some (eI (v4))]) (s2 := [eI (1)]) rfl rfl rfl ?_
      refine w_go (t1 := 15) rfl rfl ?_
      refine b_rz rfl rfl (Or.inr rfl) ?_
      show ex_q (dt_fg L ρ) rc (d + 4, (243, 11, [some (eR a0), some (eI (a1))], [eI (1)]), (286, 6, [some (eR a0), some (eI (a1)), some (eI (a2))], [eR a0]) :: f :: F, μ)
      refine b_rz rfl rfl (Or.inr rfl) ?_
      show ex_q (dt_fg L ρ) rc (d + 5, (286, 6, [some (eR a0), some (eI (a1)), some (eI (a2))], [eI (1), eR a0]), f :: F, μ)
      refine b_ieq (t1 := 21) (t2 := 9) rfl rfl rfl rfl (fun g9 => absurd g9 (by decide)) (fun g9 => ?_)
      refine w_t (np := 10) (l2 := [some (eR a0), some (eI (a1)), some (eI (a2))]) (s2 := [eR a0, eR a0]) rfl (s_an rfl (pos_g hI gA0 (by decide))) rfl ?_
      refine w_t (np := 11) (l2 := [some (eR a0), some (eI (a1)), some (eI (a2))]) (s2 := [eI (a2), eR a0, eR a0]) rfl rfl rfl ?_
      refine w_cw (np := 14) (as := [eI (a2)]) (l2 := [some (eR a0), some (eI (a2))]) (rest := [eR a0]) rfl rfl rfl (Nat.ble_eq.mp rfl) rfl rfl rfl (hI.kd gA0 (by decide) (n := 69) rfl) rfl ?_
      refine w_t (np := 1) (l2 := [some (eR a0), some (eI (a2))]) (s2 := [eI (a2)]) rfl rfl rfl ?_
      refine w_t (np := 2) (l2 := [some (eR a0), some (eI (a2))]) (s2 := [eI (0), eI (a2)]) rfl rfl rfl ?_
      refine w_t (np := 3) (l2 := [some (eR a0), some (eI (a2))]) (s2 := [eR a0, eI (0), eI (a2)]) rfl (s_an rfl (pos_g hI gA0 (by decide))) rfl ?_
      refine w_gf (np := 6) (v := eI (v1)) rfl rfl (hI.kd gA0 (by decide) (n := 69) rfl) (by rw [e2]; rfl) ?_
      refine w_t (np := 7) (l2 := [some (eR a0), some (eI (a2))]) (s2 := [eI (1), eI (v1), eI (0), eI (a2)]) rfl rfl rfl ?_
      obtain ⟨v10, e11⟩ : ∃ zz : Int, zz = (v1) - (1) := ⟨_, rfl⟩
      have b12 : -1 ≤ v10 ∧ v10 ≤ 889 := by omega
      refine w_t (np := 8) (l2 := [some (eR a0), some (eI (a2))]) (s2 := [eI (v10), eI (0), eI (a2)]) rfl (b_isub (by rw [← e11]; exact ev_w_in (by omega) (by omega))) rfl ?_
      refine w_cu (np := 11) (as := [eI (a2), eI (0), eI (v10)]) (l2 := [some (eI (a2)), some (eI (0)), some (eI (v10))]) (rest := []) rfl rfl rfl (Nat.ble_eq.mp rfl) rfl rfl rfl rfl ?_
      refine w_t (np := 1) (l2 := [some (eI (a2)), some (eI (0)), some (eI (v10))]) (s2 := [eI (a2)]) rfl rfl rfl ?_
      refine w_t (np := 2) (l2 := [some (eI (a2)), some (eI (0)), some (eI (v10))]) (s2 := [eI (0), eI (a2)]) rfl rfl rfl ?_
      refine b_clt (t1 := 14) (t2 := 5) rfl rfl rfl (ev_w_in (by omega) (by omega)) rfl (fun g13 => ?_) (fun g13 => ?_)
      · have b14 : -2147483648 ≤ a2 ∧ a2 ≤ -1 := by omega
        refine w_t (np := 15) (l2 := [some (eI (a2)), some (eI (0)), some (eI (v10))]) (s2 := [eI (0)]) rfl rfl rfl ?_
        refine b_rz rfl rfl (Or.inl rfl) ?_
        show ex_q (dt_fg L ρ) rc (d + 4, (243, 11, [some (eR a0), some (eI (a2))], [eI (0)]), (286, 14, [some (eR a0), some (eI (a1)), some (eI (a2))], [eR a0]) :: f :: F, μ)
        refine b_rz rfl rfl (Or.inl rfl) ?_
        show ex_q (dt_fg L ρ) rc (d + 5, (286, 14, [some (eR a0), some (eI (a1)), some (eI (a2))], [eI (0), eR a0]), f :: F, μ)
        refine b_ieq (t1 := 21) (t2 := 17) rfl rfl rfl rfl (fun g14 => ?_) (fun g14 => absurd g14 (by decide))
        refine w_t (np := 22) (l2 := [some (eR a0), some (eI (a1)), some (eI (a2))]) (s2 := [eI (2), eR a0]) rfl rfl rfl ?_
        refine w_cw (np := 25) (as := [eI (2)]) (l2 := [some (eR a0), some (eI (2))]) (rest := []) rfl rfl rfl (Nat.ble_eq.mp rfl) rfl rfl rfl (hI.kd gA0 (by decide) (n := 69) rfl) rfl ?_
        refine w_t (np := 1) (l2 := [some (eR a0), some (eI (2))]) (s2 := [eR a0]) rfl (s_an rfl (pos_g hI gA0 (by decide))) rfl ?_
        refine w_t (np := 2) (l2 := [some (eR a0), some (eI (2))]) (s2 := [eI (0), eR a0]) rfl rfl rfl ?_
        refine j_pf (np := 5) (w := 0) rfl rfl hI gA0 (by decide) (n := 69) rfl rfl (hO_i (lo := -2147483648) (hi := 2147483647) rfl (by decide)) ?_
        intro m15 I16 W17
        have F18 : Fr l_286 0 0 g μ m15 := F0.w W17 gA0 rfl
        refine w_t (np := 6) (l2 := [some (eR a0), some (eI (2))]) (s2 := [eR a0]) rfl (s_an rfl (pos_g I16 gA0 (by decide))) rfl ?_
        refine w_t (np := 7) (l2 := [some (eR a0), some (eI (2))]) (s2 := [eI (2), eR a0]) rfl rfl rfl ?_
        refine j_pf (np := 10) (w := 2) rfl rfl I16 gA0 (by decide) (n := 69) rfl rfl (hO_i (lo := -2147483648) (hi := 2147483647) rfl (by decide)) ?_
        intro m19 I20 W21
        have F22 : Fr l_286 0 0 g μ m19 := F18.w W21 gA0 rfl
        refine w_t (np := 11) (l2 := [some (eR a0), some (eI (2))]) (s2 := [eI (2)]) rfl rfl rfl ?_
        refine b_ine (t1 := 18) (t2 := 14) rfl rfl rfl rfl (fun g23 => ?_) (fun g23 => absurd g23 (by decide))
        refine w_t (np := 19) (l2 := [some (eR a0), some (eI (2))]) (s2 := [eI (0)]) rfl rfl rfl ?_
        refine b_rz rfl rfl (Or.inl rfl) ?_
        show ex_q (dt_fg L ρ) rc (d + 5, (286, 25, [some (eR a0), some (eI (a1)), some (eI (a2))], [eI (0)]), f :: F, m19)
        refine b_ine (t1 := 30) (t2 := 28) rfl rfl rfl rfl (fun g24 => absurd g24 (by decide)) (fun g24 => ?_)
        refine w_t (np := 29) (l2 := [some (eR a0), some (eI (a1)), some (eI (a2))]) (s2 := [eI (-1)]) rfl rfl rfl ?_
        exact b_ri rfl rfl (K m19 (-1) I20 F22 (by decide))
      · have b14 : 0 ≤ a2 ∧ a2 ≤ 2147483647 := by omega
        refine w_t (np := 6) (l2 := [some (eI (a2)), some (eI (0)), some (eI (v10))]) (s2 := [eI (a2)]) rfl rfl rfl ?_
        refine w_t (np := 7) (l2 := [some (eI (a2)), some (eI (0)), some (eI (v10))]) (s2 := [eI (v10), eI (a2)]) rfl rfl rfl ?_
        refine b_cgt (t1 := 14) (t2 := 10) rfl rfl rfl (ev_w_in (by omega) (by omega)) (ev_w_in (by omega) (by omega)) (fun g14 => ?_) (fun g14 => ?_)
        · refine w_t (np := 15) (l2 := [some (eI (a2)), some (eI (0)), some (eI (v10))]) (s2 := [eI (0)]) rfl rfl rfl ?_
          refine b_rz rfl rfl (Or.inl rfl) ?_
          show ex_q (dt_fg L ρ) rc (d + 4, (243, 11, [some (eR a0), some (eI (a2))], [eI (0)]), (286, 14, [some (eR a0), some (eI (a1)), some (eI (a2))], [eR a0]) :: f :: F, μ)
          refine b_rz rfl rfl (Or.inl rfl) ?_
          show ex_q (dt_fg L ρ) rc (d + 5, (286, 14, [some (eR a0), some (eI (a1)), some (eI (a2))], [eI (0), eR a0]), f :: F, μ)
          refine b_ieq (t1 := 21) (t2 := 17) rfl rfl rfl rfl (fun g15 => ?_) (fun g15 => absurd g15 (by decide))
          refine w_t (np := 22) (l2 := [some (eR a0), some (eI (a1)), some (eI (a2))]) (s2 := [eI (2), eR a0]) rfl rfl rfl ?_
          refine w_cw (np := 25) (as := [eI (2)]) (l2 := [some (eR a0), some (eI (2))]) (rest := []) rfl rfl rfl (Nat.ble_eq.mp rfl) rfl rfl rfl (hI.kd gA0 (by decide) (n := 69) rfl) rfl ?_
          refine w_t (np := 1) (l2 := [some (eR a0), some (eI (2))]) (s2 := [eR a0]) rfl (s_an rfl (pos_g hI gA0 (by decide))) rfl ?_
          refine w_t (np := 2) (l2 := [some (eR a0), some (eI (2))]) (s2 := [eI (0), eR a0]) rfl rfl rfl ?_
          refine j_pf (np := 5) (w := 0) rfl rfl hI gA0 (by decide) (n := 69) rfl rfl (hO_i (lo := -2147483648) (hi := 2147483647) rfl (by decide)) ?_
          intro m16 I17 W18
          have F19 : Fr l_286 0 0 g μ m16 := F0.w W18 gA0 rfl
          refine w_t (np := 6) (l2 := [some (eR a0), some (eI (2))]) (s2 := [eR a0]) rfl (s_an rfl (pos_g I17 gA0 (by decide))) rfl ?_
          refine w_t (np := 7) (l2 := [some (eR a0), some (eI (2))]) (s2 := [eI (2), eR a0]) rfl rfl rfl ?_
          refine j_pf (np := 10) (w := 2) rfl rfl I17 gA0 (by decide) (n := 69) rfl rfl (hO_i (lo := -2147483648) (hi := 2147483647) rfl (by decide)) ?_
          intro m20 I21 W22
          have F23 : Fr l_286 0 0 g μ m20 := F19.w W22 gA0 rfl
          refine w_t (np := 11) (l2 := [some (eR a0), some (eI (2))]) (s2 := [eI (2)]) rfl rfl rfl ?_
          refine b_ine (t1 := 18) (t2 := 14) rfl rfl rfl rfl (fun g24 => ?_) (fun g24 => absurd g24 (by decide))
          refine w_t (np := 19) (l2 := [some (eR a0), some (eI (2))]) (s2 := [eI (0)]) rfl rfl rfl ?_
          refine b_rz rfl rfl (Or.inl rfl) ?_
          show ex_q (dt_fg L ρ) rc (d + 5, (286, 25, [some (eR a0), some (eI (a1)), some (eI (a2))], [eI (0)]), f :: F, m20)
          refine b_ine (t1 := 30) (t2 := 28) rfl rfl rfl rfl (fun g25 => absurd g25 (by decide)) (fun g25 => ?_)
          refine w_t (np := 29) (l2 := [some (eR a0), some (eI (a1)), some (eI (a2))]) (s2 := [eI (-1)]) rfl rfl rfl ?_
          exact b_ri rfl rfl (K m20 (-1) I21 F23 (by decide))
        · have b15 : 0 ≤ a2 ∧ a2 ≤ 889 := by omega
          have b16 : 0 ≤ v10 ∧ v10 ≤ 889 := by omega
          refine w_t (np := 11) (l2 := [some (eI (a2)), some (eI (0)), some (eI (v10))]) (s2 := [eI (1)]) rfl rfl rfl ?_
          refine w_go (t1 := 15) rfl rfl ?_
          refine b_rz rfl rfl (Or.inr rfl) ?_
          show ex_q (dt_fg L ρ) rc (d + 4, (243, 11, [some (eR a0), some (eI (a2))], [eI (1)]), (286, 14, [some (eR a0), some (eI (a1)), some (eI (a2))], [eR a0]) :: f :: F, μ)
          refine b_rz rfl rfl (Or.inr rfl) ?_
          show ex_q (dt_fg L ρ) rc (d + 5, (286, 14, [some (eR a0), some (eI (a1)), some (eI (a2))], [eI (1), eR a0]), f :: F, μ)
          refine b_ieq (t1 := 21) (t2 := 17) rfl rfl rfl rfl (fun g15 => absurd g15 (by decide)) (fun g15 => ?_)
          refine w_t (np := 18) (l2 := [some (eR a0), some (eI (a1)), some (eI (a2))]) (s2 := [eI (0), eR a0]) rfl rfl rfl ?_
          refine w_go (t1 := 22) rfl rfl ?_
          refine w_cw (np := 25) (as := [eI (0)]) (l2 := [some (eR a0), some (eI (0))]) (rest := []) rfl rfl rfl (Nat.ble_eq.mp rfl) rfl rfl rfl (hI.kd gA0 (by decide) (n := 69) rfl) rfl ?_
          refine w_t (np := 1) (l2 := [some (eR a0), some (eI (0))]) (s2 := [eR a0]) rfl (s_an rfl (pos_g hI gA0 (by decide))) rfl ?_
          refine w_t (np := 2) (l2 := [some (eR a0), some (eI (0))]) (s2 := [eI (0), eR a0]) rfl rfl rfl ?_
          refine j_pf (np := 5) (w := 0) rfl rfl hI gA0 (by decide) (n := 69) rfl rfl (hO_i (lo := -2147483648) (hi := 2147483647) rfl (by decide)) ?_
          intro m16 I17 W18
          have F19 : Fr l_286 0 0 g μ m16 := F0.w W18 gA0 rfl
          refine w_t (np := 6) (l2 := [some (eR a0), some (eI (0))]) (s2 := [eR a0]) rfl (s_an rfl (pos_g I17 gA0 (by decide))) rfl ?_
          refine w_t (np := 7) (l2 := [some (eR a0), some (eI (0))]) (s2 := [eI (0), eR a0]) rfl rfl rfl ?_
          refine j_pf (np := 10) (w := 0) rfl rfl I17 gA0 (by decide) (n := 69) rfl rfl (hO_i (lo := -2147483648) (hi := 2147483647) rfl (by decide)) ?_
          intro m20 I21 W22
          have F23 : Fr l_286 0 0 g μ m20 := F19.w W22 gA0 rfl
          refine w_t (np := 11) (l2 := [some (eR a0), some (eI (0))]) (s2 := [eI (0)]) rfl rfl rfl ?_
          refine b_ine (t1 := 18) (t2 := 14) rfl rfl rfl rfl (fun g24 => absurd g24 (by decide)) (fun g24 => ?_)
          refine w_t (np := 15) (l2 := [some (eR a0), some (eI (0))]) (s2 := [eI (1)]) rfl rfl rfl ?_
          refine w_go (t1 := 19) rfl rfl ?_
          refine b_rz rfl rfl (Or.inr rfl) ?_
          show ex_q (dt_fg L ρ) rc (d + 5, (286, 25, [some (eR a0), some (eI (a1)), some (eI (a2))], [eI (1)]), f :: F, m20)
          refine b_ine (t1 := 30) (t2 := 28) rfl rfl rfl rfl (fun g25 => ?_) (fun g25 => absurd g25 (by decide))
          refine w_t (np := 31) (l2 := [some (eR a0), some (eI (a1)), some (eI (a2))]) (s2 := [eR a0]) rfl (s_an rfl (pos_g I21 gA0 (by decide))) rfl ?_
          refine w_t (np := 32) (l2 := [some (eR a0), some (eI (a1)), some (eI (a2))]) (s2 := [eI (a1), eR a0]) rfl rfl rfl ?_
          refine w_cw (np := 35) (as := [eI (a1)]) (l2 := [some (eR a0), some (eI (a1)), none, none]) (rest := []) rfl rfl rfl (Nat.ble_eq.mp rfl) rfl rfl rfl (I21.kd gA0 (by decide) (n := 69) rfl) rfl ?_
          refine s_285 (a1 := a1) I21 gA0 (by omega) ?_
          intro m26 I27 F28
          have F29 : Fr l_286 0 0 g μ m26 := F23.t F28 rfl
          show ex_q (dt_fg L ρ) rc (d + 5, (286, 35, [some (eR a0), some (eI (a1)), some (eI (a2))], []), f :: F, m26)
          refine w_t (np := 36) (l2 := [some (eR a0), some (eI (a1)), some (eI (a2))]) (s2 := [eR a0]) rfl (s_an rfl (pos_g I27 gA0 (by decide))) rfl ?_
          refine j_gr (np := 39) rfl rfl I27 gA0 (by decide) (n := 69) rfl rfl rfl ?_
          intro v30 e31 b32 z33
          have b32 : g v30 = 76 := Nat.eq_of_beq_eq_true b32
          refine w_t (np := 40) (l2 := [some (eR a0), some (eI (a1)), some (eI (a2))]) (s2 := [eI (a2), eR v30]) rfl rfl rfl ?_
          refine j_al (np := 41) rfl rfl I27 b32 (by decide) (n := 890) rfl rfl (lo := -1) (hi := 890) (fun _ => rfl) (by omega) (by omega) ?_
          intro v34 e35 b36
          exact b_ri rfl rfl (K m26 (v34) I27 F29 (by omega))
def l_287 : List Nat := [13313, 13314, 13354, 19456, 19712]
theorem s_287 {L : Nat} {ρ : Nat → Int} {rc : eQ} {d : Nat} {f : eFr} {F : List eFr} {μ : eM} {g : Nat → Nat} {a0 : Nat} {a1 : Int} {a2 : Int} (hI : SI g μ) (gA0 : g a0 = 52) (bA1 : -2147483648 ≤ a1 ∧ a1 ≤ 2147483647) (bA2 : -2147483648 ≤ a2 ∧ a2 ≤ 2147483647) (K : ∀ (μ2 : eM) (v : Int), SI g μ2 → Fr l_287 0 0 g μ μ2 → (-2147483648 ≤ v ∧ v ≤ 2147483647) → ex_q (dt_fg L ρ) rc (d + 6, (f.1, f.2.1, f.2.2.1, eI v :: f.2.2.2), F, μ2)) : ex_q (dt_fg L ρ) rc (d + 5, (287, 0, [some (eR a0), some (eI (a1)), some (eI (a2)), none, none], []), f :: F, μ) := by
  have F0 : Fr l_287 0 0 g μ μ := Fr.r
  refine w_t (np := 1) (l2 := [some (eR a0), some (eI (a1)), some (eI (a2)), none, none]) (s2 := [eR a0]) rfl (s_an rfl (pos_g hI gA0 (by decide))) rfl ?_
  refine w_t (np := 2) (l2 := [some (eR a0), some (eI (a1)), some (eI (a2)), none, none]) (s2 := [eI (a2), eR a0]) rfl rfl rfl ?_
  refine w_t (np := 3) (l2 := [some (eR a0), some (eI (a1)), some (eI (a2)), none, none]) (s2 := [eI (0), eI (a2), eR a0]) rfl rfl rfl ?_
  refine w_t (np := 5) (l2 := [some (eR a0), some (eI (a1)), some (eI (a2)), none, none]) (s2 := [eI (40), eI (0), eI (a2), eR a0]) rfl rfl rfl ?_
  refine w_cu (np := 8) (as := [eI (a2), eI (0), eI (40)]) (l2 := [some (eI (a2)), some (eI (0)), some (eI (40))]) (rest := [eR a0]) rfl rfl rfl (Nat.ble_eq.mp rfl) rfl rfl rfl rfl ?_
  refine w_t (np := 1) (l2 := [some (eI (a2)), some (eI (0)), some (eI (40))]) (s2 := [eI (a2)]) rfl rfl rfl ?_
  refine w_t (np := 2) (l2 := [some (eI (a2)), some (eI (0)), some (eI (40))]) (s2 := [eI (0), eI (a2)]) rfl rfl rfl ?_
  refine b_clt (t1 := 14) (t2 := 5) rfl rfl rfl (ev_w_in (by omega) (by omega)) rfl (fun g1 => ?_) (fun g1 => ?_)
  · have b2 : -2147483648 ≤ a2 ∧ a2 ≤ -1 := by omega
    refine w_t (np := 15) (l2 := [some (eI (a2)), some (eI (0)), some (eI (40))]) (s2 := [eI (0)]) rfl rfl rfl ?_
    refine b_rz rfl rfl (Or.inl rfl) ?_
    show ex_q (dt_fg L ρ) rc (d + 5, (287, 8, [some (eR a0), some (eI (a1)), some (eI (a2)), none, none], [eI (0), eR a0]), f :: F, μ)
    refine b_ine (t1 := 15) (t2 := 11) rfl rfl rfl rfl (fun g2 => absurd g2 (by decide)) (fun g2 => ?_)
    refine w_t (np := 12) (l2 := [some (eR a0), some (eI (a1)), some (eI (a2)), none, none]) (s2 := [eI (1), eR a0]) rfl rfl rfl ?_
    refine w_go (t1 := 28) rfl rfl ?_
    refine w_cw (np := 31) (as := [eI (1)]) (l2 := [some (eR a0), some (eI (1))]) (rest := []) rfl rfl rfl (Nat.ble_eq.mp rfl) rfl rfl rfl (hI.kd gA0 (by decide) (n := 69) rfl) rfl ?_
    refine w_t (np := 1) (l2 := [some (eR a0), some (eI (1))]) (s2 := [eR a0]) rfl (s_an rfl (pos_g hI gA0 (by decide))) rfl ?_
    refine w_t (np := 2) (l2 := [some (eR a0), some (eI (1))]) (s2 := [eI (0), eR a0]) rfl rfl rfl ?_
    refine j_pf (np := 5) (w := 0) rfl rfl hI gA0 (by decide) (n := 69) rfl rfl (hO_i (lo := -2147483648) (hi := 2147483647) rfl (by decide)) ?_
    intro m3 I4 W5
    have F6 : Fr l_287 0 0 g μ m3 := F0.w W5 gA0 rfl
    refine w_t (np := 6) (l2 := [some (eR a0), some (eI (1))]) (s2 := [eR a0]) rfl (s_an rfl (pos_g I4 gA0 (by decide))) rfl ?_
    refine w_t (np := 7) (l2 := [some (eR a0), some (eI (1))]) (s2 := [eI (1), eR a0]) rfl rfl rfl ?_
    refine j_pf (np := 10) (w := 1) rfl rfl I4 gA0 (by decide) (n := 69) rfl rfl (hO_i (lo := -2147483648) (hi := 2147483647) rfl (by decide)) ?_
    intro m7 I8 W9
    have F10 : Fr l_287 0 0 g μ m7 := F6.w W9 gA0 rfl
    refine w_t (np := 11) (l2 := [some (eR a0), some (eI (1))]) (s2 := [eI (1)]) rfl rfl rfl ?_
    refine b_ine (t1 := 18) (t2 := 14) rfl rfl rfl rfl (fun g11 => ?_) (fun g11 => absurd g11 (by decide))
    refine w_t (np := 19) (l2 := [some (eR a0), some (eI (1))]) (s2 := [eI (0)]) rfl rfl rfl ?_
    refine b_rz rfl rfl (Or.inl rfl) ?_
    show ex_q (dt_fg L ρ) rc (d + 5, (287, 31, [some (eR a0), some (eI (a1)), some (eI (a2)), none, none], [eI (0)]), f :: F, m7)
    refine b_ine (t1 := 36) (t2 := 34) rfl rfl rfl rfl (fun g12 => absurd g12 (by decide)) (fun g12 => ?_)
    refine w_t (np := 35) (l2 := [some (eR a0), some (eI (a1)), some (eI (a2)), none, none]) (s2 := [eI (-1)]) rfl rfl rfl ?_
    exact b_ri rfl rfl (K m7 (-1) I8 F10 (by decide))
  · have b2 : 0 ≤ a2 ∧ a2 ≤ 2147483647 := by omega
    refine w_t (np := 6) (l2 := [some (eI (a2)), some (eI (0)), some (eI (40))]) (s2 := [eI (a2)]) rfl rfl rfl ?_
    refine w_t (np := 7) (l2 := [some (eI (a2)), some (eI (0)), some (eI (40))]) (s2 := [eI (40), eI (a2)]) rfl rfl rfl ?_
    refine b_cgt (t1 := 14) (t2 := 10) rfl rfl rfl (ev_w_in (by omega) (by omega)) rfl (fun g2 => ?_) (fun g2 => ?_)
    · have b3 : 41 ≤ a2 ∧ a2 ≤ 2147483647 := by omega
      refine w_t (np := 15) (l2 := [some (eI (a2)), some (eI (0)), some (eI (40))]) (s2 := [eI (0)]) rfl rfl rfl ?_
      refine b_rz rfl rfl (Or.inl rfl) ?_
      show ex_q (dt_fg L ρ) rc (d + 5, (287, 8, [some (eR a0), some (eI (a1)), some (eI (a2)), none, none], [eI (0), eR a0]), f :: F, μ)
      refine b_ine (t1 := 15) (t2 := 11) rfl rfl rfl rfl (fun g3 => absurd g3 (by decide)) (fun g3 => ?_)
      refine w_t (np := 12) (l2 := [some (eR a0), some (eI (a1)), some (eI (a2)), none, none]) (s2 := [eI (1), eR a0]) rfl rfl rfl ?_
      refine w_go (t1 := 28) rfl rfl ?_
      refine w_cw (np := 31) (as := [eI (1)]) (l2 := [some (eR a0), some (eI (1))]) (rest := []) rfl rfl rfl (Nat.ble_eq.mp rfl) rfl rfl rfl (hI.kd gA0 (by decide) (n := 69) rfl) rfl ?_
      refine w_t (np := 1) (l2 := [some (eR a0), some (eI (1))]) (s2 := [eR a0]) rfl (s_an rfl (pos_g hI gA0 (by decide))) rfl ?_
      refine w_t (np := 2) (l2 := [some (eR a0), some (eI (1))]) (s2 := [eI (0), eR a0]) rfl rfl rfl ?_
      refine j_pf (np := 5) (w := 0) rfl rfl hI gA0 (by decide) (n := 69) rfl rfl (hO_i (lo := -2147483648) (hi := 2147483647) rfl (by decide)) ?_
      intro m4 I5 W6
      have F7 : Fr l_287 0 0 g μ m4 := F0.w W6 gA0 rfl
      refine w_t (np := 6) (l2 := [some (eR a0), some (eI (1))]) (s2 := [eR a0]) rfl (s_an rfl (pos_g I5 gA0 (by decide))) rfl ?_
      refine w_t (np := 7) (l2 := [some (eR a0), some (eI (1))]) (s2 := [eI (1), eR a0]) rfl rfl rfl ?_
      refine j_pf (np := 10) (w := 1) rfl rfl I5 gA0 (by decide) (n := 69) rfl rfl (hO_i (lo := -2147483648) (hi := 2147483647) rfl (by decide)) ?_
      intro m8 I9 W10
      have F11 : Fr l_287 0 0 g μ m8 := F7.w W10 gA0 rfl
      refine w_t (np := 11) (l2 := [some (eR a0), some (eI (1))]) (s2 := [eI (1)]) rfl rfl rfl ?_
      refine b_ine (t1 := 18) (t2 := 14) rfl rfl rfl rfl (fun g12 => ?_) (fun g12 => absurd g12 (by decide))
      refine w_t (np := 19) (l2 := [some (eR a0), some (eI (1))]) (s2 := [eI (0)]) rfl rfl rfl ?_
      refine b_rz rfl rfl (Or.inl rfl) ?_
      show ex_q (dt_fg L ρ) rc (d + 5, (287, 31, [some (eR a0), some (eI (a1)), some (eI (a2)), none, none], [eI (0)]), f :: F, m8)
      refine b_ine (t1 := 36) (t2 := 34) rfl rfl rfl rfl (fun g13 => absurd g13 (by decide)) (fun g13 => ?_)
      refine w_t (np := 35) (l2 := [some (eR a0), some (eI (a1)), some (eI (a2)), none, none]) (s2 := [eI (-1)]) rfl rfl rfl ?_
      exact b_ri rfl rfl (K m8 (-1) I9 F11 (by decide))
    · have b3 : 0 ≤ a2 ∧ a2 ≤ 40 := by omega
      refine w_t (np := 11) (l2 := [some (eI (a2)), some (eI (0)), some (eI (40))]) (s2 := [eI (1)]) rfl rfl rfl ?_
      refine w_go (t1 := 15) rfl rfl ?_
      refine b_rz rfl rfl (Or.inr rfl) ?_
      show ex_q (dt_fg L ρ) rc (d + 5, (287, 8, [some (eR a0), some (eI (a1)), some (eI (a2)), none, none], [eI (1), eR a0]), f :: F, μ)
      refine b_ine (t1 := 15) (t2 := 11) rfl rfl rfl rfl (fun g3 => ?_) (fun g3 => absurd g3 (by decide))
      refine w_t (np := 16) (l2 := [some (eR a0), some (eI (a1)), some (eI (a2)), none, none]) (s2 := [eR a0, eR a0]) rfl (s_an rfl (pos_g hI gA0 (by decide))) rfl ?_
      refine w_t (np := 17) (l2 := [some (eR a0), some (eI (a1)), some (eI (a2)), none, none]) (s2 := [eI (a1), eR a0, eR a0]) rfl rfl rfl ?_
      refine w_cw (np := 20) (as := [eI (a1)]) (l2 := [some (eR a0), some (eI (a1))]) (rest := [eR a0]) rfl rfl rfl (Nat.ble_eq.mp rfl) rfl rfl rfl (hI.kd gA0 (by decide) (n := 69) rfl) rfl ?_
      refine w_t (np := 1) (l2 := [some (eR a0), some (eI (a1))]) (s2 := [eI (a1)]) rfl rfl rfl ?_
      refine w_t (np := 2) (l2 := [some (eR a0), some (eI (a1))]) (s2 := [eI (0), eI (a1)]) rfl rfl rfl ?_
      refine w_t (np := 3) (l2 := [some (eR a0), some (eI (a1))]) (s2 := [eR a0, eI (0), eI (a1)]) rfl (s_an rfl (pos_g hI gA0 (by decide))) rfl ?_
      refine j_gi (np := 6) rfl rfl rfl hI gA0 (by decide) (n := 69) rfl rfl (lo := 0) (hi := 890) rfl ?_
      intro v4 e5 b6
      refine w_t (np := 7) (l2 := [some (eR a0), some (eI (a1))]) (s2 := [eI (1), eI (v4), eI (0), eI (a1)]) rfl rfl rfl ?_
      obtain ⟨v7, e8⟩ : ∃ zz : Int, zz = (v4) - (1) := ⟨_, rfl⟩
      have b9 : -1 ≤ v7 ∧ v7 ≤ 889 := by omega
      refine w_t (np := 8) (l2 := [some (eR a0), some (eI (a1))]) (s2 := [eI (v7), eI (0), eI (a1)]) rfl (b_isub (by rw [← e8]; exact ev_w_in (by omega) (by omega))) rfl ?_
      refine w_cu (np := 11) (as := [eI (a1), eI (0), eI (v7)]) (l2 := [some (eI (a1)), some (eI (0)), some (eI (v7))]) (rest := []) rfl rfl rfl (Nat.ble_eq.mp rfl) rfl rfl rfl rfl ?_
      refine w_t (np := 1) (l2 := [some (eI (a1)), some (eI (0)), some (eI (v7))]) (s2 := [eI (a1)]) rfl rfl rfl ?_
      refine w_t (np := 2) (l2 := [some (eI (a1)), some (eI (0)), some (eI (v7))]) (s2 := [eI (0), eI (a1)]) rfl rfl rfl ?_
      refine b_clt (t1 := 14) (t2 := 5) rfl rfl rfl (ev_w_in (by omega) (by omega)) rfl (fun g10 => ?_) (fun g10 => ?_)
      · have b11 : -2147483648 ≤ a1 ∧ a1 ≤ -1 := by omega
        refine w_t (np := 15) (l2 := [some (eI (a1)), some (eI (0)), some (eI (v7))]) (s2 := [eI (0)]) rfl rfl rfl ?_
        refine b_rz rfl rfl (Or.inl rfl) ?_
        show ex_q (dt_fg L ρ) rc (d + 4, (243, 11, [some (eR a0), some (eI (a1))], [eI (0)]), (287, 20, [some (eR a0), some (eI (a1)), some (eI (a2)), none, none], [eR a0]) :: f :: F, μ)
        refine b_rz rfl rfl (Or.inl rfl) ?_
        show ex_q (dt_fg L ρ) rc (d + 5, (287, 20, [some (eR a0), some (eI (a1)), some (eI (a2)), none, none], [eI (0), eR a0]), f :: F, μ)
        refine b_ieq (t1 := 27) (t2 := 23) rfl rfl rfl rfl (fun g11 => ?_) (fun g11 => absurd g11 (by decide))
        refine w_t (np := 28) (l2 := [some (eR a0), some (eI (a1)), some (eI (a2)), none, none]) (s2 := [eI (2), eR a0]) rfl rfl rfl ?_
        refine w_cw (np := 31) (as := [eI (2)]) (l2 := [some (eR a0), some (eI (2))]) (rest := []) rfl rfl rfl (Nat.ble_eq.mp rfl) rfl rfl rfl (hI.kd gA0 (by decide) (n := 69) rfl) rfl ?_
        refine w_t (np := 1) (l2 := [some (eR a0), some (eI (2))]) (s2 := [eR a0]) rfl (s_an rfl (pos_g hI gA0 (by decide))) rfl ?_
        refine w_t (np := 2) (l2 := [some (eR a0), some (eI (2))]) (s2 := [eI (0), eR a0]) rfl rfl rfl ?_
        refine j_pf (np := 5) (w := 0) rfl rfl hI gA0 (by decide) (n := 69) rfl rfl (hO_i (lo := -2147483648) (hi := 2147483647) rfl (by decide)) ?_
        intro m12 I13 W14
        have F15 : Fr l_287 0 0 g μ m12 := F0.w W14 gA0 rfl
        refine w_t (np := 6) (l2 := [some (eR a0), some (eI (2))]) (s2 := [eR a0]) rfl (s_an rfl (pos_g I13 gA0 (by decide))) rfl ?_
        refine w_t (np := 7) (l2 := [some (eR a0), some (eI (2))]) (s2 := [eI (2), eR a0]) rfl rfl rfl ?_
        refine j_pf (np := 10) (w := 2) rfl rfl I13 gA0 (by decide) (n := 69) rfl rfl (hO_i (lo := -2147483648) (hi := 2147483647) rfl (by decide)) ?_
        intro m16 I17 W18
        have F19 : Fr l_287 0 0 g μ m16 := F15.w W18 gA0 rfl
        refine w_t (np := 11) (l2 := [some (eR a0), some (eI (2))]) (s2 := [eI (2)]) rfl rfl rfl ?_
        refine b_ine (t1 := 18) (t2 := 14) rfl rfl rfl rfl (fun g20 => ?_) (fun g20 => absurd g20 (by decide))
        refine w_t (np := 19) (l2 := [some (eR a0), some (eI (2))]) (s2 := [eI (0)]) rfl rfl rfl ?_
        refine b_rz rfl rfl (Or.inl rfl) ?_
        show ex_q (dt_fg L ρ) rc (d + 5, (287, 31, [some (eR a0), some (eI (a1)), some (eI (a2)), none, none], [eI (0)]), f :: F, m16)
        refine b_ine (t1 := 36) (t2 := 34) rfl rfl rfl rfl (fun g21 => absurd g21 (by decide)) (fun g21 => ?_)
        refine w_t (np := 35) (l2 := [some (eR a0), some (eI (a1)), some (eI (a2)), none, none]) (s2 := [eI (-1)]) rfl rfl rfl ?_
        exact b_ri rfl rfl (K m16 (-1) I17 F19 (by decide))
      · have b11 : 0 ≤ a1 ∧ a1 ≤ 2147483647 := by omega
        refine w_t (np := 6) (l2 := [some (eI (a1)), some (eI (0)), some (eI (v7))]) (s2 := [eI (a1)]) rfl rfl rfl ?_
        refine w_t (np := 7) (l2 := [some (eI (a1)), some (eI (0)), some (eI (v7))]) (s2 := [eI (v7), eI (a1)]) rfl rfl rfl ?_
        refine b_cgt (t1 := 14) (t2 := 10) rfl rfl rfl (ev_w_in (by omega) (by omega)) (ev_w_in (by omega) (by omega)) (fun g11 => ?_) (fun g11 => ?_)
        · refine w_t (np := 15) (l2 := [some (eI (a1)), some (eI (0)), some (eI (v7))]) (s2 := [eI (0)]) rfl rfl rfl ?_
          refine b_rz rfl rfl (Or.inl rfl) ?_
          show ex_q (dt_fg L ρ) rc (d + 4, (243, 11, [some (eR a0), some (eI (a1))], [eI (0)]), (287, 20, [some (eR a0), some (eI (a1)), some (eI (a2)), none, none], [eR a0]) :: f :: F, μ)
          refine b_rz rfl rfl (Or.inl rfl) ?_
          show ex_q (dt_fg L ρ) rc (d + 5, (287, 20, [some (eR a0), some (eI (a1)), some (eI (a2)), none, none], [eI (0), eR a0]), f :: F, μ)
          refine b_ieq (t1 := 27) (t2 := 23) rfl rfl rfl rfl (fun g12 => ?_) (fun g12 => absurd g12 (by decide))
          refine w_t (np := 28) (l2 := [some (eR a0), some (eI (a1)), some (eI (a2)), none, none]) (s2 := [eI (2), eR a0]) rfl rfl rfl ?_
          refine w_cw (np := 31) (as := [eI (2)]) (l2 := [some (eR a0), some (eI (2))]) (rest := []) rfl rfl rfl (Nat.ble_eq.mp rfl) rfl rfl rfl (hI.kd gA0 (by decide) (n := 69) rfl) rfl ?_
          refine w_t (np := 1) (l2 := [some (eR a0), some (eI (2))]) (s2 := [eR a0]) rfl (s_an rfl (pos_g hI gA0 (by decide))) rfl ?_
          refine w_t (np := 2) (l2 := [some (eR a0), some (eI (2))]) (s2 := [eI (0), eR a0]) rfl rfl rfl ?_
          refine j_pf (np := 5) (w := 0) rfl rfl hI gA0 (by decide) (n := 69) rfl rfl (hO_i (lo := -2147483648) (hi := 2147483647) rfl (by decide)) ?_
          intro m13 I14 W15
          have F16 : Fr l_287 0 0 g μ m13 := F0.w W15 gA0 rfl
          refine w_t (np := 6) (l2 := [some (eR a0), some (eI (2))]) (s2 := [eR a0]) rfl (s_an rfl (pos_g I14 gA0 (by decide))) rfl ?_
          refine w_t (np := 7) (l2 := [some (eR a0), some (eI (2))]) (s2 := [eI (2), eR a0]) rfl rfl rfl ?_
          refine j_pf (np := 10) (w := 2) rfl rfl I14 gA0 (by decide) (n := 69) rfl rfl (hO_i (lo := -2147483648) (hi := 2147483647) rfl (by decide)) ?_
          intro m17 I18 W19
          have F20 : Fr l_287 0 0 g μ m17 := F16.w W19 gA0 rfl
          refine w_t (np := 11) (l2 := [some (eR a0), some (eI (2))]) (s2 := [eI (2)]) rfl rfl rfl ?_
          refine b_ine (t1 := 18) (t2 := 14) rfl rfl rfl rfl (fun g21 => ?_) (fun g21 => absurd g21 (by decide))
          refine w_t (np := 19) (l2 := [some (eR a0), some (eI (2))]) (s2 := [eI (0)]) rfl rfl rfl ?_
          refine b_rz rfl rfl (Or.inl rfl) ?_
          show ex_q (dt_fg L ρ) rc (d + 5, (287, 31, [some (eR a0), some (eI (a1)), some (eI (a2)), none, none], [eI (0)]), f :: F, m17)
          refine b_ine (t1 := 36) (t2 := 34) rfl rfl rfl rfl (fun g22 => absurd g22 (by decide)) (fun g22 => ?_)
          refine w_t (np := 35) (l2 := [some (eR a0), some (eI (a1)), some (eI (a2)), none, none]) (s2 := [eI (-1)]) rfl rfl rfl ?_
          exact b_ri rfl rfl (K m17 (-1) I18 F20 (by decide))
        · have b12 : 0 ≤ a1 ∧ a1 ≤ 889 := by omega
          have b13 : 0 ≤ v7 ∧ v7 ≤ 889 := by omega
          refine w_t (np := 11) (l2 := [some (eI (a1)), some (eI (0)), some (eI (v7))]) (s2 := [eI (1)]) rfl rfl rfl ?_
          refine w_go (t1 := 15) rfl rfl ?_
          refine b_rz rfl rfl (Or.inr rfl) ?_
          show ex_q (dt_fg L ρ) rc (d + 4, (243, 11, [some (eR a0), some (eI (a1))], [eI (1)]), (287, 20, [some (eR a0), some (eI (a1)), some (eI (a2)), none, none], [eR a0]) :: f :: F, μ)
          refine b_rz rfl rfl (Or.inr rfl) ?_
          show ex_q (dt_fg L ρ) rc (d + 5, (287, 20, [some (eR a0), some (eI (a1)), some (eI (a2)), none, none], [eI (1), eR a0]), f :: F, μ)
          refine b_ieq (t1 := 27) (t2 := 23) rfl rfl rfl rfl (fun g12 => absurd g12 (by decide)) (fun g12 => ?_)
          refine w_t (np := 24) (l2 := [some (eR a0), some (eI (a1)), some (eI (a2)), none, none]) (s2 := [eI (0), eR a0]) rfl rfl rfl ?_
          refine w_go (t1 := 28) rfl rfl ?_
          refine w_cw (np := 31) (as := [eI (0)]) (l2 := [some (eR a0), some (eI (0))]) (rest := []) rfl rfl rfl (Nat.ble_eq.mp rfl) rfl rfl rfl (hI.kd gA0 (by decide) (n := 69) rfl) rfl ?_
          refine w_t (np := 1) (l2 := [some (eR a0), some (eI (0))]) (s2 := [eR a0]) rfl (s_an rfl (pos_g hI gA0 (by decide))) rfl ?_
          refine w_t (np := 2) (l2 := [some (eR a0), some (eI (0))]) (s2 := [eI (0), eR a0]) rfl rfl rfl ?_
          refine j_pf (np := 5) (w := 0) rfl rfl hI gA0 (by decide) (n := 69) rfl rfl (hO_i (lo := -2147483648) (hi := 2147483647) rfl (by decide)) ?_
          intro m13 I14 W15
          have F16 : Fr l_287 0 0 g μ m13 := F0.w W15 gA0 rfl
          refine w_t (np := 6) (l2 := [some (eR a0), some (eI (0))]) (s2 := [eR a0]) rfl (s_an rfl (pos_g I14 gA0 (by decide))) rfl ?_
          refine w_t (np := 7) (l2 := [some (eR a0), some (eI (0))]) (s2 := [eI (0), eR a0]) rfl rfl rfl ?_
          refine j_pf (np := 10) (w := 0) rfl rfl I14 gA0 (by decide) (n := 69) rfl rfl (hO_i (lo := -2147483648) (hi := 2147483647) rfl (by decide)) ?_
          intro m17 I18 W19
          have F20 : Fr l_287 0 0 g μ m17 := F16.w W19 gA0 rfl
          refine w_t (np := 11) (l2 := [some (eR a0), some (eI (0))]) (s2 := [eI (0)]) rfl rfl rfl ?_
          refine b_ine (t1 := 18) (t2 := 14) rfl rfl rfl rfl (fun g21 => absurd g21 (by decide)) (fun g21 => ?_)
          refine w_t (np := 15) (l2 := [some (eR a0), some (eI (0))]) (s2 := [eI (1)]) rfl rfl rfl ?_
          refine w_go (t1 := 19) rfl rfl ?_
          refine b_rz rfl rfl (Or.inr rfl) ?_
          show ex_q (dt_fg L ρ) rc (d + 5, (287, 31, [some (eR a0), some (eI (a1)), some (eI (a2)), none, none], [eI (1)]), f :: F, m17)
          refine b_ine (t1 := 36) (t2 := 34) rfl rfl rfl rfl (fun g22 => ?_) (fun g22 => absurd g22 (by decide))
          refine w_t (np := 37) (l2 := [some (eR a0), some (eI (a1)), some (eI (a2)), none, none]) (s2 := [eR a0]) rfl (s_an rfl (pos_g I18 gA0 (by decide))) rfl ?_
          refine w_t (np := 38) (l2 := [some (eR a0), some (eI (a1)), some (eI (a2)), none, none]) (s2 := [eI (a1), eR a0]) rfl rfl rfl ?_
          refine w_cw (np := 41) (as := [eI (a1)]) (l2 := [some (eR a0), some (eI (a1)), none, none]) (rest := []) rfl rfl rfl (Nat.ble_eq.mp rfl) rfl rfl rfl (I18.kd gA0 (by decide) (n := 69) rfl) rfl ?_
          refine s_285 (a1 := a1) I18 gA0 (by omega) ?_
          intro m23 I24 F25
          have F26 : Fr l_287 0 0 g μ m23 := F20.t F25 rfl
          show ex_q (dt_fg L ρ) rc (d + 5, (287, 41, [some (eR a0), some (eI (a1)), some (eI (a2)), none, none], []), f :: F, m23)
          refine w_t (np := 42) (l2 := [some (eR a0), some (eI (a1)), some (eI (a2)), none, none]) (s2 := [eI (0)]) rfl rfl rfl ?_
          refine w_t (np := 43) (l2 := [some (eR a0), some (eI (a1)), some (eI (a2)), some (eI (0)), none]) (s2 := []) rfl rfl rfl ?_
          refine w_t (np := 44) (l2 := [some (eR a0), some (eI (a1)), some (eI (a2)), some (eI (0)), none]) (s2 := [eI (0)]) rfl rfl rfl ?_
          refine w_t (np := 46) (l2 := [some (eR a0), some (eI (a1)), some (eI (a2)), some (eI (0)), some (eI (0))]) (s2 := []) rfl rfl rfl ?_
          have hL46 : ∀ (n27 : Nat) (m33 : eM) (i29 : Int) (i31 : Int), SI g m33 → Fr l_287 0 0 g μ m33 → (-2147483648 ≤ i29 ∧ i29 ≤ 2147483647) → (0 ≤ i31 ∧ i31 ≤ 890) → m33.1 a0 8 = v4 → m33.1 a0 1 = 0 → m33.1 a0 0 = 0 → n27 = (890 - i31).toNat → ex_q (dt_fg L ρ) rc (d + 5, (287, 46, [some (eR a0), some (eI (a1)), some (eI (a2)), some (eI (i29)), some (eI (i31))], []), f :: F, m33) := by
            intro n27
            induction n27 using Nat.strongRecOn with
            | _ n27 ih28 =>
            intro m33 i29 i31 I34 F35 b30 b32 k36 k37 k38 hn39
            refine w_t (np := 48) (l2 := [some (eR a0), some (eI (a1)), some (eI (a2)), some (eI (i29)), some (eI (i31))]) (s2 := [eI (i31)]) rfl rfl rfl ?_
            refine w_t (np := 49) (l2 := [some (eR a0), some (eI (a1)), some (eI (a2)), some (eI (i29)), some (eI (i31))]) (s2 := [eR a0, eI (i31)]) rfl (s_an rfl (pos_g I34 gA0 (by decide))) rfl ?_
            refine w_gf (np := 52) (v := eI (v4)) rfl rfl (I34.kd gA0 (by decide) (n := 69) rfl) (by rw [k36]; rfl) ?_
            refine b_cge (t1 := 90) (t2 := 55) rfl rfl rfl (ev_w_in (by omega) (by omega)) (ev_w_in (by omega) (by omega)) (fun g40 => ?_) (fun g40 => ?_)
            · refine w_t (np := 91) (l2 := [some (eR a0), some (eI (a1)), some (eI (a2)), some (eI (i29)), some (eI (i31))]) (s2 := [eI (i29)]) rfl rfl rfl ?_
              exact b_ri rfl rfl (K m33 (i29) I34 F35 (by omega))
            · have b41 : 0 ≤ i31 ∧ i31 ≤ 889 := by omega
              have b42 : 1 ≤ v4 ∧ v4 ≤ 890 := by omega
              refine w_t (np := 56) (l2 := [some (eR a0), some (eI (a1)), some (eI (a2)), some (eI (i29)), some (eI (i31))]) (s2 := [eI (i29)]) rfl rfl rfl ?_
              refine w_t (np := 57) (l2 := [some (eR a0), some (eI (a1)), some (eI (a2)), some (eI (i29)), some (eI (i31))]) (s2 := [eR a0, eI (i29)]) rfl (s_an rfl (pos_g I34 gA0 (by decide))) rfl ?_
              refine j_gr (np := 60) rfl rfl I34 gA0 (by decide) (n := 69) rfl rfl rfl ?_
              intro v41 e42 b43 z44
              have b43 : g v41 = 76 := Nat.eq_of_beq_eq_true b43
              refine w_t (np := 62) (l2 := [some (eR a0), some (eI (a1)), some (eI (a2)), some (eI (i29)), some (eI (i31))]) (s2 := [eI (i31), eR v41, eI (i29)]) rfl rfl rfl ?_
              refine j_al (np := 63) rfl rfl I34 b43 (by decide) (n := 890) rfl rfl (lo := -1) (hi := 890) (fun _ => rfl) (by omega) (by omega) ?_
              intro v45 e46 b47
              refine b_ilt (t1 := 81) (t2 := 66) rfl rfl rfl (ev_w_in (by omega) (by omega)) (fun g48 => ?_) (fun g48 => ?_)
              · have b49 : -1 ≤ v45 ∧ v45 ≤ -1 := by omega
                refine w_t (np := 82) (l2 := [some (eR a0), some (eI (a1)), some (eI (a2)), some (eI (i29)), some (eI (i31))]) (s2 := [eI (0), eI (i29)]) rfl rfl rfl ?_
                refine w_t (np := 83) (l2 := [some (eR a0), some (eI (a1)), some (eI (a2)), some (eI (i29)), some (eI (i31))]) (s2 := [eI (i29)]) rfl (b_iadd (by rw [Int.add_zero]; exact ev_w_in (by omega) (by omega))) rfl ?_
                refine w_t (np := 84) (l2 := [some (eR a0), some (eI (a1)), some (eI (a2)), some (eI (i29)), some (eI (i31))]) (s2 := []) rfl rfl rfl ?_
                obtain ⟨v49, e50⟩ : ∃ zz : Int, zz = (i31) + (1) := ⟨_, rfl⟩
                have b51 : 1 ≤ v49 ∧ v49 ≤ 890 := by omega
                refine w_t (np := 87) (l2 := [some (eR a0), some (eI (a1)), some (eI (a2)), some (eI (i29)), some (eI (v49))]) (s2 := []) rfl (b_iinc rfl (by rw [← e50]; exact ev_w_in (by omega) (by omega)) rfl) rfl ?_
                refine w_go (t1 := 46) rfl rfl ?_
                exact ih28 (890 - (v49)).toNat (by omega) m33 (i29) (v49) I34 F35 (by omega) (by omega) k36 k37 k38    rfl
              · have b49 : 0 ≤ v45 ∧ v45 ≤ 890 := by omega
                refine w_t (np := 67) (l2 := [some (eR a0), some (eI (a1)), some (eI (a2)), some (eI (i29)), some (eI (i31))]) (s2 := [eR a0, eI (i29)]) rfl (s_an rfl (pos_g I34 gA0 (by decide))) rfl ?_
                refine w_gf (np := 70) (v := eR v41) rfl rfl (I34.kd gA0 (by decide) (n := 69) rfl) (by rw [e42]; rfl) ?_
                refine w_t (np := 72) (l2 := [some (eR a0), some (eI (a1)), some (eI (a2)), some (eI (i29)), some (eI (i31))]) (s2 := [eI (i31), eR v41, eI (i29)]) rfl rfl rfl ?_
                refine j_al (np := 73) rfl rfl I34 b43 (by decide) (n := 890) rfl rfl (lo := -1) (hi := 890) (fun _ => rfl) (by omega) (by omega) ?_
                intro v49 e50 b51
                have e50 := e50.symm.trans e46
                rw [e50]
                refine w_t (np := 74) (l2 := [some (eR a0), some (eI (a1)), some (eI (a2)), some (eI (i29)), some (eI (i31))]) (s2 := [eI (a2), eI (v45), eI (i29)]) rfl rfl rfl ?_
                refine b_cgt (t1 := 81) (t2 := 77) rfl rfl rfl (ev_w_in (by omega) (by omega)) (ev_w_in (by omega) (by omega)) (fun g52 => ?_) (fun g52 => ?_)
                · have b53 : 1 ≤ v45 ∧ v45 ≤ 890 := by omega
                  refine w_t (np := 82) (l2 := [some (eR a0), some (eI (a1)), some (eI (a2)), some (eI (i29)), some (eI (i31))]) (s2 := [eI (0), eI (i29)]) rfl rfl rfl ?_
                  refine w_t (np := 83) (l2 := [some (eR a0), some (eI (a1)), some (eI (a2)), some (eI (i29)), some (eI (i31))]) (s2 := [eI (i29)]) rfl (b_iadd (by rw [Int.add_zero]; exact ev_w_in (by omega) (by omega))) rfl ?_
                  refine w_t (np := 84) (l2 := [some (eR a0), some (eI (a1)), some (eI (a2)), some (eI (i29)), some (eI (i31))]) (s2 := []) rfl rfl rfl ?_
                  obtain ⟨v53, e54⟩ : ∃ zz : Int, zz = (i31) + (1) := ⟨_, rfl⟩
                  have b55 : 1 ≤ v53 ∧ v53 ≤ 890 := by omega
                  refine w_t (np := 87) (l2 := [some (eR a0), some (eI (a1)), some (eI (a2)), some (eI (i29)), some (eI (v53))]) (s2 := []) rfl (b_iinc rfl (by rw [← e54]; exact ev_w_in (by omega) (by omega)) rfl) rfl ?_
                  refine w_go (t1 := 46) rfl rfl ?_
                  exact ih28 (890 - (v53)).toNat (by omega) m33 (i29) (v53) I34 F35 (by omega) (by omega) k36 k37 k38    rfl
                · have b53 : 0 ≤ v45 ∧ v45 ≤ 40 := by omega
                  refine w_t (np := 78) (l2 := [some (eR a0), some (eI (a1)), some (eI (a2)), some (eI (i29)), some (eI (i31))]) (s2 := [eI (1), eI (i29)]) rfl rfl rfl ?_
                  refine w_go (t1 := 82) rfl rfl ?_
                  obtain ⟨v53, e54, b55⟩ : ∃ zz : Int, ev_w ((i29) + (1)) = zz ∧ (-2147483648 ≤ zz ∧ zz ≤ 2147483647) := ⟨_, rfl, hw_bd _⟩
                  refine w_t (np := 83) (l2 := [some (eR a0), some (eI (a1)), some (eI (a2)), some (eI (i29)), some (eI (i31))]) (s2 := [eI (v53)]) rfl (b_iadd e54) rfl ?_
                  refine w_t (np := 84) (l2 := [some (eR a0), some (eI (a1)), some (eI (a2)), some (eI (v53)), some (eI (i31))]) (s2 := []) rfl rfl rfl ?_
                  obtain ⟨v56, e57⟩ : ∃ zz : Int, zz = (i31) + (1) := ⟨_, rfl⟩
                  have b58 : 1 ≤ v56 ∧ v56 ≤ 890 := by omega
                  refine w_t (np := 87) (l2 := [some (eR a0), some (eI (a1)), some (eI (a2)), some (eI (v53)), some (eI (v56))]) (s2 := []) rfl (b_iinc rfl (by rw [← e57]; exact ev_w_in (by omega) (by omega)) rfl) rfl ?_
                  refine w_go (t1 := 46) rfl rfl ?_
                  exact ih28 (890 - (v56)).toNat (by omega) m33 (v53) (v56) I34 F35 (by omega) (by omega) k36 k37 k38    rfl
          exact hL46 _ m23 (0) (0) I24 F26 (by decide) (by decide) (F25.k (W19.slot (W15.slot e5 (by decide)) (by decide)) gA0 (by decide) rfl) (F25.k (W19.slot W15.at (by decide)) gA0 (by decide) rfl) (F25.k W19.at gA0 (by decide) rfl)    rfl
theorem s_291 {L : Nat} {ρ : Nat → Int} {rc : eQ} {d : Nat} {f : eFr} {F : List eFr} {μ : eM} {g : Nat → Nat} {a0 : Nat} {a1 : Int} {a2 : Int} {a3 : Int} {a4 : Int} (hI : SI g μ) (gA0 : g a0 = 52) (bA1 : 0 ≤ a1 ∧ a1 ≤ 1) (bA2 : -2147483648 ≤ a2 ∧ a2 ≤ 2147483647) (bA3 : -2147483648 ≤ a3 ∧ a3 ≤ 2147483647) (bA4 : -2147483648 ≤ a4 ∧ a4 ≤ 2147483647) (K : ∀ (v : Int), (0 ≤ v ∧ v ≤ 1) → ex_q (dt_fg L ρ) rc (d + 2, (f.1, f.2.1, f.2.2.1, eI v :: f.2.2.2), F, μ)) : ex_q (dt_fg L ρ) rc (d + 1, (291, 0, [some (eR a0), some (eI (a1)), some (eI (a2)), some (eI (a3)), some (eI (a4)), none], []), f :: F, μ) := by
  refine w_t (np := 1) (l2 := [some (eR a0), some (eI (a1)), some (eI (a2)), some (eI (a3)), some (eI (a4)), none]) (s2 := [eI (0)]) rfl rfl rfl ?_
  refine w_t (np := 3) (l2 := [some (eR a0), some (eI (a1)), some (eI (a2)), some (eI (a3)), some (eI (a4)), some (eI (0))]) (s2 := []) rfl rfl rfl ?_
  have hL3 : ∀ (n1 : Nat) (i3 : Int), (0 ≤ i3 ∧ i3 ≤ 890) → n1 = (890 - i3).toNat → ex_q (dt_fg L ρ) rc (d + 1, (291, 3, [some (eR a0), some (eI (a1)), some (eI (a2)), some (eI (a3)), some (eI (a4)), some (eI (i3))], []), f :: F, μ) := by
    intro n1
    induction n1 using Nat.strongRecOn with
    | _ n1 ih2 =>
    intro i3 b4 hn5
    refine w_t (np := 5) (l2 := [some (eR a0), some (eI (a1)), some (eI (a2)), some (eI (a3)), some (eI (a4)), some (eI (i3))]) (s2 := [eI (i3)]) rfl rfl rfl ?_
    refine w_t (np := 6) (l2 := [some (eR a0), some (eI (a1)), some (eI (a2)), some (eI (a3)), some (eI (a4)), some (eI (i3))]) (s2 := [eR a0, eI (i3)]) rfl (s_an rfl (pos_g hI gA0 (by decide))) rfl ?_
    refine j_gi (np := 9) rfl rfl rfl hI gA0 (by decide) (n := 69) rfl rfl (lo := 0) (hi := 890) rfl ?_
    intro v6 e7 b8
    refine b_cge (t1 := 65) (t2 := 12) rfl rfl rfl (ev_w_in (by omega) (by omega)) (ev_w_in (by omega) (by omega)) (fun g9 => ?_) (fun g9 => ?_)
    · refine w_t (np := 66) (l2 := [some (eR a0), some (eI (a1)), some (eI (a2)), some (eI (a3)), some (eI (a4)), some (eI (i3))]) (s2 := [eI (0)]) rfl rfl rfl ?_
      exact b_rz rfl rfl (Or.inl rfl) (K (0) (by decide))
    · have b10 : 0 ≤ i3 ∧ i3 ≤ 889 := by omega
      have b11 : 1 ≤ v6 ∧ v6 ≤ 890 := by omega
      refine w_t (np := 13) (l2 := [some (eR a0), some (eI (a1)), some (eI (a2)), some (eI (a3)), some (eI (a4)), some (eI (i3))]) (s2 := [eR a0]) rfl (s_an rfl (pos_g hI gA0 (by decide))) rfl ?_
      refine j_gr (np := 16) rfl rfl hI gA0 (by decide) (n := 69) rfl rfl rfl ?_
      intro v10 e11 b12 z13
      have b12 : g v10 = 56 := Nat.eq_of_beq_eq_true b12
      refine w_t (np := 18) (l2 := [some (eR a0), some (eI (a1)), some (eI (a2)), some (eI (a3)), some (eI (a4)), some (eI (i3))]) (s2 := [eI (i3), eR v10]) rfl rfl rfl ?_
      refine j_al (np := 19) rfl rfl hI b12 (by decide) (n := 890) rfl rfl (lo := 0) (hi := 1) (fun _ => rfl) (by omega) (by omega) ?_
      intro v14 e15 b16
      refine w_t (np := 20) (l2 := [some (eR a0), some (eI (a1)), some (eI (a2)), some (eI (a3)), some (eI (a4)), some (eI (i3))]) (s2 := [eI (a1), eI (v14)]) rfl rfl rfl ?_
      refine b_cne (t1 := 59) (t2 := 23) rfl rfl rfl (ev_w_in (by omega) (by omega)) (ev_w_in (by omega) (by omega)) (fun g17 => ?_) (fun g17 => ?_)
      · obtain ⟨v18, e19⟩ : ∃ zz : Int, zz = (i3) + (1) := ⟨_, rfl⟩
        have b20 : 1 ≤ v18 ∧ v18 ≤ 890 := by omega
        refine w_t (np := 62) (l2 := [some (eR a0), some (eI (a1)), some (eI (a2)), some (eI (a3)), some (eI (a4)), some (eI (v18))]) (s2 := []) rfl (b_iinc rfl (by rw [← e19]; exact ev_w_in (by omega) (by omega)) rfl) rfl ?_
        refine w_go (t1 := 3) rfl rfl ?_
        exact ih2 (890 - (v18)).toNat (by omega) (v18) (by omega)     rfl
      · refine w_t (np := 24) (l2 := [some (eR a0), some (eI (a1)), some (eI (a2)), some (eI (a3)), some (eI (a4)), some (eI (i3))]) (s2 := [eR a0]) rfl (s_an rfl (pos_g hI gA0 (by decide))) rfl ?_
        refine w_t (np := 26) (l2 := [some (eR a0), some (eI (a1)), some (eI (a2)), some (eI (a3)), some (eI (a4)), some (eI (i3))]) (s2 := [eI (i3), eR a0]) rfl rfl rfl ?_
        refine w_t (np := 27) (l2 := [some (eR a0), some (eI (a1)), some (eI (a2)), some (eI (a3)), some (eI (a4)), some (eI (i3))]) (s2 := [eI (0), eI (i3), eR a0]) rfl rfl rfl ?_
        refine w_cw (np := 30) (as := [eI (i3), eI (0)]) (l2 := [some (eR a0), some (eI (i3)), some (eI (0))]) (rest := []) rfl rfl rfl (Nat.ble_eq.mp rfl) rfl rfl rfl (hI.kd gA0 (by decide) (n := 69) rfl) rfl ?_
        refine w_t (np := 1) (l2 := [some (eR a0), some (eI (i3)), some (eI (0))]) (s2 := [eR a0]) rfl (s_an rfl (pos_g hI gA0 (by decide))) rfl ?_
        refine j_gr (np := 4) rfl rfl hI gA0 (by decide) (n := 69) rfl rfl rfl ?_
        intro v18 e19 b20 z21
        have b20 : g v18 = 64 := Nat.eq_of_beq_eq_true b20
        refine w_t (np := 5) (l2 := [some (eR a0), some (eI (i3)), some (eI (0))]) (s2 := [eI (3), eR v18]) rfl rfl rfl ?_
        refine w_t (np := 6) (l2 := [some (eR a0), some (eI (i3)), some (eI (0))]) (s2 := [eI (i3), eI (3), eR v18]) rfl rfl rfl ?_
        obtain ⟨v22, e23⟩ : ∃ zz : Int, zz = (3) * (i3) := ⟨_, rfl⟩
        have b24 : 0 ≤ v22 ∧ v22 ≤ 2667 := by omega
        refine w_t (np := 7) (l2 := [some (eR a0), some (eI (i3)), some (eI (0))]) (s2 := [eI (v22), eR v18]) rfl (b_imul (by rw [← e23]; exact ev_w_in (by omega) (by omega))) rfl ?_
        refine w_t (np := 8) (l2 := [some (eR a0), some (eI (i3)), some (eI (0))]) (s2 := [eI (0), eI (v22), eR v18]) rfl rfl rfl ?_
        refine w_t (np := 9) (l2 := [some (eR a0), some (eI (i3)), some (eI (0))]) (s2 := [eI (v22), eR v18]) rfl (b_iadd (by rw [Int.add_zero]; exact ev_w_in (by omega) (by omega))) rfl ?_
        refine j_al (np := 10) rfl rfl hI b20 (by decide) (n := 2670) rfl rfl (lo := 0) (hi := 2669) (fun _ => rfl) (by omega) (by omega) ?_
        intro v25 e26 b27
        refine b_ri rfl rfl ?_
        show ex_q (dt_fg L ρ) rc (d + 1, (291, 30, [some (eR a0), some (eI (a1)), some (eI (a2)), some (eI (a3)), some (eI (a4)), some (eI (i3))], [eI (v25)]), f :: F, μ)
        refine w_t (np := 31) (l2 := [some (eR a0), some (eI (a1)), some (eI (a2)), some (eI (a3)), some (eI (a4)), some (eI (i3))]) (s2 := [eI (a2), eI (v25)]) rfl rfl rfl ?_
        refine b_cne (t1 := 59) (t2 := 34) rfl rfl rfl (ev_w_in (by omega) (by omega)) (ev_w_in (by omega) (by omega)) (fun g28 => ?_) (fun g28 => ?_)
        · obtain ⟨v29, e30⟩ : ∃ zz : Int, zz = (i3) + (1) := ⟨_, rfl⟩
          have b31 : 1 ≤ v29 ∧ v29 ≤ 890 := by omega
          refine w_t (np := 62) (l2 := [some (eR a0), some (eI (a1)), some (eI (a2)), some (eI (a3)), some (eI (a4)), some (eI (v29))]) (s2 := []) rfl (b_iinc rfl (by rw [← e30]; exact ev_w_in (by omega) (by omega)) rfl) rfl ?_
          refine w_go (t1 := 3) rfl rfl ?_
          exact ih2 (890 - (v29)).toNat (by omega) (v29) (by omega)     rfl
        · have b29 : 0 ≤ a2 ∧ a2 ≤ 2669 := by omega
          refine w_t (np := 35) (l2 := [some (eR a0), some (eI (a1)), some (eI (a2)), some (eI (a3)), some (eI (a4)), some (eI (i3))]) (s2 := [eR a0]) rfl (s_an rfl (pos_g hI gA0 (by decide))) rfl ?_
          refine w_t (np := 37) (l2 := [some (eR a0), some (eI (a1)), some (eI (a2)), some (eI (a3)), some (eI (a4)), some (eI (i3))]) (s2 := [eI (i3), eR a0]) rfl rfl rfl ?_
          refine w_t (np := 38) (l2 := [some (eR a0), some (eI (a1)), some (eI (a2)), some (eI (a3)), some (eI (a4)), some (eI (i3))]) (s2 := [eI (1), eI (i3), eR a0]) rfl rfl rfl ?_
          refine w_cw (np := 41) (as := [eI (i3), eI (1)]) (l2 := [some (eR a0), some (eI (i3)), some (eI (1))]) (rest := []) rfl rfl rfl (Nat.ble_eq.mp rfl) rfl rfl rfl (hI.kd gA0 (by decide) (n := 69) rfl) rfl ?_
          refine w_t (np := 1) (l2 := [some (eR a0), some (eI (i3)), some (eI (1))]) (s2 := [eR a0]) rfl (s_an rfl (pos_g hI gA0 (by decide))) rfl ?_
          refine w_gf (np := 4) (v := eR v18) rfl rfl (hI.kd gA0 (by decide) (n := 69) rfl) (by rw [e19]; rfl) ?_
          refine w_t (np := 5) (l2 := [some (eR a0), some (eI (i3)), some (eI (1))]) (s2 := [eI (3), eR v18]) rfl rfl rfl ?_
          refine w_t (np := 6) (l2 := [some (eR a0), some (eI (i3)), some (eI (1))]) (s2 := [eI (i3), eI (3), eR v18]) rfl rfl rfl ?_
          obtain ⟨v29, e30⟩ : ∃ zz : Int, zz = (3) * (i3) := ⟨_, rfl⟩
          have b31 : 0 ≤ v29 ∧ v29 ≤ 2667 := by omega
          refine w_t (np := 7) (l2 := [some (eR a0), some (eI (i3)), some (eI (1))]) (s2 := [eI (v29), eR v18]) rfl (b_imul (by rw [← e30]; exact ev_w_in (by omega) (by omega))) rfl ?_
          refine w_t (np := 8) (l2 := [some (eR a0), some (eI (i3)), some (eI (1))]) (s2 := [eI (1), eI (v29), eR v18]) rfl rfl rfl ?_
          obtain ⟨v32, e33⟩ : ∃ zz : Int, zz = (v29) + (1) := ⟨_, rfl⟩
          have b34 : 1 ≤ v32 ∧ v32 ≤ 2668 := by omega
          refine w_t (np := 9) (l2 := [some (eR a0), some (eI (i3)), some (eI (1))]) (s2 := [eI (v32), eR v18]) rfl (b_iadd (by rw [← e33]; exact ev_w_in (by omega) (by omega))) rfl ?_
          refine j_al (np := 10) rfl rfl hI b20 (by decide) (n := 2670) rfl rfl (lo := 0) (hi := 2669) (fun _ => rfl) (by omega) (by omega) ?_
          intro v35 e36 b37
          refine b_ri rfl rfl ?_
          show ex_q (dt_fg L ρ) rc (d + 1, (291, 41, [some (eR a0), some (eI (a1)), some (eI (a2)), some (eI (a3)), some (eI (a4)), some (eI (i3))], [eI (v35)]), f :: F, μ)
          refine w_t (np := 42) (l2 := [some (eR a0), some (eI (a1)), some (eI (a2)), some (eI (a3)), some (eI (a4)), some (eI (i3))]) (s2 := [eI (a3), eI (v35)]) rfl rfl rfl ?_
          refine b_cne (t1 := 59) (t2 := 45) rfl rfl rfl (ev_w_in (by omega) (by omega)) (ev_w_in (by omega) (by omega)) (fun g38 => ?_) (fun g38 => ?_)
          · obtain ⟨v39, e40⟩ : ∃ zz : Int, zz = (i3) + (1) := ⟨_, rfl⟩
            have b41 : 1 ≤ v39 ∧ v39 ≤ 890 := by omega
            refine w_t (np := 62) (l2 := [some (eR a0), some (eI (a1)), some (eI (a2)), some (eI (a3)), some (eI (a4)), some (eI (v39))]) (s2 := []) rfl (b_iinc rfl (by rw [← e40]; exact ev_w_in (by omega) (by omega)) rfl) rfl ?_
            refine w_go (t1 := 3) rfl rfl ?_
            exact ih2 (890 - (v39)).toNat (by omega) (v39) (by omega)     rfl
          · have b39 : 0 ≤ a3 ∧ a3 ≤ 2669 := by omega
            refine w_t (np := 46) (l2 := [some (eR a0), some (eI (a1)), some (eI (a2)), some (eI (a3)), some (eI (a4)), some (eI (i3))]) (s2 := [eR a0]) rfl (s_an rfl (pos_g hI gA0 (by decide))) rfl ?_
            refine w_t (np := 48) (l2 := [some (eR a0), some (eI (a1)), some (eI (a2)), some (eI (a3)), some (eI (a4)), some (eI (i3))]) (s2 := [eI (i3), eR a0]) rfl rfl rfl ?_
            refine w_t (np := 49) (l2 := [some (eR a0), some (eI (a1)), some (eI (a2)), some (eI (a3)), some (eI (a4)), some (eI (i3))]) (s2 := [eI (2), eI (i3), eR a0]) rfl rfl rfl ?_
            refine w_cw (np := 52) (as := [eI (i3), eI (2)]) (l2 := [some (eR a0), some (eI (i3)), some (eI (2))]) (rest := []) rfl rfl rfl (Nat.ble_eq.mp rfl) rfl rfl rfl (hI.kd gA0 (by decide) (n := 69) rfl) rfl ?_
            refine w_t (np := 1) (l2 := [some (eR a0), some (eI (i3)), some (eI (2))]) (s2 := [eR a0]) rfl (s_an rfl (pos_g hI gA0 (by decide))) rfl ?_
            refine w_gf (np := 4) (v := eR v18) rfl rfl (hI.kd gA0 (by decide) (n := 69) rfl) (by rw [e19]; rfl) ?_
            refine w_t (np := 5) (l2 := [some (eR a0), some (eI (i3)), some (eI (2))]) (s2 := [eI (3), eR v18]) rfl rfl rfl ?_
            refine w_t (np := 6) (l2 := [some (eR a0), some (eI (i3)), some (eI (2))]) (s2 := [eI (i3), eI (3), eR v18]) rfl rfl rfl ?_
            obtain ⟨v39, e40⟩ : ∃ zz : Int, zz = (3) * (i3) := ⟨_, rfl⟩
            have b41 : 0 ≤ v39 ∧ v39 ≤ 2667 := by omega
            refine w_t (np := 7) (l2 := [some (eR a0), some (eI (i3)), some (eI (2))]) (s2 := [eI (v39), eR v18]) rfl (b_imul (by rw [← e40]; exact ev_w_in (by omega) (by omega))) rfl ?_
            refine w_t (np := 8) (l2 := [some (eR a0), some (eI (i3)), some (eI (2))]) (s2 := [eI (2), eI (v39), eR v18]) rfl rfl rfl ?_
            obtain ⟨v42, e43⟩ : ∃ zz : Int, zz = (v39) + (2) := ⟨_, rfl⟩
            have b44 : 2 ≤ v42 ∧ v42 ≤ 2669 := by omega
            refine w_t (np := 9) (l2 := [some (eR a0), some (eI (i3)), some (eI (2))]) (s2 := [eI (v42), eR v18]) rfl (b_iadd (by rw [← e43]; exact ev_w_in (by omega) (by omega))) rfl ?_
            refine j_al (np := 10) rfl rfl hI b20 (by decide) (n := 2670) rfl rfl (lo := 0) (hi := 2669) (fun _ => rfl) (by omega) (by omega) ?_
            intro v45 e46 b47
            refine b_ri rfl rfl ?_
            show ex_q (dt_fg L ρ) rc (d + 1, (291, 52, [some (eR a0), some (eI (a1)), some (eI (a2)), some (eI (a3)), some (eI (a4)), some (eI (i3))], [eI (v45)]), f :: F, μ)
            refine w_t (np := 54) (l2 := [some (eR a0), some (eI (a1)), some (eI (a2)), some (eI (a3)), some (eI (a4)), some (eI (i3))]) (s2 := [eI (a4), eI (v45)]) rfl rfl rfl ?_
            refine b_cne (t1 := 59) (t2 := 57) rfl rfl rfl (ev_w_in (by omega) (by omega)) (ev_w_in (by omega) (by omega)) (fun g48 => ?_) (fun g48 => ?_)
            · obtain ⟨v49, e50⟩ : ∃ zz : Int, zz = (i3) + (1) := ⟨_, rfl⟩
              have b51 : 1 ≤ v49 ∧ v49 ≤ 890 := by omega
              refine w_t (np := 62) (l2 := [some (eR a0), some (eI (a1)), some (eI (a2)), some (eI (a3)), some (eI (a4)), some (eI (v49))]) (s2 := []) rfl (b_iinc rfl (by rw [← e50]; exact ev_w_in (by omega) (by omega)) rfl) rfl ?_
              refine w_go (t1 := 3) rfl rfl ?_
              exact ih2 (890 - (v49)).toNat (by omega) (v49) (by omega)     rfl
            · have b49 : 0 ≤ a4 ∧ a4 ≤ 2669 := by omega
              refine w_t (np := 58) (l2 := [some (eR a0), some (eI (a1)), some (eI (a2)), some (eI (a3)), some (eI (a4)), some (eI (i3))]) (s2 := [eI (1)]) rfl rfl rfl ?_
              exact b_rz rfl rfl (Or.inr rfl) (K (1) (by decide))
  exact hL3 _ (0) (by decide)     rfl
def l_294 : List Nat := [13313, 13314]
theorem s_294 {L : Nat} {ρ : Nat → Int} {rc : eQ} {d : Nat} {f : eFr} {F : List eFr} {μ : eM} {g : Nat → Nat} {a0 : Nat} {a1 : Int} (hI : SI g μ) (gA0 : g a0 = 52) (bA1 : -2147483648 ≤ a1 ∧ a1 ≤ 2147483647) (K : ∀ (μ2 : eM) (v : Int), SI g μ2 → Fr l_294 0 0 g μ μ2 → (-2147483648 ≤ v ∧ v ≤ 2147483647) → ex_q (dt_fg L ρ) rc (d + 5, (f.1, f.2.1, f.2.2.1, eI v :: f.2.2.2), F, μ2)) : ex_q (dt_fg L ρ) rc (d + 4, (294, 0, [some (eR a0), some (eI (a1)), none, none], []), f :: F, μ) := by
  have F0 : Fr l_294 0 0 g μ μ := Fr.r
  refine w_t (np := 1) (l2 := [some (eR a0), some (eI (a1)), none, none]) (s2 := [eR a0]) rfl (s_an rfl (pos_g hI gA0 (by decide))) rfl ?_
  refine w_t (np := 2) (l2 := [some (eR a0), some (eI (a1)), none, none]) (s2 := [eI (a1), eR a0]) rfl rfl rfl ?_
  refine w_t (np := 3) (l2 := [some (eR a0), some (eI (a1)), none, none]) (s2 := [eI (0), eI (a1), eR a0]) rfl rfl rfl ?_
  refine w_t (np := 4) (l2 := [some (eR a0), some (eI (a1)), none, none]) (s2 := [eI (1), eI (0), eI (a1), eR a0]) rfl rfl rfl ?_
  refine w_cu (np := 7) (as := [eI (a1), eI (0), eI (1)]) (l2 := [some (eI (a1)), some (eI (0)), some (eI (1))]) (rest := [eR a0]) rfl rfl rfl (Nat.ble_eq.mp rfl) rfl rfl rfl rfl ?_
  refine w_t (np := 1) (l2 := [some (eI (a1)), some (eI (0)), some (eI (1))]) (s2 := [eI (a1)]) rfl rfl rfl ?_
  refine w_t (np := 2) (l2 := [some (eI (a1)), some (eI (0)), some (eI (1))]) (s2 := [eI (0), eI (a1)]) rfl rfl rfl ?_
  refine b_clt (t1 := 14) (t2 := 5) rfl rfl rfl (ev_w_in (by omega) (by omega)) rfl (fun g1 => ?_) (fun g1 => ?_)
  · have b2 : -2147483648 ≤ a1 ∧ a1 ≤ -1 := by omega
    refine w_t (np := 15) (l2 := [some (eI (a1)), some (eI (0)), some (eI (1))]) (s2 := [eI (0)]) rfl rfl rfl ?_
    refine b_rz rfl rfl (Or.inl rfl) ?_
    show ex_q (dt_fg L ρ) rc (d + 4, (294, 7, [some (eR a0), some (eI (a1)), none, none], [eI (0), eR a0]), f :: F, μ)
    refine b_ieq (t1 := 14) (t2 := 10) rfl rfl rfl rfl (fun g2 => ?_) (fun g2 => absurd g2 (by decide))
    refine w_t (np := 15) (l2 := [some (eR a0), some (eI (a1)), none, none]) (s2 := [eI (1), eR a0]) rfl rfl rfl ?_
    refine w_cw (np := 18) (as := [eI (1)]) (l2 := [some (eR a0), some (eI (1))]) (rest := []) rfl rfl rfl (Nat.ble_eq.mp rfl) rfl rfl rfl (hI.kd gA0 (by decide) (n := 69) rfl) rfl ?_
    refine w_t (np := 1) (l2 := [some (eR a0), some (eI (1))]) (s2 := [eR a0]) rfl (s_an rfl (pos_g hI gA0 (by decide))) rfl ?_
    refine w_t (np := 2) (l2 := [some (eR a0), some (eI (1))]) (s2 := [eI (0), eR a0]) rfl rfl rfl ?_
    refine j_pf (np := 5) (w := 0) rfl rfl hI gA0 (by decide) (n := 69) rfl rfl (hO_i (lo := -2147483648) (hi := 2147483647) rfl (by decide)) ?_
    intro m3 I4 W5
    have F6 : Fr l_294 0 0 g μ m3 := F0.w W5 gA0 rfl
    refine w_t (np := 6) (l2 := [some (eR a0), some (eI (1))]) (s2 := [eR a0]) rfl (s_an rfl (pos_g I4 gA0 (by decide))) rfl ?_
    refine w_t (np := 7) (l2 := [some (eR a0), some (eI (1))]) (s2 := [eI (1), eR a0]) rfl rfl rfl ?_
    refine j_pf (np := 10) (w := 1) rfl rfl I4 gA0 (by decide) (n := 69) rfl rfl (hO_i (lo := -2147483648) (hi := 2147483647) rfl (by decide)) ?_
    intro m7 I8 W9
    have F10 : Fr l_294 0 0 g μ m7 := F6.w W9 gA0 rfl
    refine w_t (np := 11) (l2 := [some (eR a0), some (eI (1))]) (s2 := [eI (1)]) rfl rfl rfl ?_
    refine b_ine (t1 := 18) (t2 := 14) rfl rfl rfl rfl (fun g11 => ?_) (fun g11 => absurd g11 (by decide))
    refine w_t (np := 19) (l2 := [some (eR a0), some (eI (1))]) (s2 := [eI (0)]) rfl rfl rfl ?_
    refine b_rz rfl rfl (Or.inl rfl) ?_
    show ex_q (dt_fg L ρ) rc (d + 4, (294, 18, [some (eR a0), some (eI (a1)), none, none], [eI (0)]), f :: F, m7)
    refine b_ine (t1 := 23) (t2 := 21) rfl rfl rfl rfl (fun g12 => absurd g12 (by decide)) (fun g12 => ?_)
    refine w_t (np := 22) (l2 := [some (eR a0), some (eI (a1)), none, none]) (s2 := [eI (-1)]) rfl rfl rfl ?_
    exact b_ri rfl rfl (K m7 (-1) I8 F10 (by decide))
  · have b2 : 0 ≤ a1 ∧ a1 ≤ 2147483647 := by omega
    refine w_t (np := 6) (l2 := [some (eI (a1)), some (eI (0)), some (eI (1))]) (s2 := [eI (a1)]) rfl rfl rfl ?_
    refine w_t (np := 7) (l2 := [some (eI (a1)), some (eI (0)), some (eI (1))]) (s2 := [eI (1), eI (a1)]) rfl rfl rfl ?_
    refine b_cgt (t1 := 14) (t2 := 10) rfl rfl rfl (ev_w_in (by omega) (by omega)) rfl (fun g2 => ?_) (fun g2 => ?_)
    · have b3 : 2 ≤ a1 ∧ a1 ≤ 2147483647 := by omega
      refine w_t (np := 15) (l2 := [some (eI (a1)), some (eI (0)), some (eI (1))]) (s2 := [eI (0)]) rfl rfl rfl ?_
      refine b_rz rfl rfl (Or.inl rfl) ?_
      show ex_q (dt_fg L ρ) rc (d + 4, (294, 7, [some (eR a0), some (eI (a1)), none, none], [eI (0), eR a0]), f :: F, μ)
      refine b_ieq (t1 := 14) (t2 := 10) rfl rfl rfl rfl (fun g3 => ?_) (fun g3 => absurd g3 (by decide))
      refine w_t (np := 15) (l2 := [some (eR a0), some (eI (a1)), none, none]) (s2 := [eI (1), eR a0]) rfl rfl rfl ?_
      refine w_cw (np := 18) (as := [eI (1)]) (l2 := [some (eR a0), some (eI (1))]) (rest := []) rfl rfl rfl (Nat.ble_eq.mp rfl) rfl rfl rfl (hI.kd gA0 (by decide) (n := 69) rfl) rfl ?_
      refine w_t (np := 1) (l2 := [some (eR a0), some (eI (1))]) (s2 := [eR a0]) rfl (s_an rfl (pos_g hI gA0 (by decide))) rfl ?_
      refine w_t (np := 2) (l2 := [some (eR a0), some (eI (1))]) (s2 := [eI (0), eR a0]) rfl rfl rfl ?_
      refine j_pf (np := 5) (w := 0) rfl rfl hI gA0 (by decide) (n := 69) rfl rfl (hO_i (lo := -2147483648) (hi := 2147483647) rfl (by decide)) ?_
      intro m4 I5 W6
      have F7 : Fr l_294 0 0 g μ m4 := F0.w W6 gA0 rfl
      refine w_t (np := 6) (l2 := [some (eR a0), some (eI (1))]) (s2 := [eR a0]) rfl (s_an rfl (pos_g I5 gA0 (by decide))) rfl ?_
      refine w_t (np := 7) (l2 := [some (eR a0), some (eI (1))]) (s2 := [eI (1), eR a0]) rfl rfl rfl ?_
      refine j_pf (np := 10) (w := 1) rfl rfl I5 gA0 (by decide) (n := 69) rfl rfl (hO_i (lo := -2147483648) (hi := 2147483647) rfl (by decide)) ?_
      intro m8 I9 W10
      have F11 : Fr l_294 0 0 g μ m8 := F7.w W10 gA0 rfl
      refine w_t (np := 11) (l2 := [some (eR a0), some (eI (1))]) (s2 := [eI (1)]) rfl rfl rfl ?_
      refine b_ine (t1 := 18) (t2 := 14) rfl rfl rfl rfl (fun g12 => ?_) (fun g12 => absurd g12 (by decide))
      refine w_t (np := 19) (l2 := [some (eR a0), some (eI (1))]) (s2 := [eI (0)]) rfl rfl rfl ?_
      refine b_rz rfl rfl (Or.inl rfl) ?_
      show ex_q (dt_fg L ρ) rc (d + 4, (294, 18, [some (eR a0), some (eI (a1)), none, none], [eI (0)]), f :: F, m8)
      refine b_ine (t1 := 23) (t2 := 21) rfl rfl rfl rfl (fun g13 => absurd g13 (by decide)) (fun g13 => ?_)
      refine w_t (np := 22) (l2 := [some (eR a0), some (eI (a1)), none, none]) (s2 := [eI (-1)]) rfl rfl rfl ?_
      exact b_ri rfl rfl (K m8 (-1) I9 F11 (by decide))
    · have b3 : 0 ≤ a1 ∧ a1 ≤ 1 := by omega
      refine w_t (np := 11) (l2 := [some (eI (a1)), some (eI (0)), some (eI (1))]) (s2 := [eI (1)]) rfl rfl rfl ?_
      refine w_go (t1 := 15) rfl rfl ?_
      refine b_rz rfl rfl (Or.inr rfl) ?_
      show ex_q (dt_fg L ρ) rc (d + 4, (294, 7, [some (eR a0), some (eI (a1)), none, none], [eI (1), eR a0]), f :: F, μ)
      refine b_ieq (t1 := 14) (t2 := 10) rfl rfl rfl rfl (fun g3 => absurd g3 (by decide)) (fun g3 => ?_)
      refine w_t (np := 11) (l2 := [some (eR a0), some (eI (a1)), none, none]) (s2 := [eI (0), eR a0]) rfl rfl rfl ?_
      refine w_go (t1 := 15) rfl rfl ?_
      refine w_cw (np := 18) (as := [eI (0)]) (l2 := [some (eR a0), some (eI (0))]) (rest := []) rfl rfl rfl (Nat.ble_eq.mp rfl) rfl rfl rfl (hI.kd gA0 (by decide) (n := 69) rfl) rfl ?_
      refine w_t (np := 1) (l2 := [some (eR a0), some (eI (0))]) (s2 := [eR a0]) rfl (s_an rfl (pos_g hI gA0 (by decide))) rfl ?_
      refine w_t (np := 2) (l2 := [some (eR a0), some (eI (0))]) (s2 := [eI (0), eR a0]) rfl rfl rfl ?_
      refine j_pf (np := 5) (w := 0) rfl rfl hI gA0 (by decide) (n := 69) rfl rfl (hO_i (lo := -2147483648) (hi := 2147483647) rfl (by decide)) ?_
      intro m4 I5 W6
      have F7 : Fr l_294 0 0 g μ m4 := F0.w W6 gA0 rfl
      refine w_t (np := 6) (l2 := [some (eR a0), some (eI (0))]) (s2 := [eR a0]) rfl (s_an rfl (pos_g I5 gA0 (by decide))) rfl ?_
      refine w_t (np := 7) (l2 := [some (eR a0), some (eI (0))]) (s2 := [eI (0), eR a0]) rfl rfl rfl ?_
      refine j_pf (np := 10) (w := 0) rfl rfl I5 gA0 (by decide) (n := 69) rfl rfl (hO_i (lo := -2147483648) (hi := 2147483647) rfl (by decide)) ?_
      intro m8 I9 W10
      have F11 : Fr l_294 0 0 g μ m8 := F7.w W10 gA0 rfl
      refine w_t (np := 11) (l2 := [some (eR a0), some (eI (0))]) (s2 := [eI (0)]) rfl rfl rfl ?_
      refine b_ine (t1 := 18) (t2 := 14) rfl rfl rfl rfl (fun g12 => absurd g12 (by decide)) (fun g12 => ?_)
      refine w_t (np := 15) (l2 := [some (eR a0), some (eI (0))]) (s2 := [eI (1)]) rfl rfl rfl ?_
      refine w_go (t1 := 19) rfl rfl ?_
      refine b_rz rfl rfl (Or.inr rfl) ?_
      show ex_q (dt_fg L ρ) rc (d + 4, (294, 18, [some (eR a0), some (eI (a1)), none, none], [eI (1)]), f :: F, m8)
      refine b_ine (t1 := 23) (t2 := 21) rfl rfl rfl rfl (fun g13 => ?_) (fun g13 => absurd g13 (by decide))
      refine w_t (np := 24) (l2 := [some (eR a0), some (eI (a1)), none, none]) (s2 := [eI (0)]) rfl rfl rfl ?_
      refine w_t (np := 25) (l2 := [some (eR a0), some (eI (a1)), some (eI (0)), none]) (s2 := []) rfl rfl rfl ?_
      refine w_t (np := 26) (l2 := [some (eR a0), some (eI (a1)), some (eI (0)), none]) (s2 := [eI (0)]) rfl rfl rfl ?_
      refine w_t (np := 27) (l2 := [some (eR a0), some (eI (a1)), some (eI (0)), some (eI (0))]) (s2 := []) rfl rfl rfl ?_
      have hL27 : ∀ (n14 : Nat) (m20 : eM) (i16 : Int) (i18 : Int), SI g m20 → Fr l_294 0 0 g μ m20 → (-2147483648 ≤ i16 ∧ i16 ≤ 2147483647) → (0 ≤ i18 ∧ i18 ≤ 890) → m20.1 a0 1 = 0 → m20.1 a0 0 = 0 → n14 = (890 - i18).toNat → ex_q (dt_fg L ρ) rc (d + 4, (294, 27, [some (eR a0), some (eI (a1)), some (eI (i16)), some (eI (i18))], []), f :: F, m20) := by
        intro n14
        induction n14 using Nat.strongRecOn with
        | _ n14 ih15 =>
        intro m20 i16 i18 I21 F22 b17 b19 k23 k24 hn25
        refine w_t (np := 28) (l2 := [some (eR a0), some (eI (a1)), some (eI (i16)), some (eI (i18))]) (s2 := [eI (i18)]) rfl rfl rfl ?_
        refine w_t (np := 29) (l2 := [some (eR a0), some (eI (a1)), some (eI (i16)), some (eI (i18))]) (s2 := [eR a0, eI (i18)]) rfl (s_an rfl (pos_g I21 gA0 (by decide))) rfl ?_
        refine j_gi (np := 32) rfl rfl rfl I21 gA0 (by decide) (n := 69) rfl rfl (lo := 0) (hi := 890) rfl ?_
        intro v26 e27 b28
        refine b_cge (t1 := 94) (t2 := 35) rfl rfl rfl (ev_w_in (by omega) (by omega)) (ev_w_in (by omega) (by omega)) (fun g29 => ?_) (fun g29 => ?_)
        · refine w_t (np := 95) (l2 := [some (eR a0), some (eI (a1)), some (eI (i16)), some (eI (i18))]) (s2 := [eI (i16)]) rfl rfl rfl ?_
          exact b_ri rfl rfl (K m20 (i16) I21 F22 (by omega))
        · have b30 : 0 ≤ i18 ∧ i18 ≤ 889 := by omega
          have b31 : 1 ≤ v26 ∧ v26 ≤ 890 := by omega
          refine w_t (np := 36) (l2 := [some (eR a0), some (eI (a1)), some (eI (i16)), some (eI (i18))]) (s2 := [eI (i16)]) rfl rfl rfl ?_
          refine w_t (np := 37) (l2 := [some (eR a0), some (eI (a1)), some (eI (i16)), some (eI (i18))]) (s2 := [eI (a1), eI (i16)]) rfl rfl rfl ?_
          refine w_t (np := 38) (l2 := [some (eR a0), some (eI (a1)), some (eI (i16)), some (eI (i18))]) (s2 := [eI (1), eI (a1), eI (i16)]) rfl rfl rfl ?_
          refine b_cne (t1 := 57) (t2 := 41) rfl rfl rfl (ev_w_in (by omega) (by omega)) rfl (fun g30 => ?_) (fun g30 => ?_)
          · have b31 : 0 ≤ a1 ∧ a1 ≤ 0 := by omega
            refine w_t (np := 58) (l2 := [some (eR a0), some (eI (a1)), some (eI (i16)), some (eI (i18))]) (s2 := [eR a0, eI (i16)]) rfl (s_an rfl (pos_g I21 gA0 (by decide))) rfl ?_
            refine j_gr (np := 61) rfl rfl I21 gA0 (by decide) (n := 69) rfl rfl rfl ?_
            intro v31 e32 b33 z34
            have b33 : g v31 = 68 := Nat.eq_of_beq_eq_true b33
            refine w_t (np := 62) (l2 := [some (eR a0), some (eI (a1)), some (eI (i16)), some (eI (i18))]) (s2 := [eI (i18), eR v31, eI (i16)]) rfl rfl rfl ?_
            refine j_al (np := 63) rfl rfl I21 b33 (by decide) (n := 890) rfl rfl (lo := -1) (hi := 889) (fun _ => rfl) (by omega) (by omega) ?_
            intro v35 e36 b37
            refine b_ige (t1 := 70) (t2 := 66) rfl rfl rfl (ev_w_in (by omega) (by omega)) (fun g38 => ?_) (fun g38 => ?_)
            · have b39 : 0 ≤ v35 ∧ v35 ≤ 889 := by omega
              refine w_t (np := 71) (l2 := [some (eR a0), some (eI (a1)), some (eI (i16)), some (eI (i18))]) (s2 := [eI (0), eI (i16)]) rfl rfl rfl ?_
              refine w_t (np := 72) (l2 := [some (eR a0), some (eI (a1)), some (eI (i16)), some (eI (i18))]) (s2 := [eR a0, eI (0), eI (i16)]) rfl (s_an rfl (pos_g I21 gA0 (by decide))) rfl ?_
              refine j_gr (np := 75) rfl rfl I21 gA0 (by decide) (n := 69) rfl rfl rfl ?_
              intro v39 e40 b41 z42
              have b41 : g v39 = 69 := Nat.eq_of_beq_eq_true b41
              refine w_t (np := 76) (l2 := [some (eR a0), some (eI (a1)), some (eI (i16)), some (eI (i18))]) (s2 := [eI (i18), eR v39, eI (0), eI (i16)]) rfl rfl rfl ?_
              refine j_al (np := 77) rfl rfl I21 b41 (by decide) (n := 890) rfl rfl (lo := -1) (hi := 889) (fun _ => rfl) (by omega) (by omega) ?_
              intro v43 e44 b45
              refine b_ige (t1 := 84) (t2 := 80) rfl rfl rfl (ev_w_in (by omega) (by omega)) (fun g46 => ?_) (fun g46 => ?_)
              · have b47 : 0 ≤ v43 ∧ v43 ≤ 889 := by omega
                refine w_t (np := 85) (l2 := [some (eR a0), some (eI (a1)), some (eI (i16)), some (eI (i18))]) (s2 := [eI (0), eI (0), eI (i16)]) rfl rfl rfl ?_
                refine w_t (np := 86) (l2 := [some (eR a0), some (eI (a1)), some (eI (i16)), some (eI (i18))]) (s2 := [eI (0), eI (i16)]) rfl (b_iadd rfl) rfl ?_
                refine w_t (np := 87) (l2 := [some (eR a0), some (eI (a1)), some (eI (i16)), some (eI (i18))]) (s2 := [eI (i16)]) rfl (b_iadd (by rw [Int.add_zero]; exact ev_w_in (by omega) (by omega))) rfl ?_
                refine w_t (np := 88) (l2 := [some (eR a0), some (eI (a1)), some (eI (i16)), some (eI (i18))]) (s2 := []) rfl rfl rfl ?_
                obtain ⟨v47, e48⟩ : ∃ zz : Int, zz = (i18) + (1) := ⟨_, rfl⟩
                have b49 : 1 ≤ v47 ∧ v47 ≤ 890 := by omega
                refine w_t (np := 91) (l2 := [some (eR a0), some (eI (a1)), some (eI (i16)), some (eI (v47))]) (s2 := []) rfl (b_iinc rfl (by rw [← e48]; exact ev_w_in (by omega) (by omega)) rfl) rfl ?_
                refine w_go (t1 := 27) rfl rfl ?_
                exact ih15 (890 - (v47)).toNat (by omega) m20 (i16) (v47) I21 F22 (by omega) (by omega) k23 k24    rfl
              · have b47 : -1 ≤ v43 ∧ v43 ≤ -1 := by omega
                refine w_t (np := 81) (l2 := [some (eR a0), some (eI (a1)), some (eI (i16)), some (eI (i18))]) (s2 := [eI (1), eI (0), eI (i16)]) rfl rfl rfl ?_
                refine w_go (t1 := 85) rfl rfl ?_
                refine w_t (np := 86) (l2 := [some (eR a0), some (eI (a1)), some (eI (i16)), some (eI (i18))]) (s2 := [eI (1), eI (i16)]) rfl (b_iadd rfl) rfl ?_
                obtain ⟨v47, e48, b49⟩ : ∃ zz : Int, ev_w ((i16) + (1)) = zz ∧ (-2147483648 ≤ zz ∧ zz ≤ 2147483647) := ⟨_, rfl, hw_bd _⟩
                refine w_t (np := 87) (l2 := [some (eR a0), some (eI (a1)), some (eI (i16)), some (eI (i18))]) (s2 := [eI (v47)]) rfl (b_iadd e48) rfl ?_
                refine w_t (np := 88) (l2 := [some (eR a0), some (eI (a1)), some (eI (v47)), some (eI (i18))]) (s2 := []) rfl rfl rfl ?_
                obtain ⟨v50, e51⟩ : ∃ zz : Int, zz = (i18) + (1) := ⟨_, rfl⟩
                have b52 : 1 ≤ v50 ∧ v50 ≤ 890 := by omega
                refine w_t (np := 91) (l2 := [some (eR a0), some (eI (a1)), some (eI (v47)), some (eI (v50))]) (s2 := []) rfl (b_iinc rfl (by rw [← e51]; exact ev_w_in (by omega) (by omega)) rfl) rfl ?_
                refine w_go (t1 := 27) rfl rfl ?_
                exact ih15 (890 - (v50)).toNat (by omega) m20 (v47) (v50) I21 F22 (by omega) (by omega) k23 k24    rfl
            · have b39 : -1 ≤ v35 ∧ v35 ≤ -1 := by omega
              refine w_t (np := 67) (l2 := [some (eR a0), some (eI (a1)), some (eI (i16)), some (eI (i18))]) (s2 := [eI (1), eI (i16)]) rfl rfl rfl ?_
              refine w_go (t1 := 71) rfl rfl ?_
              refine w_t (np := 72) (l2 := [some (eR a0), some (eI (a1)), some (eI (i16)), some (eI (i18))]) (s2 := [eR a0, eI (1), eI (i16)]) rfl (s_an rfl (pos_g I21 gA0 (by decide))) rfl ?_
              refine j_gr (np := 75) rfl rfl I21 gA0 (by decide) (n := 69) rfl rfl rfl ?_
              intro v39 e40 b41 z42
              have b41 : g v39 = 69 := Nat.eq_of_beq_eq_true b41
              refine w_t (np := 76) (l2 := [some (eR a0), some (eI (a1)), some (eI (i16)), some (eI (i18))]) (s2 := [eI (i18), eR v39, eI (1), eI (i16)]) rfl rfl rfl ?_
              refine j_al (np := 77) rfl rfl I21 b41 (by decide) (n := 890) rfl rfl (lo := -1) (hi := 889) (fun _ => rfl) (by omega) (by omega) ?_
              intro v43 e44 b45
              refine b_ige (t1 := 84) (t2 := 80) rfl rfl rfl (ev_w_in (by omega) (by omega)) (fun g46 => ?_) (fun g46 => ?_)
              · have b47 : 0 ≤ v43 ∧ v43 ≤ 889 := by omega
                refine w_t (np := 85) (l2 := [some (eR a0), some (eI (a1)), some (eI (i16)), some (eI (i18))]) (s2 := [eI (0), eI (1), eI (i16)]) rfl rfl rfl ?_
                refine w_t (np := 86) (l2 := [some (eR a0), some (eI (a1)), some (eI (i16)), some (eI (i18))]) (s2 := [eI (1), eI (i16)]) rfl (b_iadd rfl) rfl ?_
                obtain ⟨v47, e48, b49⟩ : ∃ zz : Int, ev_w ((i16) + (1)) = zz ∧ (-2147483648 ≤ zz ∧ zz ≤ 2147483647) := ⟨_, rfl, hw_bd _⟩
                refine w_t (np := 87) (l2 := [some (eR a0), some (eI (a1)), some (eI (i16)), some (eI (i18))]) (s2 := [eI (v47)]) rfl (b_iadd e48) rfl ?_
                refine w_t (np := 88) (l2 := [some (eR a0), some (eI (a1)), some (eI (v47)), some (eI (i18))]) (s2 := []) rfl rfl rfl ?_
                obtain ⟨v50, e51⟩ : ∃ zz : Int, zz = (i18) + (1) := ⟨_, rfl⟩
                have b52 : 1 ≤ v50 ∧ v50 ≤ 890 := by omega
                refine w_t (np := 91) (l2 := [some (eR a0), some (eI (a1)), some (eI (v47)), some (eI (v50))]) (s2 := []) rfl (b_iinc rfl (by rw [← e51]; exact ev_w_in (by omega) (by omega)) rfl) rfl ?_
                refine w_go (t1 := 27) rfl rfl ?_
                exact ih15 (890 - (v50)).toNat (by omega) m20 (v47) (v50) I21 F22 (by omega) (by omega) k23 k24    rfl
              · have b47 : -1 ≤ v43 ∧ v43 ≤ -1 := by omega
                refine w_t (np := 81) (l2 := [some (eR a0), some (eI (a1)), some (eI (i16)), some (eI (i18))]) (s2 := [eI (1), eI (1), eI (i16)]) rfl rfl rfl ?_
                refine w_go (t1 := 85) rfl rfl ?_
                refine w_t (np := 86) (l2 := [some (eR a0), some (eI (a1)), some (eI (i16)), some (eI (i18))]) (s2 := [eI (2), eI (i16)]) rfl (b_iadd rfl) rfl ?_
                obtain ⟨v47, e48, b49⟩ : ∃ zz : Int, ev_w ((i16) + (2)) = zz ∧ (-2147483648 ≤ zz ∧ zz ≤ 2147483647) := ⟨_, rfl, hw_bd _⟩
                refine w_t (np := 87) (l2 := [some (eR a0), some (eI (a1)), some (eI (i16)), some (eI (i18))]) (s2 := [eI (v47)]) rfl (b_iadd e48) rfl ?_
                refine w_t (np := 88) (l2 := [some (eR a0), some (eI (a1)), some (eI (v47)), some (eI (i18))]) (s2 := []) rfl rfl rfl ?_
                obtain ⟨v50, e51⟩ : ∃ zz : Int, zz = (i18) + (1) := ⟨_, rfl⟩
                have b52 : 1 ≤ v50 ∧ v50 ≤ 890 := by omega
                refine w_t (np := 91) (l2 := [some (eR a0), some (eI (a1)), some (eI (v47)), some (eI (v50))]) (s2 := []) rfl (b_iinc rfl (by rw [← e51]; exact ev_w_in (by omega) (by omega)) rfl) rfl ?_
                refine w_go (t1 := 27) rfl rfl ?_
                exact ih15 (890 - (v50)).toNat (by omega) m20 (v47) (v50) I21 F22 (by omega) (by omega) k23 k24    rfl
          · have b31 : 1 ≤ a1 ∧ a1 ≤ 1 := by omega
            refine w_t (np := 42) (l2 := [some (eR a0), some (eI (a1)), some (eI (i16)), some (eI (i18))]) (s2 := [eR a0, eI (i16)]) rfl (s_an rfl (pos_g I21 gA0 (by decide))) rfl ?_
            refine w_t (np := 43) (l2 := [some (eR a0), some (eI (a1)), some (eI (i16)), some (eI (i18))]) (s2 := [eI (i18), eR a0, eI (i16)]) rfl rfl rfl ?_
            refine w_cw (np := 46) (as := [eI (i18)]) (l2 := [some (eR a0), some (eI (i18)), none]) (rest := [eI (i16)]) rfl rfl rfl (Nat.ble_eq.mp rfl) rfl rfl rfl (I21.kd gA0 (by decide) (n := 69) rfl) rfl ?_
            refine s_283 (a1 := i18) I21 gA0 (by omega) ?_
            intro v31 b32
            show ex_q (dt_fg L ρ) rc (d + 4, (294, 46, [some (eR a0), some (eI (a1)), some (eI (i16)), some (eI (i18))], [eI (v31), eI (i16)]), f :: F, m20)
            refine b_ige (t1 := 53) (t2 := 49) rfl rfl rfl (ev_w_in (by omega) (by omega)) (fun g33 => ?_) (fun g33 => ?_)
            · have b34 : 0 ≤ v31 ∧ v31 ≤ 889 := by omega
              refine w_t (np := 54) (l2 := [some (eR a0), some (eI (a1)), some (eI (i16)), some (eI (i18))]) (s2 := [eI (0), eI (i16)]) rfl rfl rfl ?_
              refine w_go (t1 := 86) rfl rfl ?_
              refine w_t (np := 87) (l2 := [some (eR a0), some (eI (a1)), some (eI (i16)), some (eI (i18))]) (s2 := [eI (i16)]) rfl (b_iadd (by rw [Int.add_zero]; exact ev_w_in (by omega) (by omega))) rfl ?_
              refine w_t (np := 88) (l2 := [some (eR a0), some (eI (a1)), some (eI (i16)), some (eI (i18))]) (s2 := []) rfl rfl rfl ?_
              obtain ⟨v34, e35⟩ : ∃ zz : Int, zz = (i18) + (1) := ⟨_, rfl⟩
              have b36 : 1 ≤ v34 ∧ v34 ≤ 890 := by omega
              refine w_t (np := 91) (l2 := [some (eR a0), some (eI (a1)), some (eI (i16)), some (eI (v34))]) (s2 := []) rfl (b_iinc rfl (by rw [← e35]; exact ev_w_in (by omega) (by omega)) rfl) rfl ?_
              refine w_go (t1 := 27) rfl rfl ?_
              exact ih15 (890 - (v34)).toNat (by omega) m20 (i16) (v34) I21 F22 (by omega) (by omega) k23 k24    rfl
            · have b34 : -1 ≤ v31 ∧ v31 ≤ -1 := by omega
              refine w_t (np := 50) (l2 := [some (eR a0), some (eI (a1)), some (eI (i16)), some (eI (i18))]) (s2 := [eI (1), eI (i16)]) rfl rfl rfl ?_
              refine w_go (t1 := 86) rfl rfl ?_
              obtain ⟨v34, e35, b36⟩ : ∃ zz : Int, ev_w ((i16) + (1)) = zz ∧ (-2147483648 ≤ zz ∧ zz ≤ 2147483647) := ⟨_, rfl, hw_bd _⟩
              refine w_t (np := 87) (l2 := [some (eR a0), some (eI (a1)), some (eI (i16)), some (eI (i18))]) (s2 := [eI (v34)]) rfl (b_iadd e35) rfl ?_
              refine w_t (np := 88) (l2 := [some (eR a0), some (eI (a1)), some (eI (v34)), some (eI (i18))]) (s2 := []) rfl rfl rfl ?_
              obtain ⟨v37, e38⟩ : ∃ zz : Int, zz = (i18) + (1) := ⟨_, rfl⟩
              have b39 : 1 ≤ v37 ∧ v37 ≤ 890 := by omega
              refine w_t (np := 91) (l2 := [some (eR a0), some (eI (a1)), some (eI (v34)), some (eI (v37))]) (s2 := []) rfl (b_iinc rfl (by rw [← e38]; exact ev_w_in (by omega) (by omega)) rfl) rfl ?_
              refine w_go (t1 := 27) rfl rfl ?_
              exact ih15 (890 - (v37)).toNat (by omega) m20 (v34) (v37) I21 F22 (by omega) (by omega) k23 k24    rfl
      exact hL27 _ m8 (0) (0) I9 F11 (by decide) (by decide) (W10.slot W6.at (by decide)) W10.at    rfl
def l_295 : List Nat := [13313, 13314]
theorem s_295 {L : Nat} {ρ : Nat → Int} {rc : eQ} {d : Nat} {f : eFr} {F : List eFr} {μ : eM} {g : Nat → Nat} {a0 : Nat} {a1 : Int} {a2 : Int} (hI : SI g μ) (gA0 : g a0 = 52) (bA1 : -2147483648 ≤ a1 ∧ a1 ≤ 2147483647) (bA2 : -2147483648 ≤ a2 ∧ a2 ≤ 2147483647) (K : ∀ (μ2 : eM) (v : Int), SI g μ2 → Fr l_295 0 0 g μ μ2 → (-2147483648 ≤ v ∧ v ≤ 2147483647) → ex_q (dt_fg L ρ) rc (d + 3, (f.1, f.2.1, f.2.2.1, eI v :: f.2.2.2), F, μ2)) : ex_q (dt_fg L ρ) rc (d + 2, (295, 0, [some (eR a0), some (eI (a1)), some (eI (a2))], []), f :: F, μ) := by
  have F0 : Fr l_295 0 0 g μ μ := Fr.r
  refine w_t (np := 1) (l2 := [some (eR a0), some (eI (a1)), some (eI (a2))]) (s2 := [eR a0]) rfl (s_an rfl (pos_g hI gA0 (by decide))) rfl ?_
  refine w_t (np := 2) (l2 := [some (eR a0), some (eI (a1)), some (eI (a2))]) (s2 := [eI (a2), eR a0]) rfl rfl rfl ?_
  refine w_t (np := 3) (l2 := [some (eR a0), some (eI (a1)), some (eI (a2))]) (s2 := [eI (0), eI (a2), eR a0]) rfl rfl rfl ?_
  refine w_t (np := 4) (l2 := [some (eR a0), some (eI (a1)), some (eI (a2))]) (s2 := [eI (2), eI (0), eI (a2), eR a0]) rfl rfl rfl ?_
  refine w_cu (np := 7) (as := [eI (a2), eI (0), eI (2)]) (l2 := [some (eI (a2)), some (eI (0)), some (eI (2))]) (rest := [eR a0]) rfl rfl rfl (Nat.ble_eq.mp rfl) rfl rfl rfl rfl ?_
  refine w_t (np := 1) (l2 := [some (eI (a2)), some (eI (0)), some (eI (2))]) (s2 := [eI (a2)]) rfl rfl rfl ?_
  refine w_t (np := 2) (l2 := [some (eI (a2)), some (eI (0)), some (eI (2))]) (s2 := [eI (0), eI (a2)]) rfl rfl rfl ?_
  refine b_clt (t1 := 14) (t2 := 5) rfl rfl rfl (ev_w_in (by omega) (by omega)) rfl (fun g1 => ?_) (fun g1 => ?_)
  · have b2 : -2147483648 ≤ a2 ∧ a2 ≤ -1 := by omega
    refine w_t (np := 15) (l2 := [some (eI (a2)), some (eI (0)), some (eI (2))]) (s2 := [eI (0)]) rfl rfl rfl ?_
    refine b_rz rfl rfl (Or.inl rfl) ?_
    show ex_q (dt_fg L ρ) rc (d + 2, (295, 7, [some (eR a0), some (eI (a1)), some (eI (a2))], [eI (0), eR a0]), f :: F, μ)
    refine b_ine (t1 := 14) (t2 := 10) rfl rfl rfl rfl (fun g2 => absurd g2 (by decide)) (fun g2 => ?_)
    refine w_t (np := 11) (l2 := [some (eR a0), some (eI (a1)), some (eI (a2))]) (s2 := [eI (1), eR a0]) rfl rfl rfl ?_
    refine w_go (t1 := 27) rfl rfl ?_
    refine w_cw (np := 30) (as := [eI (1)]) (l2 := [some (eR a0), some (eI (1))]) (rest := []) rfl rfl rfl (Nat.ble_eq.mp rfl) rfl rfl rfl (hI.kd gA0 (by decide) (n := 69) rfl) rfl ?_
    refine w_t (np := 1) (l2 := [some (eR a0), some (eI (1))]) (s2 := [eR a0]) rfl (s_an rfl (pos_g hI gA0 (by decide))) rfl ?_
    refine w_t (np := 2) (l2 := [some (eR a0), some (eI (1))]) (s2 := [eI (0), eR a0]) rfl rfl rfl ?_
    refine j_pf (np := 5) (w := 0) rfl rfl hI gA0 (by decide) (n := 69) rfl rfl (hO_i (lo := -2147483648) (hi := 2147483647) rfl (by decide)) ?_
    intro m3 I4 W5
    have F6 : Fr l_295 0 0 g μ m3 := F0.w W5 gA0 rfl
    refine w_t (np := 6) (l2 := [some (eR a0), some (eI (1))]) (s2 := [eR a0]) rfl (s_an rfl (pos_g I4 gA0 (by decide))) rfl ?_
    refine w_t (np := 7) (l2 := [some (eR a0), some (eI (1))]) (s2 := [eI (1), eR a0]) rfl rfl rfl ?_
    refine j_pf (np := 10) (w := 1) rfl rfl I4 gA0 (by decide) (n := 69) rfl rfl (hO_i (lo := -2147483648) (hi := 2147483647) rfl (by decide)) ?_
    intro m7 I8 W9
    have F10 : Fr l_295 0 0 g μ m7 := F6.w W9 gA0 rfl
    refine w_t (np := 11) (l2 := [some (eR a0), some (eI (1))]) (s2 := [eI (1)]) rfl rfl rfl ?_
    refine b_ine (t1 := 18) (t2 := 14) rfl rfl rfl rfl (fun g11 => ?_) (fun g11 => absurd g11 (by decide))
    refine w_t (np := 19) (l2 := [some (eR a0), some (eI (1))]) (s2 := [eI (0)]) rfl rfl rfl ?_
    refine b_rz rfl rfl (Or.inl rfl) ?_
    show ex_q (dt_fg L ρ) rc (d + 2, (295, 30, [some (eR a0), some (eI (a1)), some (eI (a2))], [eI (0)]), f :: F, m7)
    refine b_ieq (t1 := 47) (t2 := 33) rfl rfl rfl rfl (fun g12 => ?_) (fun g12 => absurd g12 (by decide))
    refine w_t (np := 48) (l2 := [some (eR a0), some (eI (a1)), some (eI (a2))]) (s2 := [eI (-1)]) rfl rfl rfl ?_
    exact b_ri rfl rfl (K m7 (-1) I8 F10 (by decide))
  · have b2 : 0 ≤ a2 ∧ a2 ≤ 2147483647 := by omega
    refine w_t (np := 6) (l2 := [some (eI (a2)), some (eI (0)), some (eI (2))]) (s2 := [eI (a2)]) rfl rfl rfl ?_
    refine w_t (np := 7) (l2 := [some (eI (a2)), some (eI (0)), some (eI (2))]) (s2 := [eI (2), eI (a2)]) rfl rfl rfl ?_
    refine b_cgt (t1 := 14) (t2 := 10) rfl rfl rfl (ev_w_in (by omega) (by omega)) rfl (fun g2 => ?_) (fun g2 => ?_)
    · have b3 : 3 ≤ a2 ∧ a2 ≤ 2147483647 := by omega
      refine w_t (np := 15) (l2 := [some (eI (a2)), some (eI (0)), some (eI (2))]) (s2 := [eI (0)]) rfl rfl rfl ?_
      refine b_rz rfl rfl (Or.inl rfl) ?_
      show ex_q (dt_fg L ρ) rc (d + 2, (295, 7, [some (eR a0), some (eI (a1)), some (eI (a2))], [eI (0), eR a0]), f :: F, μ)
      refine b_ine (t1 := 14) (t2 := 10) rfl rfl rfl rfl (fun g3 => absurd g3 (by decide)) (fun g3 => ?_)
      refine w_t (np := 11) (l2 := [some (eR a0), some (eI (a1)), some (eI (a2))]) (s2 := [eI (1), eR a0]) rfl rfl rfl ?_
      refine w_go (t1 := 27) rfl rfl ?_
      refine w_cw (np := 30) (as := [eI (1)]) (l2 := [some (eR a0), some (eI (1))]) (rest := []) rfl rfl rfl (Nat.ble_eq.mp rfl) rfl rfl rfl (hI.kd gA0 (by decide) (n := 69) rfl) rfl ?_
      refine w_t (np := 1) (l2 := [some (eR a0), some (eI (1))]) (s2 := [eR a0]) rfl (s_an rfl (pos_g hI gA0 (by decide))) rfl ?_
      refine w_t (np := 2) (l2 := [some (eR a0), some (eI (1))]) (s2 := [eI (0), eR a0]) rfl rfl rfl ?_
      refine j_pf (np := 5) (w := 0) rfl rfl hI gA0 (by decide) (n := 69) rfl rfl (hO_i (lo := -2147483648) (hi := 2147483647) rfl (by decide)) ?_
      intro m4 I5 W6
      have F7 : Fr l_295 0 0 g μ m4 := F0.w W6 gA0 rfl
      refine w_t (np := 6) (l2 := [some (eR a0), some (eI (1))]) (s2 := [eR a0]) rfl (s_an rfl (pos_g I5 gA0 (by decide))) rfl ?_
      refine w_t (np := 7) (l2 := [some (eR a0), some (eI (1))]) (s2 := [eI (1), eR a0]) rfl rfl rfl ?_
      refine j_pf (np := 10) (w := 1) rfl rfl I5 gA0 (by decide) (n := 69) rfl rfl (hO_i (lo := -2147483648) (hi := 2147483647) rfl (by decide)) ?_
      intro m8 I9 W10
      have F11 : Fr l_295 0 0 g μ m8 := F7.w W10 gA0 rfl
      refine w_t (np := 11) (l2 := [some (eR a0), some (eI (1))]) (s2 := [eI (1)]) rfl rfl rfl ?_
      refine b_ine (t1 := 18) (t2 := 14) rfl rfl rfl rfl (fun g12 => ?_) (fun g12 => absurd g12 (by decide))
      refine w_t (np := 19) (l2 := [some (eR a0), some (eI (1))]) (s2 := [eI (0)]) rfl rfl rfl ?_
      refine b_rz rfl rfl (Or.inl rfl) ?_
      show ex_q (dt_fg L ρ) rc (d + 2, (295, 30, [some (eR a0), some (eI (a1)), some (eI (a2))], [eI (0)]), f :: F, m8)
      refine b_ieq (t1 := 47) (t2 := 33) rfl rfl rfl rfl (fun g13 => ?_) (fun g13 => absurd g13 (by decide))
      refine w_t (np := 48) (l2 := [some (eR a0), some (eI (a1)), some (eI (a2))]) (s2 := [eI (-1)]) rfl rfl rfl ?_
      exact b_ri rfl rfl (K m8 (-1) I9 F11 (by decide))
    · have b3 : 0 ≤ a2 ∧ a2 ≤ 2 := by omega
      refine w_t (np := 11) (l2 := [some (eI (a2)), some (eI (0)), some (eI (2))]) (s2 := [eI (1)]) rfl rfl rfl ?_
      refine w_go (t1 := 15) rfl rfl ?_
      refine b_rz rfl rfl (Or.inr rfl) ?_
      show ex_q (dt_fg L ρ) rc (d + 2, (295, 7, [some (eR a0), some (eI (a1)), some (eI (a2))], [eI (1), eR a0]), f :: F, μ)
      refine b_ine (t1 := 14) (t2 := 10) rfl rfl rfl rfl (fun g3 => ?_) (fun g3 => absurd g3 (by decide))
      refine w_t (np := 15) (l2 := [some (eR a0), some (eI (a1)), some (eI (a2))]) (s2 := [eR a0, eR a0]) rfl (s_an rfl (pos_g hI gA0 (by decide))) rfl ?_
      refine w_t (np := 16) (l2 := [some (eR a0), some (eI (a1)), some (eI (a2))]) (s2 := [eI (a1), eR a0, eR a0]) rfl rfl rfl ?_
      refine w_cw (np := 19) (as := [eI (a1)]) (l2 := [some (eR a0), some (eI (a1))]) (rest := [eR a0]) rfl rfl rfl (Nat.ble_eq.mp rfl) rfl rfl rfl (hI.kd gA0 (by decide) (n := 69) rfl) rfl ?_
      refine w_t (np := 1) (l2 := [some (eR a0), some (eI (a1))]) (s2 := [eI (a1)]) rfl rfl rfl ?_
      refine w_t (np := 2) (l2 := [some (eR a0), some (eI (a1))]) (s2 := [eI (0), eI (a1)]) rfl rfl rfl ?_
      refine w_t (np := 3) (l2 := [some (eR a0), some (eI (a1))]) (s2 := [eR a0, eI (0), eI (a1)]) rfl (s_an rfl (pos_g hI gA0 (by decide))) rfl ?_
      refine j_gi (np := 6) rfl rfl rfl hI gA0 (by decide) (n := 69) rfl rfl (lo := 0) (hi := 890) rfl ?_
      intro v4 e5 b6
      refine w_t (np := 7) (l2 := [some (eR a0), some (eI (a1))]) (s2 := [eI (1), eI (v4), eI (0), eI (a1)]) rfl rfl rfl ?_
      obtain ⟨v7, e8⟩ : ∃ zz : Int, zz = (v4) - (1) := ⟨_, rfl⟩
      have b9 : -1 ≤ v7 ∧ v7 ≤ 889 := by omega
      refine w_t (np := 8) (l2 := [some (eR a0), some (eI (a1))]) (s2 := [eI (v7), eI (0), eI (a1)]) rfl (b_isub (by rw [← e8]; exact ev_w_in (by omega) (by omega))) rfl ?_
      refine w_cu (np := 11) (as := [eI (a1), eI (0), eI (v7)]) (l2 := [some (eI (a1)), some (eI (0)), some (eI (v7))]) (rest := []) rfl rfl rfl (Nat.ble_eq.mp rfl) rfl rfl rfl rfl ?_
      refine w_t (np := 1) (l2 := [some (eI (a1)), some (eI (0)), some (eI (v7))]) (s2 := [eI (a1)]) rfl rfl rfl ?_
      refine w_t (np := 2) (l2 := [some (eI (a1)), some (eI (0)), some (eI (v7))]) (s2 := [eI (0), eI (a1)]) rfl rfl rfl ?_
      refine b_clt (t1 := 14) (t2 := 5) rfl rfl rfl (ev_w_in (by omega) (by omega)) rfl (fun g10 => ?_) (fun g10 => ?_)
      · have b11 : -2147483648 ≤ a1 ∧ a1 ≤ -1 := by omega
        refine w_t (np := 15) (l2 := [some (eI (a1)), some (eI (0)), some (eI (v7))]) (s2 := [eI (0)]) rfl rfl rfl ?_
        refine b_rz rfl rfl (Or.inl rfl) ?_
        show ex_q (dt_fg L ρ) rc (d + 1, (243, 11, [some (eR a0), some (eI (a1))], [eI (0)]), (295, 19, [some (eR a0), some (eI (a1)), some (eI (a2))], [eR a0]) :: f :: F, μ)
        refine b_rz rfl rfl (Or.inl rfl) ?_
        show ex_q (dt_fg L ρ) rc (d + 2, (295, 19, [some (eR a0), some (eI (a1)), some (eI (a2))], [eI (0), eR a0]), f :: F, μ)
        refine b_ieq (t1 := 26) (t2 := 22) rfl rfl rfl rfl (fun g11 => ?_) (fun g11 => absurd g11 (by decide))
        refine w_t (np := 27) (l2 := [some (eR a0), some (eI (a1)), some (eI (a2))]) (s2 := [eI (2), eR a0]) rfl rfl rfl ?_
        refine w_cw (np := 30) (as := [eI (2)]) (l2 := [some (eR a0), some (eI (2))]) (rest := []) rfl rfl rfl (Nat.ble_eq.mp rfl) rfl rfl rfl (hI.kd gA0 (by decide) (n := 69) rfl) rfl ?_
        refine w_t (np := 1) (l2 := [some (eR a0), some (eI (2))]) (s2 := [eR a0]) rfl (s_an rfl (pos_g hI gA0 (by decide))) rfl ?_
        refine w_t (np := 2) (l2 := [some (eR a0), some (eI (2))]) (s2 := [eI (0), eR a0]) rfl rfl rfl ?_
        refine j_pf (np := 5) (w := 0) rfl rfl hI gA0 (by decide) (n := 69) rfl rfl (hO_i (lo := -2147483648) (hi := 2147483647) rfl (by decide)) ?_
        intro m12 I13 W14
        have F15 : Fr l_295 0 0 g μ m12 := F0.w W14 gA0 rfl
        refine w_t (np := 6) (l2 := [some (eR a0), some (eI (2))]) (s2 := [eR a0]) rfl (s_an rfl (pos_g I13 gA0 (by decide))) rfl ?_
        refine w_t (np := 7) (l2 := [some (eR a0), some (eI (2))]) (s2 := [eI (2), eR a0]) rfl rfl rfl ?_
        refine j_pf (np := 10) (w := 2) rfl rfl I13 gA0 (by decide) (n := 69) rfl rfl (hO_i (lo := -2147483648) (hi := 2147483647) rfl (by decide)) ?_
        intro m16 I17 W18
        have F19 : Fr l_295 0 0 g μ m16 := F15.w W18 gA0 rfl
        refine w_t (np := 11) (l2 := [some (eR a0), some (eI (2))]) (s2 := [eI (2)]) rfl rfl rfl ?_
        refine b_ine (t1 := 18) (t2 := 14) rfl rfl rfl rfl (fun g20 => ?_) (fun g20 => absurd g20 (by decide))
        refine w_t (np := 19) (l2 := [some (eR a0), some (eI (2))]) (s2 := [eI (0)]) rfl rfl rfl ?_
        refine b_rz rfl rfl (Or.inl rfl) ?_
        show ex_q (dt_fg L ρ) rc (d + 2, (295, 30, [some (eR a0), some (eI (a1)), some (eI (a2))], [eI (0)]), f :: F, m16)
        refine b_ieq (t1 := 47) (t2 := 33) rfl rfl rfl rfl (fun g21 => ?_) (fun g21 => absurd g21 (by decide))
        refine w_t (np := 48) (l2 := [some (eR a0), some (eI (a1)), some (eI (a2))]) (s2 := [eI (-1)]) rfl rfl rfl ?_
        exact b_ri rfl rfl (K m16 (-1) I17 F19 (by decide))
      · have b11 : 0 ≤ a1 ∧ a1 ≤ 2147483647 := by omega
        refine w_t (np := 6) (l2 := [some (eI (a1)), some (eI (0)), some (eI (v7))]) (s2 := [eI (a1)]) rfl rfl rfl ?_
        refine w_t (np := 7) (l2 := [some (eI (a1)), some (eI (0)), some (eI (v7))]) (s2 := [eI (v7), eI (a1)]) rfl rfl rfl ?_
        refine b_cgt (t1 := 14) (t2 := 10) rfl rfl rfl (ev_w_in (by omega) (by omega)) (ev_w_in (by omega) (by omega)) (fun g11 => ?_) (fun g11 => ?_)
        · refine w_t (np := 15) (l2 := [some (eI (a1)), some (eI (0)), some (eI (v7))]) (s2 := [eI (0)]) rfl rfl rfl ?_
          refine b_rz rfl rfl (Or.inl rfl) ?_
          show ex_q (dt_fg L ρ) rc (d + 1, (243, 11, [some (eR a0), some (eI (a1))], [eI (0)]), (295, 19, [some (eR a0), some (eI (a1)), some (eI (a2))], [eR a0]) :: f :: F, μ)
          refine b_rz rfl rfl (Or.inl rfl) ?_
          show ex_q (dt_fg L ρ) rc (d + 2, (295, 19, [some (eR a0), some (eI (a1)), some (eI (a2))], [eI (0), eR a0]), f :: F, μ)
          refine b_ieq (t1 := 26) (t2 := 22) rfl rfl rfl rfl (fun g12 => ?_) (fun g12 => absurd g12 (by decide))
          refine w_t (np := 27) (l2 := [some (eR a0), some (eI (a1)), some (eI (a2))]) (s2 := [eI (2), eR a0]) rfl rfl rfl ?_
          refine w_cw (np := 30) (as := [eI (2)]) (l2 := [some (eR a0), some (eI (2))]) (rest := []) rfl rfl rfl (Nat.ble_eq.mp rfl) rfl rfl rfl (hI.kd gA0 (by decide) (n := 69) rfl) rfl ?_
          refine w_t (np := 1) (l2 := [some (eR a0), some (eI (2))]) (s2 := [eR a0]) rfl (s_an rfl (pos_g hI gA0 (by decide))) rfl ?_
          refine w_t (np := 2) (l2 := [some (eR a0), some (eI (2))]) (s2 := [eI (0), eR a0]) rfl rfl rfl ?_
          refine j_pf (np := 5) (w := 0) rfl rfl hI gA0 (by decide) (n := 69) rfl rfl (hO_i (lo := -2147483648) (hi := 2147483647) rfl (by decide)) ?_
          intro m13 I14 W15
          have F16 : Fr l_295 0 0 g μ m13 := F0.w W15 gA0 rfl
          refine w_t (np := 6) (l2 := [some (eR a0), some (eI (2))]) (s2 := [eR a0]) rfl (s_an rfl (pos_g I14 gA0 (by decide))) rfl ?_
          refine w_t (np := 7) (l2 := [some (eR a0), some (eI (2))]) (s2 := [eI (2), eR a0]) rfl rfl rfl ?_
          refine j_pf (np := 10) (w := 2) rfl rfl I14 gA0 (by decide) (n := 69) rfl rfl (hO_i (lo := -2147483648) (hi := 2147483647) rfl (by decide)) ?_
          intro m17 I18 W19
          have F20 : Fr l_295 0 0 g μ m17 := F16.w W19 gA0 rfl
          refine w_t (np := 11) (l2 := [some (eR a0), some (eI (2))]) (s2 := [eI (2)]) rfl rfl rfl ?_
          refine b_ine (t1 := 18) (t2 := 14) rfl rfl rfl rfl (fun g21 => ?_) (fun g21 => absurd g21 (by decide))
          refine w_t (np := 19) (l2 := [some (eR a0), some (eI (2))]) (s2 := [eI (0)]) rfl rfl rfl ?_
          refine b_rz rfl rfl (Or.inl rfl) ?_
          show ex_q (dt_fg L ρ) rc (d + 2, (295, 30, [some (eR a0), some (eI (a1)), some (eI (a2))], [eI (0)]), f :: F, m17)
          refine b_ieq (t1 := 47) (t2 := 33) rfl rfl rfl rfl (fun g22 => ?_) (fun g22 => absurd g22 (by decide))
          refine w_t (np := 48) (l2 := [some (eR a0), some (eI (a1)), some (eI (a2))]) (s2 := [eI (-1)]) rfl rfl rfl ?_
          exact b_ri rfl rfl (K m17 (-1) I18 F20 (by decide))
        · have b12 : 0 ≤ a1 ∧ a1 ≤ 889 := by omega
          have b13 : 0 ≤ v7 ∧ v7 ≤ 889 := by omega
          refine w_t (np := 11) (l2 := [some (eI (a1)), some (eI (0)), some (eI (v7))]) (s2 := [eI (1)]) rfl rfl rfl ?_
          refine w_go (t1 := 15) rfl rfl ?_
          refine b_rz rfl rfl (Or.inr rfl) ?_
          show ex_q (dt_fg L ρ) rc (d + 1, (243, 11, [some (eR a0), some (eI (a1))], [eI (1)]), (295, 19, [some (eR a0), some (eI (a1)), some (eI (a2))], [eR a0]) :: f :: F, μ)
          refine b_rz rfl rfl (Or.inr rfl) ?_
          show ex_q (dt_fg L ρ) rc (d + 2, (295, 19, [some (eR a0), some (eI (a1)), some (eI (a2))], [eI (1), eR a0]), f :: F, μ)
          refine b_ieq (t1 := 26) (t2 := 22) rfl rfl rfl rfl (fun g12 => absurd g12 (by decide)) (fun g12 => ?_)
          refine w_t (np := 23) (l2 := [some (eR a0), some (eI (a1)), some (eI (a2))]) (s2 := [eI (0), eR a0]) rfl rfl rfl ?_
          refine w_go (t1 := 27) rfl rfl ?_
          refine w_cw (np := 30) (as := [eI (0)]) (l2 := [some (eR a0), some (eI (0))]) (rest := []) rfl rfl rfl (Nat.ble_eq.mp rfl) rfl rfl rfl (hI.kd gA0 (by decide) (n := 69) rfl) rfl ?_
          refine w_t (np := 1) (l2 := [some (eR a0), some (eI (0))]) (s2 := [eR a0]) rfl (s_an rfl (pos_g hI gA0 (by decide))) rfl ?_
          refine w_t (np := 2) (l2 := [some (eR a0), some (eI (0))]) (s2 := [eI (0), eR a0]) rfl rfl rfl ?_
          refine j_pf (np := 5) (w := 0) rfl rfl hI gA0 (by decide) (n := 69) rfl rfl (hO_i (lo := -2147483648) (hi := 2147483647) rfl (by decide)) ?_
          intro m13 I14 W15
          have F16 : Fr l_295 0 0 g μ m13 := F0.w W15 gA0 rfl
          refine w_t (np := 6) (l2 := [some (eR a0), some (eI (0))]) (s2 := [eR a0]) rfl (s_an rfl (pos_g I14 gA0 (by decide))) rfl ?_
          refine w_t (np := 7) (l2 := [some (eR a0), some (eI (0))]) (s2 := [eI (0), eR a0]) rfl rfl rfl ?_
          refine j_pf (np := 10) (w := 0) rfl rfl I14 gA0 (by decide) (n := 69) rfl rfl (hO_i (lo := -2147483648) (hi := 2147483647) rfl (by decide)) ?_
          intro m17 I18 W19
          have F20 : Fr l_295 0 0 g μ m17 := F16.w W19 gA0 rfl
          refine w_t (np := 11) (l2 := [some (eR a0), some (eI (0))]) (s2 := [eI (0)]) rfl rfl rfl ?_
          refine b_ine (t1 := 18) (t2 := 14) rfl rfl rfl rfl (fun g21 => absurd g21 (by decide)) (fun g21 => ?_)
          refine w_t (np := 15) (l2 := [some (eR a0), some (eI (0))]) (s2 := [eI (1)]) rfl rfl rfl ?_
          refine w_go (t1 := 19) rfl rfl ?_
          refine b_rz rfl rfl (Or.inr rfl) ?_
          show ex_q (dt_fg L ρ) rc (d + 2, (295, 30, [some (eR a0), some (eI (a1)), some (eI (a2))], [eI (1)]), f :: F, m17)
          refine b_ieq (t1 := 47) (t2 := 33) rfl rfl rfl rfl (fun g22 => absurd g22 (by decide)) (fun g22 => ?_)
          refine w_t (np := 34) (l2 := [some (eR a0), some (eI (a1)), some (eI (a2))]) (s2 := [eR a0]) rfl (s_an rfl (pos_g I18 gA0 (by decide))) rfl ?_
          refine j_gr (np := 37) rfl rfl I18 gA0 (by decide) (n := 69) rfl rfl rfl ?_
          intro v23 e24 b25 z26
          have b25 : g v23 = 66 := Nat.eq_of_beq_eq_true b25
          refine w_t (np := 38) (l2 := [some (eR a0), some (eI (a1)), some (eI (a2))]) (s2 := [eR a0, eR v23]) rfl (s_an rfl (pos_g I18 gA0 (by decide))) rfl ?_
          refine w_t (np := 39) (l2 := [some (eR a0), some (eI (a1)), some (eI (a2))]) (s2 := [eI (a1), eR a0, eR v23]) rfl rfl rfl ?_
          refine w_t (np := 40) (l2 := [some (eR a0), some (eI (a1)), some (eI (a2))]) (s2 := [eI (a2), eI (a1), eR a0, eR v23]) rfl rfl rfl ?_
          refine w_cw (np := 43) (as := [eI (a1), eI (a2)]) (l2 := [some (eR a0), some (eI (a1)), some (eI (a2))]) (rest := [eR v23]) rfl rfl rfl (Nat.ble_eq.mp rfl) rfl rfl rfl (I18.kd gA0 (by decide) (n := 69) rfl) rfl ?_
          refine w_t (np := 1) (l2 := [some (eR a0), some (eI (a1)), some (eI (a2))]) (s2 := [eR a0]) rfl (s_an rfl (pos_g I18 gA0 (by decide))) rfl ?_
          refine j_gr (np := 4) rfl rfl I18 gA0 (by decide) (n := 69) rfl rfl rfl ?_
          intro v27 e28 b29 z30
          have b29 : g v27 = 64 := Nat.eq_of_beq_eq_true b29
          refine w_t (np := 5) (l2 := [some (eR a0), some (eI (a1)), some (eI (a2))]) (s2 := [eI (3), eR v27]) rfl rfl rfl ?_
          refine w_t (np := 6) (l2 := [some (eR a0), some (eI (a1)), some (eI (a2))]) (s2 := [eI (a1), eI (3), eR v27]) rfl rfl rfl ?_
          obtain ⟨v31, e32⟩ : ∃ zz : Int, zz = (3) * (a1) := ⟨_, rfl⟩
          have b33 : 0 ≤ v31 ∧ v31 ≤ 2667 := by omega
          refine w_t (np := 7) (l2 := [some (eR a0), some (eI (a1)), some (eI (a2))]) (s2 := [eI (v31), eR v27]) rfl (b_imul (by rw [← e32]; exact ev_w_in (by omega) (by omega))) rfl ?_
          refine w_t (np := 8) (l2 := [some (eR a0), some (eI (a1)), some (eI (a2))]) (s2 := [eI (a2), eI (v31), eR v27]) rfl rfl rfl ?_
          obtain ⟨v34, e35⟩ : ∃ zz : Int, zz = (v31) + (a2) := ⟨_, rfl⟩
          have b36 : 0 ≤ v34 ∧ v34 ≤ 2669 := by omega
          refine w_t (np := 9) (l2 := [some (eR a0), some (eI (a1)), some (eI (a2))]) (s2 := [eI (v34), eR v27]) rfl (b_iadd (by rw [← e35]; exact ev_w_in (by omega) (by omega))) rfl ?_
          refine j_al (np := 10) rfl rfl I18 b29 (by decide) (n := 2670) rfl rfl (lo := 0) (hi := 2669) (fun _ => rfl) (by omega) (by omega) ?_
          intro v37 e38 b39
          refine b_ri rfl rfl ?_
          show ex_q (dt_fg L ρ) rc (d + 2, (295, 43, [some (eR a0), some (eI (a1)), some (eI (a2))], [eI (v37), eR v23]), f :: F, m17)
          refine j_al (np := 44) rfl rfl I18 b25 (by decide) (n := 2670) rfl rfl (lo := -2147483648) (hi := 2147483647) (fun _ => rfl) (by omega) (by omega) ?_
          intro v40 e41 b42
          refine w_go (t1 := 48) rfl rfl ?_
          exact b_ri rfl rfl (K m17 (v40) I18 F20 (by omega))
def l_302 : List Nat := [21248]
theorem s_302 {L : Nat} {ρ : Nat → Int} {rc : eQ} {d : Nat} {f : eFr} {F : List eFr} {μ : eM} {g : Nat → Nat} {a0 : Nat} {a1 : Int} {a2 : Nat} (hI : SI g μ) (gA0 : g a0 = 52) (bA1 : 0 ≤ a1 ∧ a1 ≤ 23) (gA2 : g a2 = 83) (K : ∀ (μ2 : eM), SI g μ2 → Fr l_302 0 0 g μ μ2 → ex_q (dt_fg L ρ) rc (d + 3, (f.1, f.2.1, f.2.2.1, f.2.2.2), F, μ2)) : ex_q (dt_fg L ρ) rc (d + 2, (302, 0, [some (eR a0), some (eI (a1)), some (eR a2), none, none, none, none], []), f :: F, μ) := by
  have F0 : Fr l_302 0 0 g μ μ := Fr.r
  refine w_t (np := 2) (l2 := [some (eR a0), some (eI (a1)), some (eR a2), none, none, none, none]) (s2 := [eI (7)]) rfl rfl rfl ?_
  refine w_t (np := 3) (l2 := [some (eR a0), some (eI (a1)), some (eR a2), none, none, none, none]) (s2 := [eI (a1), eI (7)]) rfl rfl rfl ?_
  obtain ⟨v1, e2⟩ : ∃ zz : Int, zz = (7) * (a1) := ⟨_, rfl⟩
  have b3 : 0 ≤ v1 ∧ v1 ≤ 161 := by omega
  refine w_t (np := 4) (l2 := [some (eR a0), some (eI (a1)), some (eR a2), none, none, none, none]) (s2 := [eI (v1)]) rfl (b_imul (by rw [← e2]; exact ev_w_in (by omega) (by omega))) rfl ?_
  refine w_t (np := 5) (l2 := [some (eR a0), some (eI (a1)), some (eR a2), some (eI (v1)), none, none, none]) (s2 := []) rfl rfl rfl ?_
  refine w_t (np := 6) (l2 := [some (eR a0), some (eI (a1)), some (eR a2), some (eI (v1)), none, none, none]) (s2 := [eR a0]) rfl (s_an rfl (pos_g hI gA0 (by decide))) rfl ?_
  refine j_gr (np := 9) rfl rfl hI gA0 (by decide) (n := 69) rfl rfl rfl ?_
  intro v4 e5 b6 z7
  have b6 : g v4 = 79 := Nat.eq_of_beq_eq_true b6
  refine w_t (np := 10) (l2 := [some (eR a0), some (eI (a1)), some (eR a2), some (eI (v1)), none, none, none]) (s2 := [eI (v1), eR v4]) rfl rfl rfl ?_
  refine w_t (np := 11) (l2 := [some (eR a0), some (eI (a1)), some (eR a2), some (eI (v1)), none, none, none]) (s2 := [eI (5), eI (v1), eR v4]) rfl rfl rfl ?_
  obtain ⟨v8, e9⟩ : ∃ zz : Int, zz = (v1) + (5) := ⟨_, rfl⟩
  have b10 : 5 ≤ v8 ∧ v8 ≤ 166 := by omega
  refine w_t (np := 12) (l2 := [some (eR a0), some (eI (a1)), some (eR a2), some (eI (v1)), none, none, none]) (s2 := [eI (v8), eR v4]) rfl (b_iadd (by rw [← e9]; exact ev_w_in (by omega) (by omega))) rfl ?_
  refine j_al (np := 13) rfl rfl hI b6 (by decide) (n := 168) rfl rfl (lo := -2147483648) (hi := 2147483647) (fun _ => rfl) (by omega) (by omega) ?_
  intro v11 e12 b13
  refine w_t (np := 15) (l2 := [some (eR a0), some (eI (a1)), some (eR a2), some (eI (v1)), some (eI (v11)), none, none]) (s2 := []) rfl rfl rfl ?_
  refine w_t (np := 16) (l2 := [some (eR a0), some (eI (a1)), some (eR a2), some (eI (v1)), some (eI (v11)), none, none]) (s2 := [eR a0]) rfl (s_an rfl (pos_g hI gA0 (by decide))) rfl ?_
  refine w_gf (np := 19) (v := eR v4) rfl rfl (hI.kd gA0 (by decide) (n := 69) rfl) (by rw [e5]; rfl) ?_
  refine w_t (np := 20) (l2 := [some (eR a0), some (eI (a1)), some (eR a2), some (eI (v1)), some (eI (v11)), none, none]) (s2 := [eI (v1), eR v4]) rfl rfl rfl ?_
  refine w_t (np := 22) (l2 := [some (eR a0), some (eI (a1)), some (eR a2), some (eI (v1)), some (eI (v11)), none, none]) (s2 := [eI (6), eI (v1), eR v4]) rfl rfl rfl ?_
  obtain ⟨v14, e15⟩ : ∃ zz : Int, zz = (v1) + (6) := ⟨_, rfl⟩
  have b16 : 6 ≤ v14 ∧ v14 ≤ 167 := by omega
  refine w_t (np := 23) (l2 := [some (eR a0), some (eI (a1)), some (eR a2), some (eI (v1)), some (eI (v11)), none, none]) (s2 := [eI (v14), eR v4]) rfl (b_iadd (by rw [← e15]; exact ev_w_in (by omega) (by omega))) rfl ?_
  refine j_al (np := 24) rfl rfl hI b6 (by decide) (n := 168) rfl rfl (lo := -2147483648) (hi := 2147483647) (fun _ => rfl) (by omega) (by omega) ?_
  intro v17 e18 b19
  refine b_ine (t1 := 42) (t2 := 27) rfl rfl rfl (ev_w_in (by omega) (by omega)) (fun g20 => ?_) (fun g20 => ?_)
  · refine w_t (np := 44) (l2 := [some (eR a0), some (eI (a1)), some (eR a2), some (eI (v1)), some (eI (v11)), none, none]) (s2 := [eI (v11)]) rfl rfl rfl ?_
    refine w_t (np := 45) (l2 := [some (eR a0), some (eI (a1)), some (eR a2), some (eI (v1)), some (eI (v11)), none, none]) (s2 := [eR a0, eI (v11)]) rfl (s_an rfl (pos_g hI gA0 (by decide))) rfl ?_
    refine w_gf (np := 48) (v := eR v4) rfl rfl (hI.kd gA0 (by decide) (n := 69) rfl) (by rw [e5]; rfl) ?_
    refine w_t (np := 49) (l2 := [some (eR a0), some (eI (a1)), some (eR a2), some (eI (v1)), some (eI (v11)), none, none]) (s2 := [eI (v1), eR v4, eI (v11)]) rfl rfl rfl ?_
    refine j_al (np := 50) rfl rfl hI b6 (by decide) (n := 168) rfl rfl (lo := -2147483648) (hi := 2147483647) (fun _ => rfl) (by omega) (by omega) ?_
    intro v21 e22 b23
    refine w_cu (np := 53) (as := [eI (v21)]) (l2 := [some (eI (v21))]) (rest := [eI (v11)]) rfl rfl rfl (Nat.ble_eq.mp rfl) rfl rfl rfl rfl ?_
    refine w_t (np := 1) (l2 := [some (eI (v21))]) (s2 := [eI (v21)]) rfl rfl rfl ?_
    refine b_ine (t1 := 8) (t2 := 4) rfl rfl rfl (ev_w_in (by omega) (by omega)) (fun g24 => ?_) (fun g24 => ?_)
    · refine w_t (np := 9) (l2 := [some (eI (v21))]) (s2 := [eI (3)]) rfl rfl rfl ?_
      refine b_ri rfl rfl ?_
      show ex_q (dt_fg L ρ) rc (d + 2, (302, 53, [some (eR a0), some (eI (a1)), some (eR a2), some (eI (v1)), some (eI (v11)), none, none], [eI (3), eI (v11)]), f :: F, μ)
      obtain ⟨v25, e26, b27⟩ : ∃ zz : Int, ev_w ((v11) - (3)) = zz ∧ (-2147483648 ≤ zz ∧ zz ≤ 2147483647) := ⟨_, rfl, hw_bd _⟩
      refine w_t (np := 54) (l2 := [some (eR a0), some (eI (a1)), some (eR a2), some (eI (v1)), some (eI (v11)), none, none]) (s2 := [eI (v25)]) rfl (b_isub e26) rfl ?_
      refine w_t (np := 56) (l2 := [some (eR a0), some (eI (a1)), some (eR a2), some (eI (v1)), some (eI (v11)), some (eI (v25)), none]) (s2 := []) rfl rfl rfl ?_
      refine w_t (np := 57) (l2 := [some (eR a0), some (eI (a1)), some (eR a2), some (eI (v1)), some (eI (v11)), some (eI (v25)), none]) (s2 := [eI (0)]) rfl rfl rfl ?_
      refine w_t (np := 59) (l2 := [some (eR a0), some (eI (a1)), some (eR a2), some (eI (v1)), some (eI (v11)), some (eI (v25)), some (eI (0))]) (s2 := []) rfl rfl rfl ?_
      have hL59 : ∀ (n28 : Nat) (m32 : eM) (i30 : Int), SI g m32 → Fr l_302 0 0 g μ m32 → (0 ≤ i30 ∧ i30 ≤ 4) → m32.1 a0 43 = ((v4 : Nat) : Int) → m32.1 v4 (v8).toNat = v11 → m32.1 v4 (v14).toNat = v17 → m32.1 v4 (v1).toNat = v21 → n28 = (4 - i30).toNat → ex_q (dt_fg L ρ) rc (d + 2, (302, 59, [some (eR a0), some (eI (a1)), some (eR a2), some (eI (v1)), some (eI (v11)), some (eI (v25)), some (eI (i30))], []), f :: F, m32) := by
        intro n28
        induction n28 using Nat.strongRecOn with
        | _ n28 ih29 =>
        intro m32 i30 I33 F34 b31 k35 k36 k37 k38 hn39
        refine w_t (np := 61) (l2 := [some (eR a0), some (eI (a1)), some (eR a2), some (eI (v1)), some (eI (v11)), some (eI (v25)), some (eI (i30))]) (s2 := [eI (i30)]) rfl rfl rfl ?_
        refine w_t (np := 62) (l2 := [some (eR a0), some (eI (a1)), some (eR a2), some (eI (v1)), some (eI (v11)), some (eI (v25)), some (eI (i30))]) (s2 := [eI (4), eI (i30)]) rfl rfl rfl ?_
        refine b_cge (t1 := 149) (t2 := 65) rfl rfl rfl (ev_w_in (by omega) (by omega)) rfl (fun g40 => ?_) (fun g40 => ?_)
        · have b41 : 4 ≤ i30 ∧ i30 ≤ 4 := by omega
          exact v_rv rfl rfl (K m32 I33 F34)
        · have b41 : 0 ≤ i30 ∧ i30 ≤ 3 := by omega
          refine w_t (np := 66) (l2 := [some (eR a0), some (eI (a1)), some (eR a2), some (eI (v1)), some (eI (v11)), some (eI (v25)), some (eI (i30))]) (s2 := [eR a2]) rfl (s_an rfl (pos_g I33 gA2 (by decide))) rfl ?_
          refine w_t (np := 68) (l2 := [some (eR a0), some (eI (a1)), some (eR a2), some (eI (v1)), some (eI (v11)), some (eI (v25)), some (eI (i30))]) (s2 := [eI (i30), eR a2]) rfl rfl rfl ?_
          refine w_t (np := 69) (l2 := [some (eR a0), some (eI (a1)), some (eR a2), some (eI (v1)), some (eI (v11)), some (eI (v25)), some (eI (i30))]) (s2 := [eR a0, eI (i30), eR a2]) rfl (s_an rfl (pos_g I33 gA0 (by decide))) rfl ?_
          refine w_gf (np := 72) (v := eR v4) rfl rfl (I33.kd gA0 (by decide) (n := 69) rfl) (by rw [k35]; rfl) ?_
          refine w_t (np := 73) (l2 := [some (eR a0), some (eI (a1)), some (eR a2), some (eI (v1)), some (eI (v11)), some (eI (v25)), some (eI (i30))]) (s2 := [eI (v1), eR v4, eI (i30), eR a2]) rfl rfl rfl ?_
          refine w_t (np := 74) (l2 := [some (eR a0), some (eI (a1)), some (eR a2), some (eI (v1)), some (eI (v11)), some (eI (v25)), some (eI (i30))]) (s2 := [eI (1), eI (v1), eR v4, eI (i30), eR a2]) rfl rfl rfl ?_
          obtain ⟨v41, e42⟩ : ∃ zz : Int, zz = (v1) + (1) := ⟨_, rfl⟩
          have b43 : 1 ≤ v41 ∧ v41 ≤ 162 := by omega
          refine w_t (np := 75) (l2 := [some (eR a0), some (eI (a1)), some (eR a2), some (eI (v1)), some (eI (v11)), some (eI (v25)), some (eI (i30))]) (s2 := [eI (v41), eR v4, eI (i30), eR a2]) rfl (b_iadd (by rw [← e42]; exact ev_w_in (by omega) (by omega))) rfl ?_
          refine w_t (np := 77) (l2 := [some (eR a0), some (eI (a1)), some (eR a2), some (eI (v1)), some (eI (v11)), some (eI (v25)), some (eI (i30))]) (s2 := [eI (i30), eI (v41), eR v4, eI (i30), eR a2]) rfl rfl rfl ?_
          obtain ⟨v44, e45⟩ : ∃ zz : Int, zz = (v41) + (i30) := ⟨_, rfl⟩
          have b46 : 1 ≤ v44 ∧ v44 ≤ 165 := by omega
          refine w_t (np := 78) (l2 := [some (eR a0), some (eI (a1)), some (eR a2), some (eI (v1)), some (eI (v11)), some (eI (v25)), some (eI (i30))]) (s2 := [eI (v44), eR v4, eI (i30), eR a2]) rfl (b_iadd (by rw [← e45]; exact ev_w_in (by omega) (by omega))) rfl ?_
          refine j_al (np := 79) rfl rfl I33 b6 (by decide) (n := 168) rfl rfl (lo := -2147483648) (hi := 2147483647) (fun _ => rfl) (by omega) (by omega) ?_
          intro v47 e48 b49
          refine j_as (np := 80) rfl rfl I33 gA2 (by decide) (n := 16) rfl rfl (lo := -2147483648) (hi := 2147483647) (fun _ => rfl) (by omega) (by omega) (by omega) ?_
          intro m50 I51 W52
          have F53 : Fr l_302 0 0 g μ m50 := F34.v W52 gA2 rfl rfl
          refine w_t (np := 81) (l2 := [some (eR a0), some (eI (a1)), some (eR a2), some (eI (v1)), some (eI (v11)), some (eI (v25)), some (eI (i30))]) (s2 := [eR a2]) rfl (s_an rfl (pos_g I51 gA2 (by decide))) rfl ?_
          refine w_t (np := 82) (l2 := [some (eR a0), some (eI (a1)), some (eR a2), some (eI (v1)), some (eI (v11)), some (eI (v25)), some (eI (i30))]) (s2 := [eI (4), eR a2]) rfl rfl rfl ?_
          refine w_t (np := 84) (l2 := [some (eR a0), some (eI (a1)), some (eR a2), some (eI (v1)), some (eI (v11)), some (eI (v25)), some (eI (i30))]) (s2 := [eI (i30), eI (4), eR a2]) rfl rfl rfl ?_
          obtain ⟨v54, e55⟩ : ∃ zz : Int, zz = (4) + (i30) := ⟨_, rfl⟩
          have b56 : 4 ≤ v54 ∧ v54 ≤ 7 := by omega
          refine w_t (np := 85) (l2 := [some (eR a0), some (eI (a1)), some (eR a2), some (eI (v1)), some (eI (v11)), some (eI (v25)), some (eI (i30))]) (s2 := [eI (v54), eR a2]) rfl (b_iadd (by rw [← e55]; exact ev_w_in (by omega) (by omega))) rfl ?_
          refine w_t (np := 86) (l2 := [some (eR a0), some (eI (a1)), some (eR a2), some (eI (v1)), some (eI (v11)), some (eI (v25)), some (eI (i30))]) (s2 := [eR a2, eI (v54), eR a2]) rfl (s_an rfl (pos_g I51 gA2 (by decide))) rfl ?_
          refine w_t (np := 88) (l2 := [some (eR a0), some (eI (a1)), some (eR a2), some (eI (v1)), some (eI (v11)), some (eI (v25)), some (eI (i30))]) (s2 := [eI (i30), eR a2, eI (v54), eR a2]) rfl rfl rfl ?_
          refine j_al (np := 89) rfl rfl I51 gA2 (by decide) (n := 16) rfl rfl (lo := -2147483648) (hi := 2147483647) (fun _ => rfl) (by omega) (by omega) ?_
          intro v57 e58 b59
          refine w_t (np := 91) (l2 := [some (eR a0), some (eI (a1)), some (eR a2), some (eI (v1)), some (eI (v11)), some (eI (v25)), some (eI (i30))]) (s2 := [eI (v11), eI (v57), eI (v54), eR a2]) rfl rfl rfl ?_
          refine w_t (np := 93) (l2 := [some (eR a0), some (eI (a1)), some (eR a2), some (eI (v1)), some (eI (v11)), some (eI (v25)), some (eI (i30))]) (s2 := [eI (i30), eI (v11), eI (v57), eI (v54), eR a2]) rfl rfl rfl ?_
          refine w_cu (np := 96) (as := [eI (v11), eI (i30)]) (l2 := [some (eI (v11)), some (eI (i30))]) (rest := [eI (v57), eI (v54), eR a2]) rfl rfl rfl (Nat.ble_eq.mp rfl) rfl rfl rfl rfl ?_
          refine s_218 (a0 := v11) (a1 := i30) I51 (by omega) (by omega) ?_
          intro v60 b61
          show ex_q (dt_fg L ρ) rc (d + 2, (302, 96, [some (eR a0), some (eI (a1)), some (eR a2), some (eI (v1)), some (eI (v11)), some (eI (v25)), some (eI (i30))], [eI (v60), eI (v57), eI (v54), eR a2]), f :: F, m50)
          obtain ⟨v62, e63, b64⟩ : ∃ zz : Int, ev_w ((v57) + (v60)) = zz ∧ (-2147483648 ≤ zz ∧ zz ≤ 2147483647) := ⟨_, rfl, hw_bd _⟩
          refine w_t (np := 97) (l2 := [some (eR a0), some (eI (a1)), some (eR a2), some (eI (v1)), some (eI (v11)), some (eI (v25)), some (eI (i30))]) (s2 := [eI (v62), eI (v54), eR a2]) rfl (b_iadd e63) rfl ?_
          refine j_as (np := 98) rfl rfl I51 gA2 (by decide) (n := 16) rfl rfl (lo := -2147483648) (hi := 2147483647) (fun _ => rfl) (by omega) (by omega) (by omega) ?_
          intro m65 I66 W67
          have F68 : Fr l_302 0 0 g μ m65 := F53.v W67 gA2 rfl rfl
          refine w_t (np := 99) (l2 := [some (eR a0), some (eI (a1)), some (eR a2), some (eI (v1)), some (eI (v11)), some (eI (v25)), some (eI (i30))]) (s2 := [eR a2]) rfl (s_an rfl (pos_g I66 gA2 (by decide))) rfl ?_
          refine w_t (np := 101) (l2 := [some (eR a0), some (eI (a1)), some (eR a2), some (eI (v1)), some (eI (v11)), some (eI (v25)), some (eI (i30))]) (s2 := [eI (12), eR a2]) rfl rfl rfl ?_
          refine w_t (np := 103) (l2 := [some (eR a0), some (eI (a1)), some (eR a2), some (eI (v1)), some (eI (v11)), some (eI (v25)), some (eI (i30))]) (s2 := [eI (i30), eI (12), eR a2]) rfl rfl rfl ?_
          obtain ⟨v69, e70⟩ : ∃ zz : Int, zz = (12) + (i30) := ⟨_, rfl⟩
          have b71 : 12 ≤ v69 ∧ v69 ≤ 15 := by omega
          refine w_t (np := 104) (l2 := [some (eR a0), some (eI (a1)), some (eR a2), some (eI (v1)), some (eI (v11)), some (eI (v25)), some (eI (i30))]) (s2 := [eI (v69), eR a2]) rfl (b_iadd (by rw [← e70]; exact ev_w_in (by omega) (by omega))) rfl ?_
          refine w_t (np := 105) (l2 := [some (eR a0), some (eI (a1)), some (eR a2), some (eI (v1)), some (eI (v11)), some (eI (v25)), some (eI (i30))]) (s2 := [eR a2, eI (v69), eR a2]) rfl (s_an rfl (pos_g I66 gA2 (by decide))) rfl ?_
          refine w_t (np := 107) (l2 := [some (eR a0), some (eI (a1)), some (eR a2), some (eI (v1)), some (eI (v11)), some (eI (v25)), some (eI (i30))]) (s2 := [eI (i30), eR a2, eI (v69), eR a2]) rfl rfl rfl ?_
          refine j_al (np := 108) rfl rfl I66 gA2 (by decide) (n := 16) rfl rfl (lo := -2147483648) (hi := 2147483647) (fun _ => rfl) (by omega) (by omega) ?_
          intro v72 e73 b74
          refine w_t (np := 110) (l2 := [some (eR a0), some (eI (a1)), some (eR a2), some (eI (v1)), some (eI (v11)), some (eI (v25)), some (eI (i30))]) (s2 := [eI (v25), eI (v72), eI (v69), eR a2]) rfl rfl rfl ?_
          refine w_t (np := 112) (l2 := [some (eR a0), some (eI (a1)), some (eR a2), some (eI (v1)), some (eI (v11)), some (eI (v25)), some (eI (i30))]) (s2 := [eI (i30), eI (v25), eI (v72), eI (v69), eR a2]) rfl rfl rfl ?_
          refine w_cu (np := 115) (as := [eI (v25), eI (i30)]) (l2 := [some (eI (v25)), some (eI (i30))]) (rest := [eI (v72), eI (v69), eR a2]) rfl rfl rfl (Nat.ble_eq.mp rfl) rfl rfl rfl rfl ?_
          refine s_218 (a0 := v25) (a1 := i30) I66 (by omega) (by omega) ?_
          intro v75 b76
          show ex_q (dt_fg L ρ) rc (d + 2, (302, 115, [some (eR a0), some (eI (a1)), some (eR a2), some (eI (v1)), some (eI (v11)), some (eI (v25)), some (eI (i30))], [eI (v75), eI (v72), eI (v69), eR a2]), f :: F, m65)
          obtain ⟨v77, e78, b79⟩ : ∃ zz : Int, ev_w ((v72) + (v75)) = zz ∧ (-2147483648 ≤ zz ∧ zz ≤ 2147483647) := ⟨_, rfl, hw_bd _⟩
          refine w_t (np := 116) (l2 := [some (eR a0), some (eI (a1)), some (eR a2), some (eI (v1)), some (eI (v11)), some (eI (v25)), some (eI (i30))]) (s2 := [eI (v77), eI (v69), eR a2]) rfl (b_iadd e78) rfl ?_
          refine j_as (np := 117) rfl rfl I66 gA2 (by decide) (n := 16) rfl rfl (lo := -2147483648) (hi := 2147483647) (fun _ => rfl) (by omega) (by omega) (by omega) ?_
          intro m80 I81 W82
          have F83 : Fr l_302 0 0 g μ m80 := F68.v W82 gA2 rfl rfl
          refine w_t (np := 118) (l2 := [some (eR a0), some (eI (a1)), some (eR a2), some (eI (v1)), some (eI (v11)), some (eI (v25)), some (eI (i30))]) (s2 := [eR a2]) rfl (s_an rfl (pos_g I81 gA2 (by decide))) rfl ?_
          refine w_t (np := 120) (l2 := [some (eR a0), some (eI (a1)), some (eR a2), some (eI (v1)), some (eI (v11)), some (eI (v25)), some (eI (i30))]) (s2 := [eI (8), eR a2]) rfl rfl rfl ?_
          refine w_t (np := 122) (l2 := [some (eR a0), some (eI (a1)), some (eR a2), some (eI (v1)), some (eI (v11)), some (eI (v25)), some (eI (i30))]) (s2 := [eI (i30), eI (8), eR a2]) rfl rfl rfl ?_
          obtain ⟨v84, e85⟩ : ∃ zz : Int, zz = (8) + (i30) := ⟨_, rfl⟩
          have b86 : 8 ≤ v84 ∧ v84 ≤ 11 := by omega
          refine w_t (np := 123) (l2 := [some (eR a0), some (eI (a1)), some (eR a2), some (eI (v1)), some (eI (v11)), some (eI (v25)), some (eI (i30))]) (s2 := [eI (v84), eR a2]) rfl (b_iadd (by rw [← e85]; exact ev_w_in (by omega) (by omega))) rfl ?_
          refine w_t (np := 124) (l2 := [some (eR a0), some (eI (a1)), some (eR a2), some (eI (v1)), some (eI (v11)), some (eI (v25)), some (eI (i30))]) (s2 := [eR a2, eI (v84), eR a2]) rfl (s_an rfl (pos_g I81 gA2 (by decide))) rfl ?_
          refine w_t (np := 125) (l2 := [some (eR a0), some (eI (a1)), some (eR a2), some (eI (v1)), some (eI (v11)), some (eI (v25)), some (eI (i30))]) (s2 := [eI (4), eR a2, eI (v84), eR a2]) rfl rfl rfl ?_
          refine w_t (np := 127) (l2 := [some (eR a0), some (eI (a1)), some (eR a2), some (eI (v1)), some (eI (v11)), some (eI (v25)), some (eI (i30))]) (s2 := [eI (i30), eI (4), eR a2, eI (v84), eR a2]) rfl rfl rfl ?_
          obtain ⟨v87, e88⟩ : ∃ zz : Int, zz = (4) + (i30) := ⟨_, rfl⟩
          have b89 : 4 ≤ v87 ∧ v87 ≤ 7 := by omega
          refine w_t (np := 128) (l2 := [some (eR a0), some (eI (a1)), some (eR a2), some (eI (v1)), some (eI (v11)), some (eI (v25)), some (eI (i30))]) (s2 := [eI (v87), eR a2, eI (v84), eR a2]) rfl (b_iadd (by rw [← e88]; exact ev_w_in (by omega) (by omega))) rfl ?_
          refine j_al (np := 129) rfl rfl I81 gA2 (by decide) (n := 16) rfl rfl (lo := -2147483648) (hi := 2147483647) (fun _ => rfl) (by omega) (by omega) ?_
          intro v90 e91 b92
          refine w_t (np := 130) (l2 := [some (eR a0), some (eI (a1)), some (eR a2), some (eI (v1)), some (eI (v11)), some (eI (v25)), some (eI (i30))]) (s2 := [eR a2, eI (v90), eI (v84), eR a2]) rfl (s_an rfl (pos_g I81 gA2 (by decide))) rfl ?_
          refine w_t (np := 132) (l2 := [some (eR a0), some (eI (a1)), some (eR a2), some (eI (v1)), some (eI (v11)), some (eI (v25)), some (eI (i30))]) (s2 := [eI (12), eR a2, eI (v90), eI (v84), eR a2]) rfl rfl rfl ?_
          refine w_t (np := 134) (l2 := [some (eR a0), some (eI (a1)), some (eR a2), some (eI (v1)), some (eI (v11)), some (eI (v25)), some (eI (i30))]) (s2 := [eI (i30), eI (12), eR a2, eI (v90), eI (v84), eR a2]) rfl rfl rfl ?_
          obtain ⟨v93, e94⟩ : ∃ zz : Int, zz = (12) + (i30) := ⟨_, rfl⟩
          have b95 : 12 ≤ v93 ∧ v93 ≤ 15 := by omega
          refine w_t (np := 135) (l2 := [some (eR a0), some (eI (a1)), some (eR a2), some (eI (v1)), some (eI (v11)), some (eI (v25)), some (eI (i30))]) (s2 := [eI (v93), eR a2, eI (v90), eI (v84), eR a2]) rfl (b_iadd (by rw [← e94]; exact ev_w_in (by omega) (by omega))) rfl ?_
          refine j_al (np := 136) rfl rfl I81 gA2 (by decide) (n := 16) rfl rfl (lo := -2147483648) (hi := 2147483647) (fun _ => rfl) (by omega) (by omega) ?_
          intro v96 e97 b98
          obtain ⟨v99, e100, b101⟩ : ∃ zz : Int, ev_w ((v90) + (v96)) = zz ∧ (-2147483648 ≤ zz ∧ zz ≤ 2147483647) := ⟨_, rfl, hw_bd _⟩
          refine w_t (np := 137) (l2 := [some (eR a0), some (eI (a1)), some (eR a2), some (eI (v1)), some (eI (v11)), some (eI (v25)), some (eI (i30))]) (s2 := [eI (v99), eI (v84), eR a2]) rfl (b_iadd e100) rfl ?_
          refine w_t (np := 138) (l2 := [some (eR a0), some (eI (a1)), some (eR a2), some (eI (v1)), some (eI (v11)), some (eI (v25)), some (eI (i30))]) (s2 := [eR a2, eI (v99), eI (v84), eR a2]) rfl (s_an rfl (pos_g I81 gA2 (by decide))) rfl ?_
          refine w_t (np := 140) (l2 := [some (eR a0), some (eI (a1)), some (eR a2), some (eI (v1)), some (eI (v11)), some (eI (v25)), some (eI (i30))]) (s2 := [eI (i30), eR a2, eI (v99), eI (v84), eR a2]) rfl rfl rfl ?_
          refine j_al (np := 141) rfl rfl I81 gA2 (by decide) (n := 16) rfl rfl (lo := -2147483648) (hi := 2147483647) (fun _ => rfl) (by omega) (by omega) ?_
          intro v102 e103 b104
          obtain ⟨v105, e106, b107⟩ : ∃ zz : Int, ev_w ((v99) - (v102)) = zz ∧ (-2147483648 ≤ zz ∧ zz ≤ 2147483647) := ⟨_, rfl, hw_bd _⟩
          refine w_t (np := 142) (l2 := [some (eR a0), some (eI (a1)), some (eR a2), some (eI (v1)), some (eI (v11)), some (eI (v25)), some (eI (i30))]) (s2 := [eI (v105), eI (v84), eR a2]) rfl (b_isub e106) rfl ?_
          refine j_as (np := 143) rfl rfl I81 gA2 (by decide) (n := 16) rfl rfl (lo := -2147483648) (hi := 2147483647) (fun _ => rfl) (by omega) (by omega) (by omega) ?_
          intro m108 I109 W110
          have F111 : Fr l_302 0 0 g μ m108 := F83.v W110 gA2 rfl rfl
          obtain ⟨v112, e113⟩ : ∃ zz : Int, zz = (i30) + (1) := ⟨_, rfl⟩
          have b114 : 1 ≤ v112 ∧ v112 ≤ 4 := by omega
          refine w_t (np := 146) (l2 := [some (eR a0), some (eI (a1)), some (eR a2), some (eI (v1)), some (eI (v11)), some (eI (v25)), some (eI (v112))]) (s2 := []) rfl (b_iinc rfl (by rw [← e113]; exact ev_w_in (by omega) (by omega)) rfl) rfl ?_
          refine w_go (t1 := 59) rfl rfl ?_
          exact ih29 (4 - (v112)).toNat (by omega) m108 (v112) I109 F111 (by omega) (W110.addr (W82.addr (W67.addr (W52.addr k35 gA2 gA0 (by decide)) gA2 gA0 (by decide)) gA2 gA0 (by decide)) gA2 gA0 (by decide)) (W110.addr (W82.addr (W67.addr (W52.addr k36 gA2 b6 (by decide)) gA2 b6 (by decide)) gA2 b6 (by decide)) gA2 b6 (by decide)) (W110.addr (W82.addr (W67.addr (W52.addr k37 gA2 b6 (by decide)) gA2 b6 (by decide)) gA2 b6 (by decide)) gA2 b6 (by decide)) (W110.addr (W82.addr (W67.addr (W52.addr k38 gA2 b6 (by decide)) gA2 b6 (by decide)) gA2 b6 (by decide)) gA2 b6 (by decide))    rfl
      exact hL59 _ μ (0) hI F0 (by decide) e5 e12 e18 e22    rfl
    · have b25 : 0 ≤ v21 ∧ v21 ≤ 0 := by omega
      refine w_t (np := 5) (l2 := [some (eI (v21))]) (s2 := [eI (1)]) rfl rfl rfl ?_
      refine w_go (t1 := 9) rfl rfl ?_
      refine b_ri rfl rfl ?_
      show ex_q (dt_fg L ρ) rc (d + 2, (302, 53, [some (eR a0), some (eI (a1)), some (eR a2), some (eI (v1)), some (eI (v11)), none, none], [eI (1), eI (v11)]), f :: F, μ)
      obtain ⟨v25, e26, b27⟩ : ∃ zz : Int, ev_w ((v11) - (1)) = zz ∧ (-2147483648 ≤ zz ∧ zz ≤ 2147483647) := ⟨_, rfl, hw_bd _⟩
      refine w_t (np := 54) (l2 := [some (eR a0), some (eI (a1)), some (eR a2), some (eI (v1)), some (eI (v11)), none, none]) (s2 := [eI (v25)]) rfl (b_isub e26) rfl ?_
      refine w_t (np := 56) (l2 := [some (eR a0), some (eI (a1)), some (eR a2), some (eI (v1)), some (eI (v11)), some (eI (v25)), none]) (s2 := []) rfl rfl rfl ?_
      refine w_t (np := 57) (l2 := [some (eR a0), some (eI (a1)), some (eR a2), some (eI (v1)), some (eI (v11)), some (eI (v25)), none]) (s2 := [eI (0)]) rfl rfl rfl ?_
      refine w_t (np := 59) (l2 := [some (eR a0), some (eI (a1)), some (eR a2), some (eI (v1)), some (eI (v11)), some (eI (v25)), some (eI (0))]) (s2 := []) rfl rfl rfl ?_
      have hL59 : ∀ (n28 : Nat) (m32 : eM) (i30 : Int), SI g m32 → Fr l_302 0 0 g μ m32 → (0 ≤ i30 ∧ i30 ≤ 4) → m32.1 a0 43 = ((v4 : Nat) : Int) → m32.1 v4 (v8).toNat = v11 → m32.1 v4 (v14).toNat = v17 → m32.1 v4 (v1).toNat = v21 → n28 = (4 - i30).toNat → ex_q (dt_fg L ρ) rc (d + 2, (302, 59, [some (eR a0), some (eI (a1)), some (eR a2), some (eI (v1)), some (eI (v11)), some (eI (v25)), some (eI (i30))], []), f :: F, m32) := by
        intro n28
        induction n28 using Nat.strongRecOn with
        | _ n28 ih29 =>
        intro m32 i30 I33 F34 b31 k35 k36 k37 k38 hn39
        refine w_t (np := 61) (l2 := [some (eR a0), some (eI (a1)), some (eR a2), some (eI (v1)), some (eI (v11)), some (eI (v25)), some (eI (i30))]) (s2 := [eI (i30)]) rfl rfl rfl ?_
        refine w_t (np := 62) (l2 := [some (eR a0), some (eI (a1)), some (eR a2), some (eI (v1)), some (eI (v11)), some (eI (v25)), some (eI (i30))]) (s2 := [eI (4), eI (i30)]) rfl rfl rfl ?_
        refine b_cge (t1 := 149) (t2 := 65) rfl rfl rfl (ev_w_in (by omega) (by omega)) rfl (fun g40 => ?_) (fun g40 => ?_)
        · have b41 : 4 ≤ i30 ∧ i30 ≤ 4 := by omega
          exact v_rv rfl rfl (K m32 I33 F34)
        · have b41 : 0 ≤ i30 ∧ i30 ≤ 3 := by omega
          refine w_t (np := 66) (l2 := [some (eR a0), some (eI (a1)), some (eR a2), some (eI (v1)), some (eI (v11)), some (eI (v25)), some (eI (i30))]) (s2 := [eR a2]) rfl (s_an rfl (pos_g I33 gA2 (by decide))) rfl ?_
          refine w_t (np := 68) (l2 := [some (eR a0), some (eI (a1)), some (eR a2), some (eI (v1)), some (eI (v11)), some (eI (v25)), some (eI (i30))]) (s2 := [eI (i30), eR a2]) rfl rfl rfl ?_
          refine w_t (np := 69) (l2 := [some (eR a0), some (eI (a1)), some (eR a2), some (eI (v1)), some (eI (v11)), some (eI (v25)), some (eI (i30))]) (s2 := [eR a0, eI (i30), eR a2]) rfl (s_an rfl (pos_g I33 gA0 (by decide))) rfl ?_
          refine w_gf (np := 72) (v := eR v4) rfl rfl (I33.kd gA0 (by decide) (n := 69) rfl) (by rw [k35]; rfl) ?_
          refine w_t (np := 73) (l2 := [some (eR a0), some (eI (a1)), some (eR a2), some (eI (v1)), some (eI (v11)), some (eI (v25)), some (eI (i30))]) (s2 := [eI (v1), eR v4, eI (i30), eR a2]) rfl rfl rfl ?_
          refine w_t (np := 74) (l2 := [some (eR a0), some (eI (a1)), some (eR a2), some (eI (v1)), some (eI (v11)), some (eI (v25)), some (eI (i30))]) (s2 := [eI (1), eI (v1), eR v4, eI (i30), eR a2]) rfl rfl rfl ?_
          obtain ⟨v41, e42⟩ : ∃ zz : Int, zz = (v1) + (1) := ⟨_, rfl⟩
          have b43 : 1 ≤ v41 ∧ v41 ≤ 162 := by omega
          refine w_t (np := 75) (l2 := [some (eR a0), some (eI (a1)), some (eR a2), some (eI (v1)), some (eI (v11)), some (eI (v25)), some (eI (i30))]) (s2 := [eI (v41), eR v4, eI (i30), eR a2]) rfl (b_iadd (by rw [← e42]; exact ev_w_in (by omega) (by omega))) rfl ?_
          refine w_t (np := 77) (l2 := [some (eR a0), some (eI (a1)), some (eR a2), some (eI (v1)), some (eI (v11)), some (eI (v25)), some (eI (i30))]) (s2 := [eI (i30), eI (v41), eR v4, eI (i30), eR a2]) rfl rfl rfl ?_
          obtain ⟨v44, e45⟩ : ∃ zz : Int, zz = (v41) + (i30) := ⟨_, rfl⟩
          have b46 : 1 ≤ v44 ∧ v44 ≤ 165 := by omega
          refine w_t (np := 78) (l2 := [some (eR a0), some (eI (a1)), some (eR a2), some (eI (v1)), some (eI (v11)), some (eI (v25)), some (eI (i30))]) (s2 := [eI (v44), eR v4, eI (i30), eR a2]) rfl (b_iadd (by rw [← e45]; exact ev_w_in (by omega) (by omega))) rfl ?_
          refine j_al (np := 79) rfl rfl I33 b6 (by decide) (n := 168) rfl rfl (lo := -2147483648) (hi := 2147483647) (fun _ => rfl) (by omega) (by omega) ?_
          intro v47 e48 b49
          refine j_as (np := 80) rfl rfl I33 gA2 (by decide) (n := 16) rfl rfl (lo := -2147483648) (hi := 2147483647) (fun _ => rfl) (by omega) (by omega) (by omega) ?_
          intro m50 I51 W52
          have F53 : Fr l_302 0 0 g μ m50 := F34.v W52 gA2 rfl rfl
          refine w_t (np := 81) (l2 := [some (eR a0), some (eI (a1)), some (eR a2), some (eI (v1)), some (eI (v11)), some (eI (v25)), some (eI (i30))]) (s2 := [eR a2]) rfl (s_an rfl (pos_g I51 gA2 (by decide))) rfl ?_
          refine w_t (np := 82) (l2 := [some (eR a0), some (eI (a1)), some (eR a2), some (eI (v1)), some (eI (v11)), some (eI (v25)), some (eI (i30))]) (s2 := [eI (4), eR a2]) rfl rfl rfl ?_
          refine w_t (np := 84) (l2 := [some (eR a0), some (eI (a1)), some (eR a2), some (eI (v1)), some (eI (v11)), some (eI (v25)), some (eI (i30))]) (s2 := [eI (i30), eI (4), eR a2]) rfl rfl rfl ?_
          obtain ⟨v54, e55⟩ : ∃ zz : Int, zz = (4) + (i30) := ⟨_, rfl⟩
          have b56 : 4 ≤ v54 ∧ v54 ≤ 7 := by omega
          refine w_t (np := 85) (l2 := [some (eR a0), some (eI (a1)), some (eR a2), some (eI (v1)), some (eI (v11)), some (eI (v25)), some (eI (i30))]) (s2 := [eI (v54), eR a2]) rfl (b_iadd (by rw [← e55]; exact ev_w_in (by omega) (by omega))) rfl ?_
          refine w_t (np := 86) (l2 := [some (eR a0), some (eI (a1)), some (eR a2), some (eI (v1)), some (eI (v11)), some (eI (v25)), some (eI (i30))]) (s2 := [eR a2, eI (v54), eR a2]) rfl (s_an rfl (pos_g I51 gA2 (by decide))) rfl ?_
          refine w_t (np := 88) (l2 := [some (eR a0), some (eI (a1)), some (eR a2), some (eI (v1)), some (eI (v11)), some (eI (v25)), some (eI (i30))]) (s2 := [eI (i30), eR a2, eI (v54), eR a2]) rfl rfl rfl ?_
          refine j_al (np := 89) rfl rfl I51 gA2 (by decide) (n := 16) rfl rfl (lo := -2147483648) (hi := 2147483647) (fun _ => rfl) (by omega) (by omega) ?_
          intro v57 e58 b59
          refine w_t (np := 91) (l2 := [some (eR a0), some (eI (a1)), some (eR a2), some (eI (v1)), some (eI (v11)), some (eI (v25)), some (eI (i30))]) (s2 := [eI (v11), eI (v57), eI (v54), eR a2]) rfl rfl rfl ?_
          refine w_t (np := 93) (l2 := [some (eR a0), some (eI (a1)), some (eR a2), some (eI (v1)), some (eI (v11)), some (eI (v25)), some (eI (i30))]) (s2 := [eI (i30), eI (v11), eI (v57), eI (v54), eR a2]) rfl rfl rfl ?_
          refine w_cu (np := 96) (as := [eI (v11), eI (i30)]) (l2 := [some (eI (v11)), some (eI (i30))]) (rest := [eI (v57), eI (v54), eR a2]) rfl rfl rfl (Nat.ble_eq.mp rfl) rfl rfl rfl rfl ?_
          refine s_218 (a0 := v11) (a1 := i30) I51 (by omega) (by omega) ?_
          intro v60 b61
          show ex_q (dt_fg L ρ) rc (d + 2, (302, 96, [some (eR a0), some (eI (a1)), some (eR a2), some (eI (v1)), some (eI (v11)), some (eI (v25)), some (eI (i30))], [eI (v60), eI (v57), eI (v54), eR a2]), f :: F, m50)
          obtain ⟨v62, e63, b64⟩ : ∃ zz : Int, ev_w ((v57) + (v60)) = zz ∧ (-2147483648 ≤ zz ∧ zz ≤ 2147483647) := ⟨_, rfl, hw_bd _⟩
          refine w_t (np := 97) (l2 := [some (eR a0), some (eI (a1)), some (eR a2), some (eI (v1)), some (eI (v11)), some (eI (v25)), some (eI (i30))]) (s2 := [eI (v62), eI (v54), eR a2]) rfl (b_iadd e63) rfl ?_
          refine j_as (np := 98) rfl rfl I51 gA2 (by decide) (n := 16) rfl rfl (lo := -2147483648) (hi := 2147483647) (fun _ => rfl) (by omega) (by omega) (by omega) ?_
          intro m65 I66 W67
          have F68 : Fr l_302 0 0 g μ m65 := F53.v W67 gA2 rfl rfl
          refine w_t (np := 99) (l2 := [some (eR a0), some (eI (a1)), some (eR a2), some (eI (v1)), some (eI (v11)), some (eI (v25)), some (eI (i30))]) (s2 := [eR a2]) rfl (s_an rfl (pos_g I66 gA2 (by decide))) rfl ?_
          refine w_t (np := 101) (l2 := [some (eR a0), some (eI (a1)), some (eR a2), some (eI (v1)), some (eI (v11)), some (eI (v25)), some (eI (i30))]) (s2 := [eI (12), eR a2]) rfl rfl rfl ?_
          refine w_t (np := 103) (l2 := [some (eR a0), some (eI (a1)), some (eR a2), some (eI (v1)), some (eI (v11)), some (eI (v25)), some (eI (i30))]) (s2 := [eI (i30), eI (12), eR a2]) rfl rfl rfl ?_
          obtain ⟨v69, e70⟩ : ∃ zz : Int, zz = (12) + (i30) := ⟨_, rfl⟩
          have b71 : 12 ≤ v69 ∧ v69 ≤ 15 := by omega
          refine w_t (np := 104) (l2 := [some (eR a0), some (eI (a1)), some (eR a2), some (eI (v1)), some (eI (v11)), some (eI (v25)), some (eI (i30))]) (s2 := [eI (v69), eR a2]) rfl (b_iadd (by rw [← e70]; exact ev_w_in (by omega) (by omega))) rfl ?_
          refine w_t (np := 105) (l2 := [some (eR a0), some (eI (a1)), some (eR a2), some (eI (v1)), some (eI (v11)), some (eI (v25)), some (eI (i30))]) (s2 := [eR a2, eI (v69), eR a2]) rfl (s_an rfl (pos_g I66 gA2 (by decide))) rfl ?_
          refine w_t (np := 107) (l2 := [some (eR a0), some (eI (a1)), some (eR a2), some (eI (v1)), some (eI (v11)), some (eI (v25)), some (eI (i30))]) (s2 := [eI (i30), eR a2, eI (v69), eR a2]) rfl rfl rfl ?_
          refine j_al (np := 108) rfl rfl I66 gA2 (by decide) (n := 16) rfl rfl (lo := -2147483648) (hi := 2147483647) (fun _ => rfl) (by omega) (by omega) ?_
          intro v72 e73 b74
          refine w_t (np := 110) (l2 := [some (eR a0), some (eI (a1)), some (eR a2), some (eI (v1)), some (eI (v11)), some (eI (v25)), some (eI (i30))]) (s2 := [eI (v25), eI (v72), eI (v69), eR a2]) rfl rfl rfl ?_
          refine w_t (np := 112) (l2 := [some (eR a0), some (eI (a1)), some (eR a2), some (eI (v1)), some (eI (v11)), some (eI (v25)), some (eI (i30))]) (s2 := [eI (i30), eI (v25), eI (v72), eI (v69), eR a2]) rfl rfl rfl ?_
          refine w_cu (np := 115) (as := [eI (v25), eI (i30)]) (l2 := [some (eI (v25)), some (eI (i30))]) (rest := [eI (v72), eI (v69), eR a2]) rfl rfl rfl (Nat.ble_eq.mp rfl) rfl rfl rfl rfl ?_
          refine s_218 (a0 := v25) (a1 := i30) I66 (by omega) (by omega) ?_
          intro v75 b76
          show ex_q (dt_fg L ρ) rc (d + 2, (302, 115, [some (eR a0), some (eI (a1)), some (eR a2), some (eI (v1)), some (eI (v11)), some (eI (v25)), some (eI (i30))], [eI (v75), eI (v72), eI (v69), eR a2]), f :: F, m65)
          obtain ⟨v77, e78, b79⟩ : ∃ zz : Int, ev_w ((v72) + (v75)) = zz ∧ (-2147483648 ≤ zz ∧ zz ≤ 2147483647) := ⟨_, rfl, hw_bd _⟩
          refine w_t (np := 116) (l2 := [some (eR a0), some (eI (a1)), some (eR a2), some (eI (v1)), some (eI (v11)), some (eI (v25)), some (eI (i30))]) (s2 := [eI (v77), eI (v69), eR a2]) rfl (b_iadd e78) rfl ?_
          refine j_as (np := 117) rfl rfl I66 gA2 (by decide) (n := 16) rfl rfl (lo := -2147483648) (hi := 2147483647) (fun _ => rfl) (by omega) (by omega) (by omega) ?_
          intro m80 I81 W82
          have F83 : Fr l_302 0 0 g μ m80 := F68.v W82 gA2 rfl rfl
          refine w_t (np := 118) (l2 := [some (eR a0), some (eI (a1)), some (eR a2), some (eI (v1)), some (eI (v11)), some (eI (v25)), some (eI (i30))]) (s2 := [eR a2]) rfl (s_an rfl (pos_g I81 gA2 (by decide))) rfl ?_
          refine w_t (np := 120) (l2 := [some (eR a0), some (eI (a1)), some (eR a2), some (eI (v1)), some (eI (v11)), some (eI (v25)), some (eI (i30))]) (s2 := [eI (8), eR a2]) rfl rfl rfl ?_
          refine w_t (np := 122) (l2 := [some (eR a0), some (eI (a1)), some (eR a2), some (eI (v1)), some (eI (v11)), some (eI (v25)), some (eI (i30))]) (s2 := [eI (i30), eI (8), eR a2]) rfl rfl rfl ?_
          obtain ⟨v84, e85⟩ : ∃ zz : Int, zz = (8) + (i30) := ⟨_, rfl⟩
          have b86 : 8 ≤ v84 ∧ v84 ≤ 11 := by omega
          refine w_t (np := 123) (l2 := [some (eR a0), some (eI (a1)), some (eR a2), some (eI (v1)), some (eI (v11)), some (eI (v25)), some (eI (i30))]) (s2 := [eI (v84), eR a2]) rfl (b_iadd (by rw [← e85]; exact ev_w_in (by omega) (by omega))) rfl ?_
          refine w_t (np := 124) (l2 := [some (eR a0), some (eI (a1)), some (eR a2), some (eI (v1)), some (eI (v11)), some (eI (v25)), some (eI (i30))]) (s2 := [eR a2, eI (v84), eR a2]) rfl (s_an rfl (pos_g I81 gA2 (by decide))) rfl ?_
          refine w_t (np := 125) (l2 := [some (eR a0), some (eI (a1)), some (eR a2), some (eI (v1)), some (eI (v11)), some (eI (v25)), some (eI (i30))]) (s2 := [eI (4), eR a2, eI (v84), eR a2]) rfl rfl rfl ?_
          refine w_t (np := 127) (l2 := [some (eR a0), some (eI (a1)), some (eR a2), some (eI (v1)), some (eI (v11)), some (eI (v25)), some (eI (i30))]) (s2 := [eI (i30), eI (4), eR a2, eI (v84), eR a2]) rfl rfl rfl ?_
          obtain ⟨v87, e88⟩ : ∃ zz : Int, zz = (4) + (i30) := ⟨_, rfl⟩
          have b89 : 4 ≤ v87 ∧ v87 ≤ 7 := by omega
          refine w_t (np := 128) (l2 := [some (eR a0), some (eI (a1)), some (eR a2), some (eI (v1)), some (eI (v11)), some (eI (v25)), some (eI (i30))]) (s2 := [eI (v87), eR a2, eI (v84), eR a2]) rfl (b_iadd (by rw [← e88]; exact ev_w_in (by omega) (by omega))) rfl ?_
          refine j_al (np := 129) rfl rfl I81 gA2 (by decide) (n := 16) rfl rfl (lo := -2147483648) (hi := 2147483647) (fun _ => rfl) (by omega) (by omega) ?_
          intro v90 e91 b92
          refine w_t (np := 130) (l2 := [some (eR a0), some (eI (a1)), some (eR a2), some (eI (v1)), some (eI (v11)), some (eI (v25)), some (eI (i30))]) (s2 := [eR a2, eI (v90), eI (v84), eR a2]) rfl (s_an rfl (pos_g I81 gA2 (by decide))) rfl ?_
          refine w_t (np := 132) (l2 := [some (eR a0), some (eI (a1)), some (eR a2), some (eI (v1)), some (eI (v11)), some (eI (v25)), some (eI (i30))]) (s2 := [eI (12), eR a2, eI (v90), eI (v84), eR a2]) rfl rfl rfl ?_
          refine w_t (np := 134) (l2 := [some (eR a0), some (eI (a1)), some (eR a2), some (eI (v1)), some (eI (v11)), some (eI (v25)), some (eI (i30))]) (s2 := [eI (i30), eI (12), eR a2, eI (v90), eI (v84), eR a2]) rfl rfl rfl ?_
          obtain ⟨v93, e94⟩ : ∃ zz : Int, zz = (12) + (i30) := ⟨_, rfl⟩
          have b95 : 12 ≤ v93 ∧ v93 ≤ 15 := by omega
          refine w_t (np := 135) (l2 := [some (eR a0), some (eI (a1)), some (eR a2), some (eI (v1)), some (eI (v11)), some (eI (v25)), some (eI (i30))]) (s2 := [eI (v93), eR a2, eI (v90), eI (v84), eR a2]) rfl (b_iadd (by rw [← e94]; exact ev_w_in (by omega) (by omega))) rfl ?_
          refine j_al (np := 136) rfl rfl I81 gA2 (by decide) (n := 16) rfl rfl (lo := -2147483648) (hi := 2147483647) (fun _ => rfl) (by omega) (by omega) ?_
          intro v96 e97 b98
          obtain ⟨v99, e100, b101⟩ : ∃ zz : Int, ev_w ((v90) + (v96)) = zz ∧ (-2147483648 ≤ zz ∧ zz ≤ 2147483647) := ⟨_, rfl, hw_bd _⟩
          refine w_t (np := 137) (l2 := [some (eR a0), some (eI (a1)), some (eR a2), some (eI (v1)), some (eI (v11)), some (eI (v25)), some (eI (i30))]) (s2 := [eI (v99), eI (v84), eR a2]) rfl (b_iadd e100) rfl ?_
          refine w_t (np := 138) (l2 := [some (eR a0), some (eI (a1)), some (eR a2), some (eI (v1)), some (eI (v11)), some (eI (v25)), some (eI (i30))]) (s2 := [eR a2, eI (v99), eI (v84), eR a2]) rfl (s_an rfl (pos_g I81 gA2 (by decide))) rfl ?_
          refine w_t (np := 140) (l2 := [some (eR a0), some (eI (a1)), some (eR a2), some (eI (v1)), some (eI (v11)), some (eI (v25)), some (eI (i30))]) (s2 := [eI (i30), eR a2, eI (v99), eI (v84), eR a2]) rfl rfl rfl ?_
          refine j_al (np := 141) rfl rfl I81 gA2 (by decide) (n := 16) rfl rfl (lo := -2147483648) (hi := 2147483647) (fun _ => rfl) (by omega) (by omega) ?_
          intro v102 e103 b104
          obtain ⟨v105, e106, b107⟩ : ∃ zz : Int, ev_w ((v99) - (v102)) = zz ∧ (-2147483648 ≤ zz ∧ zz ≤ 2147483647) := ⟨_, rfl, hw_bd _⟩
          refine w_t (np := 142) (l2 := [some (eR a0), some (eI (a1)), some (eR a2), some (eI (v1)), some (eI (v11)), some (eI (v25)), some (eI (i30))]) (s2 := [eI (v105), eI (v84), eR a2]) rfl (b_isub e106) rfl ?_
          refine j_as (np := 143) rfl rfl I81 gA2 (by decide) (n := 16) rfl rfl (lo := -2147483648) (hi := 2147483647) (fun _ => rfl) (by omega) (by omega) (by omega) ?_
          intro m108 I109 W110
          have F111 : Fr l_302 0 0 g μ m108 := F83.v W110 gA2 rfl rfl
          obtain ⟨v112, e113⟩ : ∃ zz : Int, zz = (i30) + (1) := ⟨_, rfl⟩
          have b114 : 1 ≤ v112 ∧ v112 ≤ 4 := by omega
          refine w_t (np := 146) (l2 := [some (eR a0), some (eI (a1)), some (eR a2), some (eI (v1)), some (eI (v11)), some (eI (v25)), some (eI (v112))]) (s2 := []) rfl (b_iinc rfl (by rw [← e113]; exact ev_w_in (by omega) (by omega)) rfl) rfl ?_
          refine w_go (t1 := 59) rfl rfl ?_
          exact ih29 (4 - (v112)).toNat (by omega) m108 (v112) I109 F111 (by omega) (W110.addr (W82.addr (W67.addr (W52.addr k35 gA2 gA0 (by decide)) gA2 gA0 (by decide)) gA2 gA0 (by decide)) gA2 gA0 (by decide)) (W110.addr (W82.addr (W67.addr (W52.addr k36 gA2 b6 (by decide)) gA2 b6 (by decide)) gA2 b6 (by decide)) gA2 b6 (by decide)) (W110.addr (W82.addr (W67.addr (W52.addr k37 gA2 b6 (by decide)) gA2 b6 (by decide)) gA2 b6 (by decide)) gA2 b6 (by decide)) (W110.addr (W82.addr (W67.addr (W52.addr k38 gA2 b6 (by decide)) gA2 b6 (by decide)) gA2 b6 (by decide)) gA2 b6 (by decide))    rfl
      exact hL59 _ μ (0) hI F0 (by decide) e5 e12 e18 e22    rfl
  · have b21 : 0 ≤ v17 ∧ v17 ≤ 0 := by omega
    refine w_t (np := 29) (l2 := [some (eR a0), some (eI (a1)), some (eR a2), some (eI (v1)), some (eI (v11)), none, none]) (s2 := [eI (v11)]) rfl rfl rfl ?_
    refine w_t (np := 30) (l2 := [some (eR a0), some (eI (a1)), some (eR a2), some (eI (v1)), some (eI (v11)), none, none]) (s2 := [eR a0, eI (v11)]) rfl (s_an rfl (pos_g hI gA0 (by decide))) rfl ?_
    refine w_gf (np := 33) (v := eR v4) rfl rfl (hI.kd gA0 (by decide) (n := 69) rfl) (by rw [e5]; rfl) ?_
    refine w_t (np := 34) (l2 := [some (eR a0), some (eI (a1)), some (eR a2), some (eI (v1)), some (eI (v11)), none, none]) (s2 := [eI (v1), eR v4, eI (v11)]) rfl rfl rfl ?_
    refine j_al (np := 35) rfl rfl hI b6 (by decide) (n := 168) rfl rfl (lo := -2147483648) (hi := 2147483647) (fun _ => rfl) (by omega) (by omega) ?_
    intro v21 e22 b23
    refine w_cu (np := 38) (as := [eI (v21)]) (l2 := [some (eI (v21))]) (rest := [eI (v11)]) rfl rfl rfl (Nat.ble_eq.mp rfl) rfl rfl rfl rfl ?_
    refine w_t (np := 1) (l2 := [some (eI (v21))]) (s2 := [eI (v21)]) rfl rfl rfl ?_
    refine b_ine (t1 := 8) (t2 := 4) rfl rfl rfl (ev_w_in (by omega) (by omega)) (fun g24 => ?_) (fun g24 => ?_)
    · refine w_t (np := 9) (l2 := [some (eI (v21))]) (s2 := [eI (3)]) rfl rfl rfl ?_
      refine b_ri rfl rfl ?_
      show ex_q (dt_fg L ρ) rc (d + 2, (302, 38, [some (eR a0), some (eI (a1)), some (eR a2), some (eI (v1)), some (eI (v11)), none, none], [eI (3), eI (v11)]), f :: F, μ)
      obtain ⟨v25, e26, b27⟩ : ∃ zz : Int, ev_w ((v11) + (3)) = zz ∧ (-2147483648 ≤ zz ∧ zz ≤ 2147483647) := ⟨_, rfl, hw_bd _⟩
      refine w_t (np := 39) (l2 := [some (eR a0), some (eI (a1)), some (eR a2), some (eI (v1)), some (eI (v11)), none, none]) (s2 := [eI (v25)]) rfl (b_iadd e26) rfl ?_
      refine w_go (t1 := 54) rfl rfl ?_
      refine w_t (np := 56) (l2 := [some (eR a0), some (eI (a1)), some (eR a2), some (eI (v1)), some (eI (v11)), some (eI (v25)), none]) (s2 := []) rfl rfl rfl ?_
      refine w_t (np := 57) (l2 := [some (eR a0), some (eI (a1)), some (eR a2), some (eI (v1)), some (eI (v11)), some (eI (v25)), none]) (s2 := [eI (0)]) rfl rfl rfl ?_
      refine w_t (np := 59) (l2 := [some (eR a0), some (eI (a1)), some (eR a2), some (eI (v1)), some (eI (v11)), some (eI (v25)), some (eI (0))]) (s2 := []) rfl rfl rfl ?_
      have hL59 : ∀ (n28 : Nat) (m32 : eM) (i30 : Int), SI g m32 → Fr l_302 0 0 g μ m32 → (0 ≤ i30 ∧ i30 ≤ 4) → m32.1 a0 43 = ((v4 : Nat) : Int) → m32.1 v4 (v8).toNat = v11 → m32.1 v4 (v14).toNat = v17 → m32.1 v4 (v1).toNat = v21 → n28 = (4 - i30).toNat → ex_q (dt_fg L ρ) rc (d + 2, (302, 59, [some (eR a0), some (eI (a1)), some (eR a2), some (eI (v1)), some (eI (v11)), some (eI (v25)), some (eI (i30))], []), f :: F, m32) := by
        intro n28
        induction n28 using Nat.strongRecOn with
        | _ n28 ih29 =>
        intro m32 i30 I33 F34 b31 k35 k36 k37 k38 hn39
        refine w_t (np := 61) (l2 := [some (eR a0), some (eI (a1)), some (eR a2), some (eI (v1)), some (eI (v11)), some (eI (v25)), some (eI (i30))]) (s2 := [eI (i30)]) rfl rfl rfl ?_
        refine w_t (np := 62) (l2 := [some (eR a0), some (eI (a1)), some (eR a2), some (eI (v1)), some (eI (v11)), some (eI (v25)), some (eI (i30))]) (s2 := [eI (4), eI (i30)]) rfl rfl rfl ?_
        refine b_cge (t1 := 149) (t2 := 65) rfl rfl rfl (ev_w_in (by omega) (by omega)) rfl (fun g40 => ?_) (fun g40 => ?_)
        · have b41 : 4 ≤ i30 ∧ i30 ≤ 4 := by omega
          exact v_rv rfl rfl (K m32 I33 F34)
        · have b41 : 0 ≤ i30 ∧ i30 ≤ 3 := by omega
          refine w_t (np := 66) (l2 := [some (eR a0), some (eI (a1)), some (eR a2), some (eI (v1)), some (eI (v11)), some (eI (v25)), some (eI (i30))]) (s2 := [eR a2]) rfl (s_an rfl (pos_g I33 gA2 (by decide))) rfl ?_
          refine w_t (np := 68) (l2 := [some (eR a0), some (eI (a1)), some (eR a2), some (eI (v1)), some (eI (v11)), some (eI (v25)), some (eI (i30))]) (s2 := [eI (i30), eR a2]) rfl rfl rfl ?_
          refine w_t (np := 69) (l2 := [some (eR a0), some (eI (a1)), some (eR a2), some (eI (v1)), some (eI (v11)), some (eI (v25)), some (eI (i30))]) (s2 := [eR a0, eI (i30), eR a2]) rfl (s_an rfl (pos_g I33 gA0 (by decide))) rfl ?_
          refine w_gf (np := 72) (v := eR v4) rfl rfl (I33.kd gA0 (by decide) (n := 69) rfl) (by rw [k35]; rfl) ?_
          refine w_t (np := 73) (l2 := [some (eR a0), some (eI (a1)), some (eR a2), some (eI (v1)), some (eI (v11)), some (eI (v25)), some (eI (i30))]) (s2 := [eI (v1), eR v4, eI (i30), eR a2]) rfl rfl rfl ?_
          refine w_t (np := 74) (l2 := [some (eR a0), some (eI (a1)), some (eR a2), some (eI (v1)), some (eI (v11)), some (eI (v25)), some (eI (i30))]) (s2 := [eI (1), eI (v1), eR v4, eI (i30), eR a2]) rfl rfl rfl ?_
          obtain ⟨v41, e42⟩ : ∃ zz : Int, zz = (v1) + (1) := ⟨_, rfl⟩
          have b43 : 1 ≤ v41 ∧ v41 ≤ 162 := by omega
          refine w_t (np := 75) (l2 := [some (eR a0), some (eI (a1)), some (eR a2), some (eI (v1)), some (eI (v11)), some (eI (v25)), some (eI (i30))]) (s2 := [eI (v41), eR v4, eI (i30), eR a2]) rfl (b_iadd (by rw [← e42]; exact ev_w_in (by omega) (by omega))) rfl ?_
          refine w_t (np := 77) (l2 := [some (eR a0), some (eI (a1)), some (eR a2), some (eI (v1)), some (eI (v11)), some (eI (v25)), some (eI (i30))]) (s2 := [eI (i30), eI (v41), eR v4, eI (i30), eR a2]) rfl rfl rfl ?_
          obtain ⟨v44, e45⟩ : ∃ zz : Int, zz = (v41) + (i30) := ⟨_, rfl⟩
          have b46 : 1 ≤ v44 ∧ v44 ≤ 165 := by omega
          refine w_t (np := 78) (l2 := [some (eR a0), some (eI (a1)), some (eR a2), some (eI (v1)), some (eI (v11)), some (eI (v25)), some (eI (i30))]) (s2 := [eI (v44), eR v4, eI (i30), eR a2]) rfl (b_iadd (by rw [← e45]; exact ev_w_in (by omega) (by omega))) rfl ?_
          refine j_al (np := 79) rfl rfl I33 b6 (by decide) (n := 168) rfl rfl (lo := -2147483648) (hi := 2147483647) (fun _ => rfl) (by omega) (by omega) ?_
          intro v47 e48 b49
          refine j_as (np := 80) rfl rfl I33 gA2 (by decide) (n := 16) rfl rfl (lo := -2147483648) (hi := 2147483647) (fun _ => rfl) (by omega) (by omega) (by omega) ?_
          intro m50 I51 W52
          have F53 : Fr l_302 0 0 g μ m50 := F34.v W52 gA2 rfl rfl
          refine w_t (np := 81) (l2 := [some (eR a0), some (eI (a1)), some (eR a2), some (eI (v1)), some (eI (v11)), some (eI (v25)), some (eI (i30))]) (s2 := [eR a2]) rfl (s_an rfl (pos_g I51 gA2 (by decide))) rfl ?_
          refine w_t (np := 82) (l2 := [some (eR a0), some (eI (a1)), some (eR a2), some (eI (v1)), some (eI (v11)), some (eI (v25)), some (eI (i30))]) (s2 := [eI (4), eR a2]) rfl rfl rfl ?_
          refine w_t (np := 84) (l2 := [some (eR a0), some (eI (a1)), some (eR a2), some (eI (v1)), some (eI (v11)), some (eI (v25)), some (eI (i30))]) (s2 := [eI (i30), eI (4), eR a2]) rfl rfl rfl ?_
          obtain ⟨v54, e55⟩ : ∃ zz : Int, zz = (4) + (i30) := ⟨_, rfl⟩
          have b56 : 4 ≤ v54 ∧ v54 ≤ 7 := by omega
          refine w_t (np := 85) (l2 := [some (eR a0), some (eI (a1)), some (eR a2), some (eI (v1)), some (eI (v11)), some (eI (v25)), some (eI (i30))]) (s2 := [eI (v54), eR a2]) rfl (b_iadd (by rw [← e55]; exact ev_w_in (by omega) (by omega))) rfl ?_
          refine w_t (np := 86) (l2 := [some (eR a0), some (eI (a1)), some (eR a2), some (eI (v1)), some (eI (v11)), some (eI (v25)), some (eI (i30))]) (s2 := [eR a2, eI (v54), eR a2]) rfl (s_an rfl (pos_g I51 gA2 (by decide))) rfl ?_
          refine w_t (np := 88) (l2 := [some (eR a0), some (eI (a1)), some (eR a2), some (eI (v1)), some (eI (v11)), some (eI (v25)), some (eI (i30))]) (s2 := [eI (i30), eR a2, eI (v54), eR a2]) rfl rfl rfl ?_
          refine j_al (np := 89) rfl rfl I51 gA2 (by decide) (n := 16) rfl rfl (lo := -2147483648) (hi := 2147483647) (fun _ => rfl) (by omega) (by omega) ?_
          intro v57 e58 b59
          refine w_t (np := 91) (l2 := [some (eR a0), some (eI (a1)), some (eR a2), some (eI (v1)), some (eI (v11)), some (eI (v25)), some (eI (i30))]) (s2 := [eI (v11), eI (v57), eI (v54), eR a2]) rfl rfl rfl ?_
          refine w_t (np := 93) (l2 := [some (eR a0), some (eI (a1)), some (eR a2), some (eI (v1)), some (eI (v11)), some (eI (v25)), some (eI (i30))]) (s2 := [eI (i30), eI (v11), eI (v57), eI (v54), eR a2]) rfl rfl rfl ?_
          refine w_cu (np := 96) (as := [eI (v11), eI (i30)]) (l2 := [some (eI (v11)), some (eI (i30))]) (rest := [eI (v57), eI (v54), eR a2]) rfl rfl rfl (Nat.ble_eq.mp rfl) rfl rfl rfl rfl ?_
          refine s_218 (a0 := v11) (a1 := i30) I51 (by omega) (by omega) ?_
          intro v60 b61
          show ex_q (dt_fg L ρ) rc (d + 2, (302, 96, [some (eR a0), some (eI (a1)), some (eR a2), some (eI (v1)), some (eI (v11)), some (eI (v25)), some (eI (i30))], [eI (v60), eI (v57), eI (v54), eR a2]), f :: F, m50)
          obtain ⟨v62, e63, b64⟩ : ∃ zz : Int, ev_w ((v57) + (v60)) = zz ∧ (-2147483648 ≤ zz ∧ zz ≤ 2147483647) := ⟨_, rfl, hw_bd _⟩
          refine w_t (np := 97) (l2 := [some (eR a0), some (eI (a1)), some (eR a2), some (eI (v1)), some (eI (v11)), some (eI (v25)), some (eI (i30))]) (s2 := [eI (v62), eI (v54), eR a2]) rfl (b_iadd e63) rfl ?_
          refine j_as (np := 98) rfl rfl I51 gA2 (by decide) (n := 16) rfl rfl (lo := -2147483648) (hi := 2147483647) (fun _ => rfl) (by omega) (by omega) (by omega) ?_
          intro m65 I66 W67
          have F68 : Fr l_302 0 0 g μ m65 := F53.v W67 gA2 rfl rfl
          refine w_t (np := 99) (l2 := [some (eR a0), some (eI (a1)), some (eR a2), some (eI (v1)), some (eI (v11)), some (eI (v25)), some (eI (i30))]) (s2 := [eR a2]) rfl (s_an rfl (pos_g I66 gA2 (by decide))) rfl ?_
          refine w_t (np := 101) (l2 := [some (eR a0), some (eI (a1)), some (eR a2), some (eI (v1)), some (eI (v11)), some (eI (v25)), some (eI (i30))]) (s2 := [eI (12), eR a2]) rfl rfl rfl ?_
          refine w_t (np := 103) (l2 := [some (eR a0), some (eI (a1)), some (eR a2), some (eI (v1)), some (eI (v11)), some (eI (v25)), some (eI (i30))]) (s2 := [eI (i30), eI (12), eR a2]) rfl rfl rfl ?_
          obtain ⟨v69, e70⟩ : ∃ zz : Int, zz = (12) + (i30) := ⟨_, rfl⟩
          have b71 : 12 ≤ v69 ∧ v69 ≤ 15 := by omega
          refine w_t (np := 104) (l2 := [some (eR a0), some (eI (a1)), some (eR a2), some (eI (v1)), some (eI (v11)), some (eI (v25)), some (eI (i30))]) (s2 := [eI (v69), eR a2]) rfl (b_iadd (by rw [← e70]; exact ev_w_in (by omega) (by omega))) rfl ?_
          refine w_t (np := 105) (l2 := [some (eR a0), some (eI (a1)), some (eR a2), some (eI (v1)), some (eI (v11)), some (eI (v25)), some (eI (i30))]) (s2 := [eR a2, eI (v69), eR a2]) rfl (s_an rfl (pos_g I66 gA2 (by decide))) rfl ?_
          refine w_t (np := 107) (l2 := [some (eR a0), some (eI (a1)), some (eR a2), some (eI (v1)), some (eI (v11)), some (eI (v25)), some (eI (i30))]) (s2 := [eI (i30), eR a2, eI (v69), eR a2]) rfl rfl rfl ?_
          refine j_al (np := 108) rfl rfl I66 gA2 (by decide) (n := 16) rfl rfl (lo := -2147483648) (hi := 2147483647) (fun _ => rfl) (by omega) (by omega) ?_
          intro v72 e73 b74
          refine w_t (np := 110) (l2 := [some (eR a0), some (eI (a1)), some (eR a2), some (eI (v1)), some (eI (v11)), some (eI (v25)), some (eI (i30))]) (s2 := [eI (v25), eI (v72), eI (v69), eR a2]) rfl rfl rfl ?_
          refine w_t (np := 112) (l2 := [some (eR a0), some (eI (a1)), some (eR a2), some (eI (v1)), some (eI (v11)), some (eI (v25)), some (eI (i30))]) (s2 := [eI (i30), eI (v25), eI (v72), eI (v69), eR a2]) rfl rfl rfl ?_
          refine w_cu (np := 115) (as := [eI (v25), eI (i30)]) (l2 := [some (eI (v25)), some (eI (i30))]) (rest := [eI (v72), eI (v69), eR a2]) rfl rfl rfl (Nat.ble_eq.mp rfl) rfl rfl rfl rfl ?_
          refine s_218 (a0 := v25) (a1 := i30) I66 (by omega) (by omega) ?_
          intro v75 b76
          show ex_q (dt_fg L ρ) rc (d + 2, (302, 115, [some (eR a0), some (eI (a1)), some (eR a2), some (eI (v1)), some (eI (v11)), some (eI (v25)), some (eI (i30))], [eI (v75), eI (v72), eI (v69), eR a2]), f :: F, m65)
          obtain ⟨v77, e78, b79⟩ : ∃ zz : Int, ev_w ((v72) + (v75)) = zz ∧ (-2147483648 ≤ zz ∧ zz ≤ 2147483647) := ⟨_, rfl, hw_bd _⟩
          refine w_t (np := 116) (l2 := [some (eR a0), some (eI (a1)), some (eR a2), some (eI (v1)), some (eI (v11)), some (eI (v25)), some (eI (i30))]) (s2 := [eI (v77), eI (v69), eR a2]) rfl (b_iadd e78) rfl ?_
          refine j_as (np := 117) rfl rfl I66 gA2 (by decide) (n := 16) rfl rfl (lo := -2147483648) (hi := 2147483647) (fun _ => rfl) (by omega) (by omega) (by omega) ?_
          intro m80 I81 W82
          have F83 : Fr l_302 0 0 g μ m80 := F68.v W82 gA2 rfl rfl
          refine w_t (np := 118) (l2 := [some (eR a0), some (eI (a1)), some (eR a2), some (eI (v1)), some (eI (v11)), some (eI (v25)), some (eI (i30))]) (s2 := [eR a2]) rfl (s_an rfl (pos_g I81 gA2 (by decide))) rfl ?_
          refine w_t (np := 120) (l2 := [some (eR a0), some (eI (a1)), some (eR a2), some (eI (v1)), some (eI (v11)), some (eI (v25)), some (eI (i30))]) (s2 := [eI (8), eR a2]) rfl rfl rfl ?_
          refine w_t (np := 122) (l2 := [some (eR a0), some (eI (a1)), some (eR a2), some (eI (v1)), some (eI (v11)), some (eI (v25)), some (eI (i30))]) (s2 := [eI (i30), eI (8), eR a2]) rfl rfl rfl ?_
          obtain ⟨v84, e85⟩ : ∃ zz : Int, zz = (8) + (i30) := ⟨_, rfl⟩
          have b86 : 8 ≤ v84 ∧ v84 ≤ 11 := by omega
          refine w_t (np := 123) (l2 := [some (eR a0), some (eI (a1)), some (eR a2), some (eI (v1)), some (eI (v11)), some (eI (v25)), some (eI (i30))]) (s2 := [eI (v84), eR a2]) rfl (b_iadd (by rw [← e85]; exact ev_w_in (by omega) (by omega))) rfl ?_
          refine w_t (np := 124) (l2 := [some (eR a0), some (eI (a1)), some (eR a2), some (eI (v1)), some (eI (v11)), some (eI (v25)), some (eI (i30))]) (s2 := [eR a2, eI (v84), eR a2]) rfl (s_an rfl (pos_g I81 gA2 (by decide))) rfl ?_
          refine w_t (np := 125) (l2 := [some (eR a0), some (eI (a1)), some (eR a2), some (eI (v1)), some (eI (v11)), some (eI (v25)), some (eI (i30))]) (s2 := [eI (4), eR a2, eI (v84), eR a2]) rfl rfl rfl ?_
          refine w_t (np := 127) (l2 := [some (eR a0), some (eI (a1)), some (eR a2), some (eI (v1)), some (eI (v11)), some (eI (v25)), some (eI (i30))]) (s2 := [eI (i30), eI (4), eR a2, eI (v84), eR a2]) rfl rfl rfl ?_
          obtain ⟨v87, e88⟩ : ∃ zz : Int, zz = (4) + (i30) := ⟨_, rfl⟩
          have b89 : 4 ≤ v87 ∧ v87 ≤ 7 := by omega
          refine w_t (np := 128) (l2 := [some (eR a0), some (eI (a1)), some (eR a2), some (eI (v1)), some (eI (v11)), some (eI (v25)), some (eI (i30))]) (s2 := [eI (v87), eR a2, eI (v84), eR a2]) rfl (b_iadd (by rw [← e88]; exact ev_w_in (by omega) (by omega))) rfl ?_
          refine j_al (np := 129) rfl rfl I81 gA2 (by decide) (n := 16) rfl rfl (lo := -2147483648) (hi := 2147483647) (fun _ => rfl) (by omega) (by omega) ?_
          intro v90 e91 b92
          refine w_t (np := 130) (l2 := [some (eR a0), some (eI (a1)), some (eR a2), some (eI (v1)), some (eI (v11)), some (eI (v25)), some (eI (i30))]) (s2 := [eR a2, eI (v90), eI (v84), eR a2]) rfl (s_an rfl (pos_g I81 gA2 (by decide))) rfl ?_
          refine w_t (np := 132) (l2 := [some (eR a0), some (eI (a1)), some (eR a2), some (eI (v1)), some (eI (v11)), some (eI (v25)), some (eI (i30))]) (s2 := [eI (12), eR a2, eI (v90), eI (v84), eR a2]) rfl rfl rfl ?_
          refine w_t (np := 134) (l2 := [some (eR a0), some (eI (a1)), some (eR a2), some (eI (v1)), some (eI (v11)), some (eI (v25)), some (eI (i30))]) (s2 := [eI (i30), eI (12), eR a2, eI (v90), eI (v84), eR a2]) rfl rfl rfl ?_
          obtain ⟨v93, e94⟩ : ∃ zz : Int, zz = (12) + (i30) := ⟨_, rfl⟩
          have b95 : 12 ≤ v93 ∧ v93 ≤ 15 := by omega
          refine w_t (np := 135) (l2 := [some (eR a0), some (eI (a1)), some (eR a2), some (eI (v1)), some (eI (v11)), some (eI (v25)), some (eI (i30))]) (s2 := [eI (v93), eR a2, eI (v90), eI (v84), eR a2]) rfl (b_iadd (by rw [← e94]; exact ev_w_in (by omega) (by omega))) rfl ?_
          refine j_al (np := 136) rfl rfl I81 gA2 (by decide) (n := 16) rfl rfl (lo := -2147483648) (hi := 2147483647) (fun _ => rfl) (by omega) (by omega) ?_
          intro v96 e97 b98
          obtain ⟨v99, e100, b101⟩ : ∃ zz : Int, ev_w ((v90) + (v96)) = zz ∧ (-2147483648 ≤ zz ∧ zz ≤ 2147483647) := ⟨_, rfl, hw_bd _⟩
          refine w_t (np := 137) (l2 := [some (eR a0), some (eI (a1)), some (eR a2), some (eI (v1)), some (eI (v11)), some (eI (v25)), some (eI (i30))]) (s2 := [eI (v99), eI (v84), eR a2]) rfl (b_iadd e100) rfl ?_
          refine w_t (np := 138) (l2 := [some (eR a0), some (eI (a1)), some (eR a2), some (eI (v1)), some (eI (v11)), some (eI (v25)), some (eI (i30))]) (s2 := [eR a2, eI (v99), eI (v84), eR a2]) rfl (s_an rfl (pos_g I81 gA2 (by decide))) rfl ?_
          refine w_t (np := 140) (l2 := [some (eR a0), some (eI (a1)), some (eR a2), some (eI (v1)), some (eI (v11)), some (eI (v25)), some (eI (i30))]) (s2 := [eI (i30), eR a2, eI (v99), eI (v84), eR a2]) rfl rfl rfl ?_
          refine j_al (np := 141) rfl rfl I81 gA2 (by decide) (n := 16) rfl rfl (lo := -2147483648) (hi := 2147483647) (fun _ => rfl) (by omega) (by omega) ?_
          intro v102 e103 b104
          obtain ⟨v105, e106, b107⟩ : ∃ zz : Int, ev_w ((v99) - (v102)) = zz ∧ (-2147483648 ≤ zz ∧ zz ≤ 2147483647) := ⟨_, rfl, hw_bd _⟩
          refine w_t (np := 142) (l2 := [some (eR a0), some (eI (a1)), some (eR a2), some (eI (v1)), some (eI (v11)), some (eI (v25)), some (eI (i30))]) (s2 := [eI (v105), eI (v84), eR a2]) rfl (b_isub e106) rfl ?_
          refine j_as (np := 143) rfl rfl I81 gA2 (by decide) (n := 16) rfl rfl (lo := -2147483648) (hi := 2147483647) (fun _ => rfl) (by omega) (by omega) (by omega) ?_
          intro m108 I109 W110
          have F111 : Fr l_302 0 0 g μ m108 := F83.v W110 gA2 rfl rfl
          obtain ⟨v112, e113⟩ : ∃ zz : Int, zz = (i30) + (1) := ⟨_, rfl⟩
          have b114 : 1 ≤ v112 ∧ v112 ≤ 4 := by omega
          refine w_t (np := 146) (l2 := [some (eR a0), some (eI (a1)), some (eR a2), some (eI (v1)), some (eI (v11)), some (eI (v25)), some (eI (v112))]) (s2 := []) rfl (b_iinc rfl (by rw [← e113]; exact ev_w_in (by omega) (by omega)) rfl) rfl ?_
          refine w_go (t1 := 59) rfl rfl ?_
          exact ih29 (4 - (v112)).toNat (by omega) m108 (v112) I109 F111 (by omega) (W110.addr (W82.addr (W67.addr (W52.addr k35 gA2 gA0 (by decide)) gA2 gA0 (by decide)) gA2 gA0 (by decide)) gA2 gA0 (by decide)) (W110.addr (W82.addr (W67.addr (W52.addr k36 gA2 b6 (by decide)) gA2 b6 (by decide)) gA2 b6 (by decide)) gA2 b6 (by decide)) (W110.addr (W82.addr (W67.addr (W52.addr k37 gA2 b6 (by decide)) gA2 b6 (by decide)) gA2 b6 (by decide)) gA2 b6 (by decide)) (W110.addr (W82.addr (W67.addr (W52.addr k38 gA2 b6 (by decide)) gA2 b6 (by decide)) gA2 b6 (by decide)) gA2 b6 (by decide))    rfl
      exact hL59 _ μ (0) hI F0 (by decide) e5 e12 e18 e22    rfl
    · have b25 : 0 ≤ v21 ∧ v21 ≤ 0 := by omega
      refine w_t (np := 5) (l2 := [some (eI (v21))]) (s2 := [eI (1)]) rfl rfl rfl ?_
      refine w_go (t1 := 9) rfl rfl ?_
      refine b_ri rfl rfl ?_
      show ex_q (dt_fg L ρ) rc (d + 2, (302, 38, [some (eR a0), some (eI (a1)), some (eR a2), some (eI (v1)), some (eI (v11)), none, none], [eI (1), eI (v11)]), f :: F, μ)
      obtain ⟨v25, e26, b27⟩ : ∃ zz : Int, ev_w ((v11) + (1)) = zz ∧ (-2147483648 ≤ zz ∧ zz ≤ 2147483647) := ⟨_, rfl, hw_bd _⟩
      refine w_t (np := 39) (l2 := [some (eR a0), some (eI (a1)), some (eR a2), some (eI (v1)), some (eI (v11)), none, none]) (s2 := [eI (v25)]) rfl (b_iadd e26) rfl ?_
      refine w_go (t1 := 54) rfl rfl ?_
      refine w_t (np := 56) (l2 := [some (eR a0), some (eI (a1)), some (eR a2), some (eI (v1)), some (eI (v11)), some (eI (v25)), none]) (s2 := []) rfl rfl rfl ?_
      refine w_t (np := 57) (l2 := [some (eR a0), some (eI (a1)), some (eR a2), some (eI (v1)), some (eI (v11)), some (eI (v25)), none]) (s2 := [eI (0)]) rfl rfl rfl ?_
      refine w_t (np := 59) (l2 := [some (eR a0), some (eI (a1)), some (eR a2), some (eI (v1)), some (eI (v11)), some (eI (v25)), some (eI (0))]) (s2 := []) rfl rfl rfl ?_
      have hL59 : ∀ (n28 : Nat) (m32 : eM) (i30 : Int), SI g m32 → Fr l_302 0 0 g μ m32 → (0 ≤ i30 ∧ i30 ≤ 4) → m32.1 a0 43 = ((v4 : Nat) : Int) → m32.1 v4 (v8).toNat = v11 → m32.1 v4 (v14).toNat = v17 → m32.1 v4 (v1).toNat = v21 → n28 = (4 - i30).toNat → ex_q (dt_fg L ρ) rc (d + 2, (302, 59, [some (eR a0), some (eI (a1)), some (eR a2), some (eI (v1)), some (eI (v11)), some (eI (v25)), some (eI (i30))], []), f :: F, m32) := by
        intro n28
        induction n28 using Nat.strongRecOn with
        | _ n28 ih29 =>
        intro m32 i30 I33 F34 b31 k35 k36 k37 k38 hn39
        refine w_t (np := 61) (l2 := [some (eR a0), some (eI (a1)), some (eR a2), some (eI (v1)), some (eI (v11)), some (eI (v25)), some (eI (i30))]) (s2 := [eI (i30)]) rfl rfl rfl ?_
        refine w_t (np := 62) (l2 := [some (eR a0), some (eI (a1)), some (eR a2), some (eI (v1)), some (eI (v11)), some (eI (v25)), some (eI (i30))]) (s2 := [eI (4), eI (i30)]) rfl rfl rfl ?_
        refine b_cge (t1 := 149) (t2 := 65) rfl rfl rfl (ev_w_in (by omega) (by omega)) rfl (fun g40 => ?_) (fun g40 => ?_)
        · have b41 : 4 ≤ i30 ∧ i30 ≤ 4 := by omega
          exact v_rv rfl rfl (K m32 I33 F34)
        · have b41 : 0 ≤ i30 ∧ i30 ≤ 3 := by omega
          refine w_t (np := 66) (l2 := [some (eR a0), some (eI (a1)), some (eR a2), some (eI (v1)), some (eI (v11)), some (eI (v25)), some (eI (i30))]) (s2 := [eR a2]) rfl (s_an rfl (pos_g I33 gA2 (by decide))) rfl ?_
          refine w_t (np := 68) (l2 := [some (eR a0), some (eI (a1)), some (eR a2), some (eI (v1)), some (eI (v11)), some (eI (v25)), some (eI (i30))]) (s2 := [eI (i30), eR a2]) rfl rfl rfl ?_
          refine w_t (np := 69) (l2 := [some (eR a0), some (eI (a1)), some (eR a2), some (eI (v1)), some (eI (v11)), some (eI (v25)), some (eI (i30))]) (s2 := [eR a0, eI (i30), eR a2]) rfl (s_an rfl (pos_g I33 gA0 (by decide))) rfl ?_
          refine w_gf (np := 72) (v := eR v4) rfl rfl (I33.kd gA0 (by decide) (n := 69) rfl) (by rw [k35]; rfl) ?_
          refine w_t (np := 73) (l2 := [some (eR a0), some (eI (a1)), some (eR a2), some (eI (v1)), some (eI (v11)), some (eI (v25)), some (eI (i30))]) (s2 := [eI (v1), eR v4, eI (i30), eR a2]) rfl rfl rfl ?_
          refine w_t (np := 74) (l2 := [some (eR a0), some (eI (a1)), some (eR a2), some (eI (v1)), some (eI (v11)), some (eI (v25)), some (eI (i30))]) (s2 := [eI (1), eI (v1), eR v4, eI (i30), eR a2]) rfl rfl rfl ?_
          obtain ⟨v41, e42⟩ : ∃ zz : Int, zz = (v1) + (1) := ⟨_, rfl⟩
          have b43 : 1 ≤ v41 ∧ v41 ≤ 162 := by omega
          refine w_t (np := 75) (l2 := [some (eR a0), some (eI (a1)), some (eR a2), some (eI (v1)), some (eI (v11)), some (eI (v25)), some (eI (i30))]) (s2 := [eI (v41), eR v4, eI (i30), eR a2]) rfl (b_iadd (by rw [← e42]; exact ev_w_in (by omega) (by omega))) rfl ?_
          refine w_t (np := 77) (l2 := [some (eR a0), some (eI (a1)), some (eR a2), some (eI (v1)), some (eI (v11)), some (eI (v25)), some (eI (i30))]) (s2 := [eI (i30), eI (v41), eR v4, eI (i30), eR a2]) rfl rfl rfl ?_
          obtain ⟨v44, e45⟩ : ∃ zz : Int, zz = (v41) + (i30) := ⟨_, rfl⟩
          have b46 : 1 ≤ v44 ∧ v44 ≤ 165 := by omega
          refine w_t (np := 78) (l2 := [some (eR a0), some (eI (a1)), some (eR a2), some (eI (v1)), some (eI (v11)), some (eI (v25)), some (eI (i30))]) (s2 := [eI (v44), eR v4, eI (i30), eR a2]) rfl (b_iadd (by rw [← e45]; exact ev_w_in (by omega) (by omega))) rfl ?_
          refine j_al (np := 79) rfl rfl I33 b6 (by decide) (n := 168) rfl rfl (lo := -2147483648) (hi := 2147483647) (fun _ => rfl) (by omega) (by omega) ?_
          intro v47 e48 b49
          refine j_as (np := 80) rfl rfl I33 gA2 (by decide) (n := 16) rfl rfl (lo := -2147483648) (hi := 2147483647) (fun _ => rfl) (by omega) (by omega) (by omega) ?_
          intro m50 I51 W52
          have F53 : Fr l_302 0 0 g μ m50 := F34.v W52 gA2 rfl rfl
          refine w_t (np := 81) (l2 := [some (eR a0), some (eI (a1)), some (eR a2), some (eI (v1)), some (eI (v11)), some (eI (v25)), some (eI (i30))]) (s2 := [eR a2]) rfl (s_an rfl (pos_g I51 gA2 (by decide))) rfl ?_
          refine w_t (np := 82) (l2 := [some (eR a0), some (eI (a1)), some (eR a2), some (eI (v1)), some (eI (v11)), some (eI (v25)), some (eI (i30))]) (s2 := [eI (4), eR a2]) rfl rfl rfl ?_
          refine w_t (np := 84) (l2 := [some (eR a0), some (eI (a1)), some (eR a2), some (eI (v1)), some (eI (v11)), some (eI (v25)), some (eI (i30))]) (s2 := [eI (i30), eI (4), eR a2]) rfl rfl rfl ?_
          obtain ⟨v54, e55⟩ : ∃ zz : Int, zz = (4) + (i30) := ⟨_, rfl⟩
          have b56 : 4 ≤ v54 ∧ v54 ≤ 7 := by omega
          refine w_t (np := 85) (l2 := [some (eR a0), some (eI (a1)), some (eR a2), some (eI (v1)), some (eI (v11)), some (eI (v25)), some (eI (i30))]) (s2 := [eI (v54), eR a2]) rfl (b_iadd (by rw [← e55]; exact ev_w_in (by omega) (by omega))) rfl ?_
          refine w_t (np := 86) (l2 := [some (eR a0), some (eI (a1)), some (eR a2), some (eI (v1)), some (eI (v11)), some (eI (v25)), some (eI (i30))]) (s2 := [eR a2, eI (v54), eR a2]) rfl (s_an rfl (pos_g I51 gA2 (by decide))) rfl ?_
          refine w_t (np := 88) (l2 := [some (eR a0), some (eI (a1)), some (eR a2), some (eI (v1)), some (eI (v11)), some (eI (v25)), some (eI (i30))]) (s2 := [eI (i30), eR a2, eI (v54), eR a2]) rfl rfl rfl ?_
          refine j_al (np := 89) rfl rfl I51 gA2 (by decide) (n := 16) rfl rfl (lo := -2147483648) (hi := 2147483647) (fun _ => rfl) (by omega) (by omega) ?_
          intro v57 e58 b59
          refine w_t (np := 91) (l2 := [some (eR a0), some (eI (a1)), some (eR a2), some (eI (v1)), some (eI (v11)), some (eI (v25)), some (eI (i30))]) (s2 := [eI (v11), eI (v57), eI (v54), eR a2]) rfl rfl rfl ?_
          refine w_t (np := 93) (l2 := [some (eR a0), some (eI (a1)), some (eR a2), some (eI (v1)), some (eI (v11)), some (eI (v25)), some (eI (i30))]) (s2 := [eI (i30), eI (v11), eI (v57), eI (v54), eR a2]) rfl rfl rfl ?_
          refine w_cu (np := 96) (as := [eI (v11), eI (i30)]) (l2 := [some (eI (v11)), some (eI (i30))]) (rest := [eI (v57), eI (v54), eR a2]) rfl rfl rfl (Nat.ble_eq.mp rfl) rfl rfl rfl rfl ?_
          refine s_218 (a0 := v11) (a1 := i30) I51 (by omega) (by omega) ?_
          intro v60 b61
          show ex_q (dt_fg L ρ) rc (d + 2, (302, 96, [some (eR a0), some (eI (a1)), some (eR a2), some (eI (v1)), some (eI (v11)), some (eI (v25)), some (eI (i30))], [eI (v60), eI (v57), eI (v54), eR a2]), f :: F, m50)
          obtain ⟨v62, e63, b64⟩ : ∃ zz : Int, ev_w ((v57) + (v60)) = zz ∧ (-2147483648 ≤ zz ∧ zz ≤ 2147483647) := ⟨_, rfl, hw_bd _⟩
          refine w_t (np := 97) (l2 := [some (eR a0), some (eI (a1)), some (eR a2), some (eI (v1)), some (eI (v11)), some (eI (v25)), some (eI (i30))]) (s2 := [eI (v62), eI (v54), eR a2]) rfl (b_iadd e63) rfl ?_
          refine j_as (np := 98) rfl rfl I51 gA2 (by decide) (n := 16) rfl rfl (lo := -2147483648) (hi := 2147483647) (fun _ => rfl) (by omega) (by omega) (by omega) ?_
          intro m65 I66 W67
          have F68 : Fr l_302 0 0 g μ m65 := F53.v W67 gA2 rfl rfl
          refine w_t (np := 99) (l2 := [some (eR a0), some (eI (a1)), some (eR a2), some (eI (v1)), some (eI (v11)), some (eI (v25)), some (eI (i30))]) (s2 := [eR a2]) rfl (s_an rfl (pos_g I66 gA2 (by decide))) rfl ?_
          refine w_t (np := 101) (l2 := [some (eR a0), some (eI (a1)), some (eR a2), some (eI (v1)), some (eI (v11)), some (eI (v25)), some (eI (i30))]) (s2 := [eI (12), eR a2]) rfl rfl rfl ?_
          refine w_t (np := 103) (l2 := [some (eR a0), some (eI (a1)), some (eR a2), some (eI (v1)), some (eI (v11)), some (eI (v25)), some (eI (i30))]) (s2 := [eI (i30), eI (12), eR a2]) rfl rfl rfl ?_
          obtain ⟨v69, e70⟩ : ∃ zz : Int, zz = (12) + (i30) := ⟨_, rfl⟩
          have b71 : 12 ≤ v69 ∧ v69 ≤ 15 := by omega
          refine w_t (np := 104) (l2 := [some (eR a0), some (eI (a1)), some (eR a2), some (eI (v1)), some (eI (v11)), some (eI (v25)), some (eI (i30))]) (s2 := [eI (v69), eR a2]) rfl (b_iadd (by rw [← e70]; exact ev_w_in (by omega) (by omega))) rfl ?_
          refine w_t (np := 105) (l2 := [some (eR a0), some (eI (a1)), some (eR a2), some (eI (v1)), some (eI (v11)), some (eI (v25)), some (eI (i30))]) (s2 := [eR a2, eI (v69), eR a2]) rfl (s_an rfl (pos_g I66 gA2 (by decide))) rfl ?_
          refine w_t (np := 107) (l2 := [some (eR a0), some (eI (a1)), some (eR a2), some (eI (v1)), some (eI (v11)), some (eI (v25)), some (eI (i30))]) (s2 := [eI (i30), eR a2, eI (v69), eR a2]) rfl rfl rfl ?_
          refine j_al (np := 108) rfl rfl I66 gA2 (by decide) (n := 16) rfl rfl (lo := -2147483648) (hi := 2147483647) (fun _ => rfl) (by omega) (by omega) ?_
          intro v72 e73 b74
          refine w_t (np := 110) (l2 := [some (eR a0), some (eI (a1)), some (eR a2), some (eI (v1)), some (eI (v11)), some (eI (v25)), some (eI (i30))]) (s2 := [eI (v25), eI (v72), eI (v69), eR a2]) rfl rfl rfl ?_
          refine w_t (np := 112) (l2 := [some (eR a0), some (eI (a1)), some (eR a2), some (eI (v1)), some (eI (v11)), some (eI (v25)), some (eI (i30))]) (s2 := [eI (i30), eI (v25), eI (v72), eI (v69), eR a2]) rfl rfl rfl ?_
          refine w_cu (np := 115) (as := [eI (v25), eI (i30)]) (l2 := [some (eI (v25)), some (eI (i30))]) (rest := [eI (v72), eI (v69), eR a2]) rfl rfl rfl (Nat.ble_eq.mp rfl) rfl rfl rfl rfl ?_
          refine s_218 (a0 := v25) (a1 := i30) I66 (by omega) (by omega) ?_
          intro v75 b76
          show ex_q (dt_fg L ρ) rc (d + 2, (302, 115, [some (eR a0), some (eI (a1)), some (eR a2), some (eI (v1)), some (eI (v11)), some (eI (v25)), some (eI (i30))], [eI (v75), eI (v72), eI (v69), eR a2]), f :: F, m65)
          obtain ⟨v77, e78, b79⟩ : ∃ zz : Int, ev_w ((v72) + (v75)) = zz ∧ (-2147483648 ≤ zz ∧ zz ≤ 2147483647) := ⟨_, rfl, hw_bd _⟩
          refine w_t (np := 116) (l2 := [some (eR a0), some (eI (a1)), some (eR a2), some (eI (v1)), some (eI (v11)), some (eI (v25)), some (eI (i30))]) (s2 := [eI (v77), eI (v69), eR a2]) rfl (b_iadd e78) rfl ?_
          refine j_as (np := 117) rfl rfl I66 gA2 (by decide) (n := 16) rfl rfl (lo := -2147483648) (hi := 2147483647) (fun _ => rfl) (by omega) (by omega) (by omega) ?_
          intro m80 I81 W82
          have F83 : Fr l_302 0 0 g μ m80 := F68.v W82 gA2 rfl rfl
          refine w_t (np := 118) (l2 := [some (eR a0), some (eI (a1)), some (eR a2), some (eI (v1)), some (eI (v11)), some (eI (v25)), some (eI (i30))]) (s2 := [eR a2]) rfl (s_an rfl (pos_g I81 gA2 (by decide))) rfl ?_
          refine w_t (np := 120) (l2 := [some (eR a0), some (eI (a1)), some (eR a2), some (eI (v1)), some (eI (v11)), some (eI (v25)), some (eI (i30))]) (s2 := [eI (8), eR a2]) rfl rfl rfl ?_
          refine w_t (np := 122) (l2 := [some (eR a0), some (eI (a1)), some (eR a2), some (eI (v1)), some (eI (v11)), some (eI (v25)), some (eI (i30))]) (s2 := [eI (i30), eI (8), eR a2]) rfl rfl rfl ?_
          obtain ⟨v84, e85⟩ : ∃ zz : Int, zz = (8) + (i30) := ⟨_, rfl⟩
          have b86 : 8 ≤ v84 ∧ v84 ≤ 11 := by omega
          refine w_t (np := 123) (l2 := [some (eR a0), some (eI (a1)), some (eR a2), some (eI (v1)), some (eI (v11)), some (eI (v25)), some (eI (i30))]) (s2 := [eI (v84), eR a2]) rfl (b_iadd (by rw [← e85]; exact ev_w_in (by omega) (by omega))) rfl ?_
          refine w_t (np := 124) (l2 := [some (eR a0), some (eI (a1)), some (eR a2), some (eI (v1)), some (eI (v11)), some (eI (v25)), some (eI (i30))]) (s2 := [eR a2, eI (v84), eR a2]) rfl (s_an rfl (pos_g I81 gA2 (by decide))) rfl ?_
          refine w_t (np := 125) (l2 := [some (eR a0), some (eI (a1)), some (eR a2), some (eI (v1)), some (eI (v11)), some (eI (v25)), some (eI (i30))]) (s2 := [eI (4), eR a2, eI (v84), eR a2]) rfl rfl rfl ?_
          refine w_t (np := 127) (l2 := [some (eR a0), some (eI (a1)), some (eR a2), some (eI (v1)), some (eI (v11)), some (eI (v25)), some (eI (i30))]) (s2 := [eI (i30), eI (4), eR a2, eI (v84), eR a2]) rfl rfl rfl ?_
          obtain ⟨v87, e88⟩ : ∃ zz : Int, zz = (4) + (i30) := ⟨_, rfl⟩
          have b89 : 4 ≤ v87 ∧ v87 ≤ 7 := by omega
          refine w_t (np := 128) (l2 := [some (eR a0), some (eI (a1)), some (eR a2), some (eI (v1)), some (eI (v11)), some (eI (v25)), some (eI (i30))]) (s2 := [eI (v87), eR a2, eI (v84), eR a2]) rfl (b_iadd (by rw [← e88]; exact ev_w_in (by omega) (by omega))) rfl ?_
          refine j_al (np := 129) rfl rfl I81 gA2 (by decide) (n := 16) rfl rfl (lo := -2147483648) (hi := 2147483647) (fun _ => rfl) (by omega) (by omega) ?_
          intro v90 e91 b92
          refine w_t (np := 130) (l2 := [some (eR a0), some (eI (a1)), some (eR a2), some (eI (v1)), some (eI (v11)), some (eI (v25)), some (eI (i30))]) (s2 := [eR a2, eI (v90), eI (v84), eR a2]) rfl (s_an rfl (pos_g I81 gA2 (by decide))) rfl ?_
          refine w_t (np := 132) (l2 := [some (eR a0), some (eI (a1)), some (eR a2), some (eI (v1)), some (eI (v11)), some (eI (v25)), some (eI (i30))]) (s2 := [eI (12), eR a2, eI (v90), eI (v84), eR a2]) rfl rfl rfl ?_
          refine w_t (np := 134) (l2 := [some (eR a0), some (eI (a1)), some (eR a2), some (eI (v1)), some (eI (v11)), some (eI (v25)), some (eI (i30))]) (s2 := [eI (i30), eI (12), eR a2, eI (v90), eI (v84), eR a2]) rfl rfl rfl ?_
          obtain ⟨v93, e94⟩ : ∃ zz : Int, zz = (12) + (i30) := ⟨_, rfl⟩
          have b95 : 12 ≤ v93 ∧ v93 ≤ 15 := by omega
          refine w_t (np := 135) (l2 := [some (eR a0), some (eI (a1)), some (eR a2), some (eI (v1)), some (eI (v11)), some (eI (v25)), some (eI (i30))]) (s2 := [eI (v93), eR a2, eI (v90), eI (v84), eR a2]) rfl (b_iadd (by rw [← e94]; exact ev_w_in (by omega) (by omega))) rfl ?_
          refine j_al (np := 136) rfl rfl I81 gA2 (by decide) (n := 16) rfl rfl (lo := -2147483648) (hi := 2147483647) (fun _ => rfl) (by omega) (by omega) ?_
          intro v96 e97 b98
          obtain ⟨v99, e100, b101⟩ : ∃ zz : Int, ev_w ((v90) + (v96)) = zz ∧ (-2147483648 ≤ zz ∧ zz ≤ 2147483647) := ⟨_, rfl, hw_bd _⟩
          refine w_t (np := 137) (l2 := [some (eR a0), some (eI (a1)), some (eR a2), some (eI (v1)), some (eI (v11)), some (eI (v25)), some (eI (i30))]) (s2 := [eI (v99), eI (v84), eR a2]) rfl (b_iadd e100) rfl ?_
          refine w_t (np := 138) (l2 := [some (eR a0), some (eI (a1)), some (eR a2), some (eI (v1)), some (eI (v11)), some (eI (v25)), some (eI (i30))]) (s2 := [eR a2, eI (v99), eI (v84), eR a2]) rfl (s_an rfl (pos_g I81 gA2 (by decide))) rfl ?_
          refine w_t (np := 140) (l2 := [some (eR a0), some (eI (a1)), some (eR a2), some (eI (v1)), some (eI (v11)), some (eI (v25)), some (eI (i30))]) (s2 := [eI (i30), eR a2, eI (v99), eI (v84), eR a2]) rfl rfl rfl ?_
          refine j_al (np := 141) rfl rfl I81 gA2 (by decide) (n := 16) rfl rfl (lo := -2147483648) (hi := 2147483647) (fun _ => rfl) (by omega) (by omega) ?_
          intro v102 e103 b104
          obtain ⟨v105, e106, b107⟩ : ∃ zz : Int, ev_w ((v99) - (v102)) = zz ∧ (-2147483648 ≤ zz ∧ zz ≤ 2147483647) := ⟨_, rfl, hw_bd _⟩
          refine w_t (np := 142) (l2 := [some (eR a0), some (eI (a1)), some (eR a2), some (eI (v1)), some (eI (v11)), some (eI (v25)), some (eI (i30))]) (s2 := [eI (v105), eI (v84), eR a2]) rfl (b_isub e106) rfl ?_
          refine j_as (np := 143) rfl rfl I81 gA2 (by decide) (n := 16) rfl rfl (lo := -2147483648) (hi := 2147483647) (fun _ => rfl) (by omega) (by omega) (by omega) ?_
          intro m108 I109 W110
          have F111 : Fr l_302 0 0 g μ m108 := F83.v W110 gA2 rfl rfl
          obtain ⟨v112, e113⟩ : ∃ zz : Int, zz = (i30) + (1) := ⟨_, rfl⟩
          have b114 : 1 ≤ v112 ∧ v112 ≤ 4 := by omega
          refine w_t (np := 146) (l2 := [some (eR a0), some (eI (a1)), some (eR a2), some (eI (v1)), some (eI (v11)), some (eI (v25)), some (eI (v112))]) (s2 := []) rfl (b_iinc rfl (by rw [← e113]; exact ev_w_in (by omega) (by omega)) rfl) rfl ?_
          refine w_go (t1 := 59) rfl rfl ?_
          exact ih29 (4 - (v112)).toNat (by omega) m108 (v112) I109 F111 (by omega) (W110.addr (W82.addr (W67.addr (W52.addr k35 gA2 gA0 (by decide)) gA2 gA0 (by decide)) gA2 gA0 (by decide)) gA2 gA0 (by decide)) (W110.addr (W82.addr (W67.addr (W52.addr k36 gA2 b6 (by decide)) gA2 b6 (by decide)) gA2 b6 (by decide)) gA2 b6 (by decide)) (W110.addr (W82.addr (W67.addr (W52.addr k37 gA2 b6 (by decide)) gA2 b6 (by decide)) gA2 b6 (by decide)) gA2 b6 (by decide)) (W110.addr (W82.addr (W67.addr (W52.addr k38 gA2 b6 (by decide)) gA2 b6 (by decide)) gA2 b6 (by decide)) gA2 b6 (by decide))    rfl
      exact hL59 _ μ (0) hI F0 (by decide) e5 e12 e18 e22    rfl
