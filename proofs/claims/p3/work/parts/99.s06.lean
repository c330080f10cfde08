/-! methods, walked -/
def l_191 : List Nat := [270]
theorem s_191 {L : Nat} {ρ : Nat → Int} {rc : eQ} {d : Nat} {f : eFr} {F : List eFr} {μ : eM} {g : Nat → Nat} {a0 : Nat} {a1 : Int} {a2 : Int} (hI : SI g μ) (gA0 : g a0 = 1) (bA1 : -2147483648 ≤ a1 ∧ a1 ≤ 2147483647) (bA2 : -2147483648 ≤ a2 ∧ a2 ≤ 2147483647) (K : ∀ (μ2 : eM) (v : Int), SI g μ2 → Fr l_191 0 0 g μ μ2 → (-2147483648 ≤ v ∧ v ≤ 2147483647) → ex_q (dt_fg L ρ) rc (d + 3, (f.1, f.2.1, f.2.2.1, eI v :: f.2.2.2), F, μ2)) : ex_q (dt_fg L ρ) rc (d + 2, (191, 0, [some (eR a0), some (eI (a1)), some (eI (a2))], []), f :: F, μ) := by
  have F0 : Fr l_191 0 0 g μ μ := Fr.r
  refine w_t (np := 1) (l2 := [some (eR a0), some (eI (a1)), some (eI (a2))]) (s2 := [eI (a2)]) rfl rfl rfl ?_
  refine b_ilt (t1 := 9) (t2 := 4) rfl rfl rfl (ev_w_in (by omega) (by omega)) (fun g1 => ?_) (fun g1 => ?_)
  · have b2 : -2147483648 ≤ a2 ∧ a2 ≤ -1 := by omega
    refine w_t (np := 10) (l2 := [some (eR a0), some (eI (a1)), some (eI (a2))]) (s2 := [eR a0]) rfl (s_an rfl (pos_g hI gA0 (by decide))) rfl ?_
    refine w_t (np := 11) (l2 := [some (eR a0), some (eI (a1)), some (eI (a2))]) (s2 := [eI (1), eR a0]) rfl rfl rfl ?_
    refine w_cw (np := 14) (as := [eI (1)]) (l2 := [some (eR a0), some (eI (1))]) (rest := []) rfl rfl rfl (Nat.ble_eq.mp rfl) rfl rfl rfl (hI.kd gA0 (by decide) (n := 14) rfl) rfl ?_
    refine w_t (np := 1) (l2 := [some (eR a0), some (eI (1))]) (s2 := [eR a0]) rfl (s_an rfl (pos_g hI gA0 (by decide))) rfl ?_
    refine w_t (np := 2) (l2 := [some (eR a0), some (eI (1))]) (s2 := [eI (1), eR a0]) rfl rfl rfl ?_
    refine j_pf (np := 5) (w := 1) rfl rfl hI gA0 (by decide) (n := 14) rfl rfl (hO_i (lo := -2147483648) (hi := 2147483647) rfl (by decide)) ?_
    intro m2 I3 W4
    have F5 : Fr l_191 0 0 g μ m2 := F0.w W4 gA0 rfl
    refine w_t (np := 6) (l2 := [some (eR a0), some (eI (1))]) (s2 := [eI (-1)]) rfl rfl rfl ?_
    refine b_ri rfl rfl ?_
    show ex_q (dt_fg L ρ) rc (d + 2, (191, 14, [some (eR a0), some (eI (a1)), some (eI (a2))], [eI (-1)]), f :: F, m2)
    exact b_ri rfl rfl (K m2 (-1) I3 F5 (by decide))
  · have b2 : 0 ≤ a2 ∧ a2 ≤ 2147483647 := by omega
    refine w_t (np := 5) (l2 := [some (eR a0), some (eI (a1)), some (eI (a2))]) (s2 := [eI (a2)]) rfl rfl rfl ?_
    refine w_t (np := 6) (l2 := [some (eR a0), some (eI (a1)), some (eI (a2))]) (s2 := [eI (3), eI (a2)]) rfl rfl rfl ?_
    refine b_cle (t1 := 15) (t2 := 9) rfl rfl rfl (ev_w_in (by omega) (by omega)) rfl (fun g2 => ?_) (fun g2 => ?_)
    · have b3 : 0 ≤ a2 ∧ a2 ≤ 3 := by omega
      refine w_t (np := 16) (l2 := [some (eR a0), some (eI (a1)), some (eI (a2))]) (s2 := [eR a0]) rfl (s_an rfl (pos_g hI gA0 (by decide))) rfl ?_
      refine j_gr (np := 19) rfl rfl hI gA0 (by decide) (n := 14) rfl rfl rfl ?_
      intro v3 e4 b5 z6
      have b5 : g v3 = 29 := Nat.eq_of_beq_eq_true b5
      refine w_t (np := 20) (l2 := [some (eR a0), some (eI (a1)), some (eI (a2))]) (s2 := [eI (a1), eR v3]) rfl rfl rfl ?_
      refine w_cw (np := 23) (as := [eI (a1)]) (l2 := [some (eR v3), some (eI (a1))]) (rest := []) rfl rfl rfl (Nat.ble_eq.mp rfl) rfl rfl rfl (hI.kd b5 (by decide) (n := 7) rfl) rfl ?_
      refine w_t (np := 1) (l2 := [some (eR v3), some (eI (a1))]) (s2 := [eI (a1)]) rfl rfl rfl ?_
      refine b_ilt (t1 := 12) (t2 := 4) rfl rfl rfl (ev_w_in (by omega) (by omega)) (fun g7 => ?_) (fun g7 => ?_)
      · have b8 : -2147483648 ≤ a1 ∧ a1 ≤ -1 := by omega
        refine w_t (np := 13) (l2 := [some (eR v3), some (eI (a1))]) (s2 := [eI (1)]) rfl rfl rfl ?_
        refine w_go (t1 := 17) rfl rfl ?_
        refine b_rz rfl rfl (Or.inr rfl) ?_
        show ex_q (dt_fg L ρ) rc (d + 2, (191, 23, [some (eR a0), some (eI (a1)), some (eI (a2))], [eI (1)]), f :: F, μ)
        refine b_ieq (t1 := 32) (t2 := 26) rfl rfl rfl rfl (fun g8 => absurd g8 (by decide)) (fun g8 => ?_)
        refine w_t (np := 27) (l2 := [some (eR a0), some (eI (a1)), some (eI (a2))]) (s2 := [eR a0]) rfl (s_an rfl (pos_g hI gA0 (by decide))) rfl ?_
        refine w_t (np := 28) (l2 := [some (eR a0), some (eI (a1)), some (eI (a2))]) (s2 := [eI (2), eR a0]) rfl rfl rfl ?_
        refine w_cw (np := 31) (as := [eI (2)]) (l2 := [some (eR a0), some (eI (2))]) (rest := []) rfl rfl rfl (Nat.ble_eq.mp rfl) rfl rfl rfl (hI.kd gA0 (by decide) (n := 14) rfl) rfl ?_
        refine w_t (np := 1) (l2 := [some (eR a0), some (eI (2))]) (s2 := [eR a0]) rfl (s_an rfl (pos_g hI gA0 (by decide))) rfl ?_
        refine w_t (np := 2) (l2 := [some (eR a0), some (eI (2))]) (s2 := [eI (2), eR a0]) rfl rfl rfl ?_
        refine j_pf (np := 5) (w := 2) rfl rfl hI gA0 (by decide) (n := 14) rfl rfl (hO_i (lo := -2147483648) (hi := 2147483647) rfl (by decide)) ?_
        intro m9 I10 W11
        have F12 : Fr l_191 0 0 g μ m9 := F0.w W11 gA0 rfl
        refine w_t (np := 6) (l2 := [some (eR a0), some (eI (2))]) (s2 := [eI (-1)]) rfl rfl rfl ?_
        refine b_ri rfl rfl ?_
        show ex_q (dt_fg L ρ) rc (d + 2, (191, 31, [some (eR a0), some (eI (a1)), some (eI (a2))], [eI (-1)]), f :: F, m9)
        exact b_ri rfl rfl (K m9 (-1) I10 F12 (by decide))
      · have b8 : 0 ≤ a1 ∧ a1 ≤ 2147483647 := by omega
        refine w_t (np := 5) (l2 := [some (eR v3), some (eI (a1))]) (s2 := [eI (a1)]) rfl rfl rfl ?_
        refine w_t (np := 6) (l2 := [some (eR v3), some (eI (a1))]) (s2 := [eR v3, eI (a1)]) rfl (s_an rfl (pos_g hI b5 (by decide))) rfl ?_
        refine j_gi (np := 9) rfl rfl rfl hI b5 (by decide) (n := 7) rfl rfl (lo := 0) (hi := 24) rfl ?_
        intro v8 e9 b10
        refine b_clt (t1 := 16) (t2 := 12) rfl rfl rfl (ev_w_in (by omega) (by omega)) (ev_w_in (by omega) (by omega)) (fun g11 => ?_) (fun g11 => ?_)
        · have b12 : 0 ≤ a1 ∧ a1 ≤ 23 := by omega
          have b13 : 1 ≤ v8 ∧ v8 ≤ 24 := by omega
          refine w_t (np := 17) (l2 := [some (eR v3), some (eI (a1))]) (s2 := [eI (0)]) rfl rfl rfl ?_
          refine b_rz rfl rfl (Or.inl rfl) ?_
          show ex_q (dt_fg L ρ) rc (d + 2, (191, 23, [some (eR a0), some (eI (a1)), some (eI (a2))], [eI (0)]), f :: F, μ)
          refine b_ieq (t1 := 32) (t2 := 26) rfl rfl rfl rfl (fun g12 => ?_) (fun g12 => absurd g12 (by decide))
          refine w_t (np := 33) (l2 := [some (eR a0), some (eI (a1)), some (eI (a2))]) (s2 := [eR a0]) rfl (s_an rfl (pos_g hI gA0 (by decide))) rfl ?_
          refine w_t (np := 34) (l2 := [some (eR a0), some (eI (a1)), some (eI (a2))]) (s2 := [eR a0, eR a0]) rfl (s_an rfl (pos_g hI gA0 (by decide))) rfl ?_
          refine w_gf (np := 37) (v := eR v3) rfl rfl (hI.kd gA0 (by decide) (n := 14) rfl) (by rw [e4]; rfl) ?_
          refine w_t (np := 38) (l2 := [some (eR a0), some (eI (a1)), some (eI (a2))]) (s2 := [eR a0, eR v3, eR a0]) rfl (s_an rfl (pos_g hI gA0 (by decide))) rfl ?_
          refine w_gf (np := 41) (v := eR v3) rfl rfl (hI.kd gA0 (by decide) (n := 14) rfl) (by rw [e4]; rfl) ?_
          refine w_t (np := 42) (l2 := [some (eR a0), some (eI (a1)), some (eI (a2))]) (s2 := [eI (a1), eR v3, eR v3, eR a0]) rfl rfl rfl ?_
          refine w_t (np := 43) (l2 := [some (eR a0), some (eI (a1)), some (eI (a2))]) (s2 := [eI (a2), eI (a1), eR v3, eR v3, eR a0]) rfl rfl rfl ?_
          refine w_cw (np := 46) (as := [eI (a1), eI (a2)]) (l2 := [some (eR v3), some (eI (a1)), some (eI (a2))]) (rest := [eR v3, eR a0]) rfl rfl rfl (Nat.ble_eq.mp rfl) rfl rfl rfl (hI.kd b5 (by decide) (n := 7) rfl) rfl ?_
          refine s_131 (a1 := a1) (a2 := a2) hI b5 (by omega) (by omega) ?_
          intro v13 b14
          show ex_q (dt_fg L ρ) rc (d + 2, (191, 46, [some (eR a0), some (eI (a1)), some (eI (a2))], [eJ (v13), eR v3, eR a0]), f :: F, μ)
          refine w_cw (np := 49) (as := [eJ (v13)]) (l2 := [some (eR v3), some (eJ (v13)), none, none]) (rest := [eR a0]) rfl rfl rfl (Nat.ble_eq.mp rfl) rfl rfl rfl (hI.kd b5 (by decide) (n := 7) rfl) rfl ?_
          refine s_133 hI b5 b14 ?_
          intro v15 b16
          show ex_q (dt_fg L ρ) rc (d + 2, (191, 49, [some (eR a0), some (eI (a1)), some (eI (a2))], [eI (v15), eR a0]), f :: F, μ)
          refine w_cw (np := 52) (as := [eI (v15)]) (l2 := [some (eR a0), some (eI (v15))]) (rest := []) rfl rfl rfl (Nat.ble_eq.mp rfl) rfl rfl rfl (hI.kd gA0 (by decide) (n := 14) rfl) rfl ?_
          refine w_t (np := 1) (l2 := [some (eR a0), some (eI (v15))]) (s2 := [eR a0]) rfl (s_an rfl (pos_g hI gA0 (by decide))) rfl ?_
          refine w_t (np := 2) (l2 := [some (eR a0), some (eI (v15))]) (s2 := [eI (0), eR a0]) rfl rfl rfl ?_
          refine j_pf (np := 5) (w := 0) rfl rfl hI gA0 (by decide) (n := 14) rfl rfl (hO_i (lo := -2147483648) (hi := 2147483647) rfl (by decide)) ?_
          intro m17 I18 W19
          have F20 : Fr l_191 0 0 g μ m17 := F0.w W19 gA0 rfl
          refine w_t (np := 6) (l2 := [some (eR a0), some (eI (v15))]) (s2 := [eI (v15)]) rfl rfl rfl ?_
          refine b_ri rfl rfl ?_
          show ex_q (dt_fg L ρ) rc (d + 2, (191, 52, [some (eR a0), some (eI (a1)), some (eI (a2))], [eI (v15)]), f :: F, m17)
          exact b_ri rfl rfl (K m17 (v15) I18 F20 (by omega))
        · refine w_t (np := 13) (l2 := [some (eR v3), some (eI (a1))]) (s2 := [eI (1)]) rfl rfl rfl ?_
          refine w_go (t1 := 17) rfl rfl ?_
          refine b_rz rfl rfl (Or.inr rfl) ?_
          show ex_q (dt_fg L ρ) rc (d + 2, (191, 23, [some (eR a0), some (eI (a1)), some (eI (a2))], [eI (1)]), f :: F, μ)
          refine b_ieq (t1 := 32) (t2 := 26) rfl rfl rfl rfl (fun g12 => absurd g12 (by decide)) (fun g12 => ?_)
          refine w_t (np := 27) (l2 := [some (eR a0), some (eI (a1)), some (eI (a2))]) (s2 := [eR a0]) rfl (s_an rfl (pos_g hI gA0 (by decide))) rfl ?_
          refine w_t (np := 28) (l2 := [some (eR a0), some (eI (a1)), some (eI (a2))]) (s2 := [eI (2), eR a0]) rfl rfl rfl ?_
          refine w_cw (np := 31) (as := [eI (2)]) (l2 := [some (eR a0), some (eI (2))]) (rest := []) rfl rfl rfl (Nat.ble_eq.mp rfl) rfl rfl rfl (hI.kd gA0 (by decide) (n := 14) rfl) rfl ?_
          refine w_t (np := 1) (l2 := [some (eR a0), some (eI (2))]) (s2 := [eR a0]) rfl (s_an rfl (pos_g hI gA0 (by decide))) rfl ?_
          refine w_t (np := 2) (l2 := [some (eR a0), some (eI (2))]) (s2 := [eI (2), eR a0]) rfl rfl rfl ?_
          refine j_pf (np := 5) (w := 2) rfl rfl hI gA0 (by decide) (n := 14) rfl rfl (hO_i (lo := -2147483648) (hi := 2147483647) rfl (by decide)) ?_
          intro m13 I14 W15
          have F16 : Fr l_191 0 0 g μ m13 := F0.w W15 gA0 rfl
          refine w_t (np := 6) (l2 := [some (eR a0), some (eI (2))]) (s2 := [eI (-1)]) rfl rfl rfl ?_
          refine b_ri rfl rfl ?_
          show ex_q (dt_fg L ρ) rc (d + 2, (191, 31, [some (eR a0), some (eI (a1)), some (eI (a2))], [eI (-1)]), f :: F, m13)
          exact b_ri rfl rfl (K m13 (-1) I14 F16 (by decide))
    · have b3 : 4 ≤ a2 ∧ a2 ≤ 2147483647 := by omega
      refine w_t (np := 10) (l2 := [some (eR a0), some (eI (a1)), some (eI (a2))]) (s2 := [eR a0]) rfl (s_an rfl (pos_g hI gA0 (by decide))) rfl ?_
      refine w_t (np := 11) (l2 := [some (eR a0), some (eI (a1)), some (eI (a2))]) (s2 := [eI (1), eR a0]) rfl rfl rfl ?_
      refine w_cw (np := 14) (as := [eI (1)]) (l2 := [some (eR a0), some (eI (1))]) (rest := []) rfl rfl rfl (Nat.ble_eq.mp rfl) rfl rfl rfl (hI.kd gA0 (by decide) (n := 14) rfl) rfl ?_
      refine w_t (np := 1) (l2 := [some (eR a0), some (eI (1))]) (s2 := [eR a0]) rfl (s_an rfl (pos_g hI gA0 (by decide))) rfl ?_
      refine w_t (np := 2) (l2 := [some (eR a0), some (eI (1))]) (s2 := [eI (1), eR a0]) rfl rfl rfl ?_
      refine j_pf (np := 5) (w := 1) rfl rfl hI gA0 (by decide) (n := 14) rfl rfl (hO_i (lo := -2147483648) (hi := 2147483647) rfl (by decide)) ?_
      intro m3 I4 W5
      have F6 : Fr l_191 0 0 g μ m3 := F0.w W5 gA0 rfl
      refine w_t (np := 6) (l2 := [some (eR a0), some (eI (1))]) (s2 := [eI (-1)]) rfl rfl rfl ?_
      refine b_ri rfl rfl ?_
      show ex_q (dt_fg L ρ) rc (d + 2, (191, 14, [some (eR a0), some (eI (a1)), some (eI (a2))], [eI (-1)]), f :: F, m3)
      exact b_ri rfl rfl (K m3 (-1) I4 F6 (by decide))
def l_197 : List Nat := [270]
theorem s_197 {L : Nat} {ρ : Nat → Int} {rc : eQ} {d : Nat} {f : eFr} {F : List eFr} {μ : eM} {g : Nat → Nat} {a0 : Nat} {a1 : Int} (hI : SI g μ) (gA0 : g a0 = 1) (bA1 : -2147483648 ≤ a1 ∧ a1 ≤ 2147483647) (K : ∀ (μ2 : eM) (v : Int), SI g μ2 → Fr l_197 0 0 g μ μ2 → (-2147483648 ≤ v ∧ v ≤ 2147483647) → ex_q (dt_fg L ρ) rc (d + 3, (f.1, f.2.1, f.2.2.1, eI v :: f.2.2.2), F, μ2)) : ex_q (dt_fg L ρ) rc (d + 2, (197, 0, [some (eR a0), some (eI (a1))], []), f :: F, μ) := by
  have F0 : Fr l_197 0 0 g μ μ := Fr.r
  refine w_t (np := 1) (l2 := [some (eR a0), some (eI (a1))]) (s2 := [eR a0]) rfl (s_an rfl (pos_g hI gA0 (by decide))) rfl ?_
  refine j_gr (np := 4) rfl rfl hI gA0 (by decide) (n := 14) rfl rfl rfl ?_
  intro v1 e2 b3 z4
  have b3 : g v1 = 29 := Nat.eq_of_beq_eq_true b3
  refine w_t (np := 5) (l2 := [some (eR a0), some (eI (a1))]) (s2 := [eI (a1), eR v1]) rfl rfl rfl ?_
  refine w_cw (np := 8) (as := [eI (a1)]) (l2 := [some (eR v1), some (eI (a1))]) (rest := []) rfl rfl rfl (Nat.ble_eq.mp rfl) rfl rfl rfl (hI.kd b3 (by decide) (n := 7) rfl) rfl ?_
  refine w_t (np := 1) (l2 := [some (eR v1), some (eI (a1))]) (s2 := [eI (a1)]) rfl rfl rfl ?_
  refine b_ilt (t1 := 12) (t2 := 4) rfl rfl rfl (ev_w_in (by omega) (by omega)) (fun g5 => ?_) (fun g5 => ?_)
  · have b6 : -2147483648 ≤ a1 ∧ a1 ≤ -1 := by omega
    refine w_t (np := 13) (l2 := [some (eR v1), some (eI (a1))]) (s2 := [eI (1)]) rfl rfl rfl ?_
    refine w_go (t1 := 17) rfl rfl ?_
    refine b_rz rfl rfl (Or.inr rfl) ?_
    show ex_q (dt_fg L ρ) rc (d + 2, (197, 8, [some (eR a0), some (eI (a1))], [eI (1)]), f :: F, μ)
    refine b_ieq (t1 := 17) (t2 := 11) rfl rfl rfl rfl (fun g6 => absurd g6 (by decide)) (fun g6 => ?_)
    refine w_t (np := 12) (l2 := [some (eR a0), some (eI (a1))]) (s2 := [eR a0]) rfl (s_an rfl (pos_g hI gA0 (by decide))) rfl ?_
    refine w_t (np := 13) (l2 := [some (eR a0), some (eI (a1))]) (s2 := [eI (2), eR a0]) rfl rfl rfl ?_
    refine w_cw (np := 16) (as := [eI (2)]) (l2 := [some (eR a0), some (eI (2))]) (rest := []) rfl rfl rfl (Nat.ble_eq.mp rfl) rfl rfl rfl (hI.kd gA0 (by decide) (n := 14) rfl) rfl ?_
    refine w_t (np := 1) (l2 := [some (eR a0), some (eI (2))]) (s2 := [eR a0]) rfl (s_an rfl (pos_g hI gA0 (by decide))) rfl ?_
    refine w_t (np := 2) (l2 := [some (eR a0), some (eI (2))]) (s2 := [eI (2), eR a0]) rfl rfl rfl ?_
    refine j_pf (np := 5) (w := 2) rfl rfl hI gA0 (by decide) (n := 14) rfl rfl (hO_i (lo := -2147483648) (hi := 2147483647) rfl (by decide)) ?_
    intro m7 I8 W9
    have F10 : Fr l_197 0 0 g μ m7 := F0.w W9 gA0 rfl
    refine w_t (np := 6) (l2 := [some (eR a0), some (eI (2))]) (s2 := [eI (-1)]) rfl rfl rfl ?_
    refine b_ri rfl rfl ?_
    show ex_q (dt_fg L ρ) rc (d + 2, (197, 16, [some (eR a0), some (eI (a1))], [eI (-1)]), f :: F, m7)
    exact b_ri rfl rfl (K m7 (-1) I8 F10 (by decide))
  · have b6 : 0 ≤ a1 ∧ a1 ≤ 2147483647 := by omega
    refine w_t (np := 5) (l2 := [some (eR v1), some (eI (a1))]) (s2 := [eI (a1)]) rfl rfl rfl ?_
    refine w_t (np := 6) (l2 := [some (eR v1), some (eI (a1))]) (s2 := [eR v1, eI (a1)]) rfl (s_an rfl (pos_g hI b3 (by decide))) rfl ?_
    refine j_gi (np := 9) rfl rfl rfl hI b3 (by decide) (n := 7) rfl rfl (lo := 0) (hi := 24) rfl ?_
    intro v6 e7 b8
    refine b_clt (t1 := 16) (t2 := 12) rfl rfl rfl (ev_w_in (by omega) (by omega)) (ev_w_in (by omega) (by omega)) (fun g9 => ?_) (fun g9 => ?_)
    · have b10 : 0 ≤ a1 ∧ a1 ≤ 23 := by omega
      have b11 : 1 ≤ v6 ∧ v6 ≤ 24 := by omega
      refine w_t (np := 17) (l2 := [some (eR v1), some (eI (a1))]) (s2 := [eI (0)]) rfl rfl rfl ?_
      refine b_rz rfl rfl (Or.inl rfl) ?_
      show ex_q (dt_fg L ρ) rc (d + 2, (197, 8, [some (eR a0), some (eI (a1))], [eI (0)]), f :: F, μ)
      refine b_ieq (t1 := 17) (t2 := 11) rfl rfl rfl rfl (fun g10 => ?_) (fun g10 => absurd g10 (by decide))
      refine w_t (np := 18) (l2 := [some (eR a0), some (eI (a1))]) (s2 := [eR a0]) rfl (s_an rfl (pos_g hI gA0 (by decide))) rfl ?_
      refine w_t (np := 19) (l2 := [some (eR a0), some (eI (a1))]) (s2 := [eR a0, eR a0]) rfl (s_an rfl (pos_g hI gA0 (by decide))) rfl ?_
      refine w_gf (np := 22) (v := eR v1) rfl rfl (hI.kd gA0 (by decide) (n := 14) rfl) (by rw [e2]; rfl) ?_
      refine w_t (np := 23) (l2 := [some (eR a0), some (eI (a1))]) (s2 := [eI (a1), eR v1, eR a0]) rfl rfl rfl ?_
      refine w_cw (np := 26) (as := [eI (a1)]) (l2 := [some (eR v1), some (eI (a1)), none, none, none, none]) (rest := [eR a0]) rfl rfl rfl (Nat.ble_eq.mp rfl) rfl rfl rfl (hI.kd b3 (by decide) (n := 7) rfl) rfl ?_
      refine s_146 (a1 := a1) hI b3 (by omega) ?_
      intro v11 b12
      show ex_q (dt_fg L ρ) rc (d + 2, (197, 26, [some (eR a0), some (eI (a1))], [eI (v11), eR a0]), f :: F, μ)
      refine w_cw (np := 29) (as := [eI (v11)]) (l2 := [some (eR a0), some (eI (v11))]) (rest := []) rfl rfl rfl (Nat.ble_eq.mp rfl) rfl rfl rfl (hI.kd gA0 (by decide) (n := 14) rfl) rfl ?_
      refine w_t (np := 1) (l2 := [some (eR a0), some (eI (v11))]) (s2 := [eR a0]) rfl (s_an rfl (pos_g hI gA0 (by decide))) rfl ?_
      refine w_t (np := 2) (l2 := [some (eR a0), some (eI (v11))]) (s2 := [eI (0), eR a0]) rfl rfl rfl ?_
      refine j_pf (np := 5) (w := 0) rfl rfl hI gA0 (by decide) (n := 14) rfl rfl (hO_i (lo := -2147483648) (hi := 2147483647) rfl (by decide)) ?_
      intro m13 I14 W15
      have F16 : Fr l_197 0 0 g μ m13 := F0.w W15 gA0 rfl
      refine w_t (np := 6) (l2 := [some (eR a0), some (eI (v11))]) (s2 := [eI (v11)]) rfl rfl rfl ?_
      refine b_ri rfl rfl ?_
      show ex_q (dt_fg L ρ) rc (d + 2, (197, 29, [some (eR a0), some (eI (a1))], [eI (v11)]), f :: F, m13)
      exact b_ri rfl rfl (K m13 (v11) I14 F16 (by omega))
    · refine w_t (np := 13) (l2 := [some (eR v1), some (eI (a1))]) (s2 := [eI (1)]) rfl rfl rfl ?_
      refine w_go (t1 := 17) rfl rfl ?_
      refine b_rz rfl rfl (Or.inr rfl) ?_
      show ex_q (dt_fg L ρ) rc (d + 2, (197, 8, [some (eR a0), some (eI (a1))], [eI (1)]), f :: F, μ)
      refine b_ieq (t1 := 17) (t2 := 11) rfl rfl rfl rfl (fun g10 => absurd g10 (by decide)) (fun g10 => ?_)
      refine w_t (np := 12) (l2 := [some (eR a0), some (eI (a1))]) (s2 := [eR a0]) rfl (s_an rfl (pos_g hI gA0 (by decide))) rfl ?_
      refine w_t (np := 13) (l2 := [some (eR a0), some (eI (a1))]) (s2 := [eI (2), eR a0]) rfl rfl rfl ?_
      refine w_cw (np := 16) (as := [eI (2)]) (l2 := [some (eR a0), some (eI (2))]) (rest := []) rfl rfl rfl (Nat.ble_eq.mp rfl) rfl rfl rfl (hI.kd gA0 (by decide) (n := 14) rfl) rfl ?_
      refine w_t (np := 1) (l2 := [some (eR a0), some (eI (2))]) (s2 := [eR a0]) rfl (s_an rfl (pos_g hI gA0 (by decide))) rfl ?_
      refine w_t (np := 2) (l2 := [some (eR a0), some (eI (2))]) (s2 := [eI (2), eR a0]) rfl rfl rfl ?_
      refine j_pf (np := 5) (w := 2) rfl rfl hI gA0 (by decide) (n := 14) rfl rfl (hO_i (lo := -2147483648) (hi := 2147483647) rfl (by decide)) ?_
      intro m11 I12 W13
      have F14 : Fr l_197 0 0 g μ m11 := F0.w W13 gA0 rfl
      refine w_t (np := 6) (l2 := [some (eR a0), some (eI (2))]) (s2 := [eI (-1)]) rfl rfl rfl ?_
      refine b_ri rfl rfl ?_
      show ex_q (dt_fg L ρ) rc (d + 2, (197, 16, [some (eR a0), some (eI (a1))], [eI (-1)]), f :: F, m11)
      exact b_ri rfl rfl (K m11 (-1) I12 F14 (by decide))
def l_198 : List Nat := [270]
theorem s_198 {L : Nat} {ρ : Nat → Int} {rc : eQ} {d : Nat} {f : eFr} {F : List eFr} {μ : eM} {g : Nat → Nat} {a0 : Nat} (hI : SI g μ) (gA0 : g a0 = 1) (K : ∀ (μ2 : eM) (v : Int), SI g μ2 → Fr l_198 0 0 g μ μ2 → (-2147483648 ≤ v ∧ v ≤ 2147483647) → ex_q (dt_fg L ρ) rc (d + 3, (f.1, f.2.1, f.2.2.1, eI v :: f.2.2.2), F, μ2)) : ex_q (dt_fg L ρ) rc (d + 2, (198, 0, [some (eR a0), none, none], []), f :: F, μ) := by
  have F0 : Fr l_198 0 0 g μ μ := Fr.r
  refine w_t (np := 1) (l2 := [some (eR a0), none, none]) (s2 := [eI (0)]) rfl rfl rfl ?_
  refine w_t (np := 2) (l2 := [some (eR a0), some (eI (0)), none]) (s2 := []) rfl rfl rfl ?_
  refine w_t (np := 3) (l2 := [some (eR a0), some (eI (0)), none]) (s2 := [eI (0)]) rfl rfl rfl ?_
  refine w_t (np := 4) (l2 := [some (eR a0), some (eI (0)), some (eI (0))]) (s2 := []) rfl rfl rfl ?_
  have hL4 : ∀ (n1 : Nat) (m7 : eM) (i3 : Int) (i5 : Int), SI g m7 → Fr l_198 0 0 g μ m7 → (-2147483648 ≤ i3 ∧ i3 ≤ 2147483647) → (0 ≤ i5 ∧ i5 ≤ 24) → n1 = (24 - i5).toNat → ex_q (dt_fg L ρ) rc (d + 2, (198, 4, [some (eR a0), some (eI (i3)), some (eI (i5))], []), f :: F, m7) := by
    intro n1
    induction n1 using Nat.strongRecOn with
    | _ n1 ih2 =>
    intro m7 i3 i5 I8 F9 b4 b6 hn10
    refine w_t (np := 5) (l2 := [some (eR a0), some (eI (i3)), some (eI (i5))]) (s2 := [eI (i5)]) rfl rfl rfl ?_
    refine w_t (np := 6) (l2 := [some (eR a0), some (eI (i3)), some (eI (i5))]) (s2 := [eR a0, eI (i5)]) rfl (s_an rfl (pos_g I8 gA0 (by decide))) rfl ?_
    refine j_gr (np := 9) rfl rfl I8 gA0 (by decide) (n := 14) rfl rfl rfl ?_
    intro v11 e12 b13 z14
    have b13 : g v11 = 29 := Nat.eq_of_beq_eq_true b13
    refine j_gi (np := 12) rfl rfl rfl I8 b13 (by decide) (n := 7) rfl rfl (lo := 0) (hi := 24) rfl ?_
    intro v15 e16 b17
    refine b_cge (t1 := 34) (t2 := 15) rfl rfl rfl (ev_w_in (by omega) (by omega)) (ev_w_in (by omega) (by omega)) (fun g18 => ?_) (fun g18 => ?_)
    · refine w_t (np := 35) (l2 := [some (eR a0), some (eI (i3)), some (eI (i5))]) (s2 := [eR a0]) rfl (s_an rfl (pos_g I8 gA0 (by decide))) rfl ?_
      refine w_t (np := 36) (l2 := [some (eR a0), some (eI (i3)), some (eI (i5))]) (s2 := [eI (i3), eR a0]) rfl rfl rfl ?_
      refine w_cw (np := 39) (as := [eI (i3)]) (l2 := [some (eR a0), some (eI (i3))]) (rest := []) rfl rfl rfl (Nat.ble_eq.mp rfl) rfl rfl rfl (I8.kd gA0 (by decide) (n := 14) rfl) rfl ?_
      refine w_t (np := 1) (l2 := [some (eR a0), some (eI (i3))]) (s2 := [eR a0]) rfl (s_an rfl (pos_g I8 gA0 (by decide))) rfl ?_
      refine w_t (np := 2) (l2 := [some (eR a0), some (eI (i3))]) (s2 := [eI (0), eR a0]) rfl rfl rfl ?_
      refine j_pf (np := 5) (w := 0) rfl rfl I8 gA0 (by decide) (n := 14) rfl rfl (hO_i (lo := -2147483648) (hi := 2147483647) rfl (by decide)) ?_
      intro m19 I20 W21
      have F22 : Fr l_198 0 0 g μ m19 := F9.w W21 gA0 rfl
      refine w_t (np := 6) (l2 := [some (eR a0), some (eI (i3))]) (s2 := [eI (i3)]) rfl rfl rfl ?_
      refine b_ri rfl rfl ?_
      show ex_q (dt_fg L ρ) rc (d + 2, (198, 39, [some (eR a0), some (eI (i3)), some (eI (i5))], [eI (i3)]), f :: F, m19)
      exact b_ri rfl rfl (K m19 (i3) I20 F22 (by omega))
    · have b19 : 0 ≤ i5 ∧ i5 ≤ 23 := by omega
      have b20 : 1 ≤ v15 ∧ v15 ≤ 24 := by omega
      refine w_t (np := 16) (l2 := [some (eR a0), some (eI (i3)), some (eI (i5))]) (s2 := [eI (i3)]) rfl rfl rfl ?_
      refine w_t (np := 17) (l2 := [some (eR a0), some (eI (i3)), some (eI (i5))]) (s2 := [eI (4), eI (i3)]) rfl rfl rfl ?_
      refine w_t (np := 18) (l2 := [some (eR a0), some (eI (i3)), some (eI (i5))]) (s2 := [eR a0, eI (4), eI (i3)]) rfl (s_an rfl (pos_g I8 gA0 (by decide))) rfl ?_
      refine w_gf (np := 21) (v := eR v11) rfl rfl (I8.kd gA0 (by decide) (n := 14) rfl) (by rw [e12]; rfl) ?_
      refine w_t (np := 22) (l2 := [some (eR a0), some (eI (i3)), some (eI (i5))]) (s2 := [eI (i5), eR v11, eI (4), eI (i3)]) rfl rfl rfl ?_
      refine w_cw (np := 25) (as := [eI (i5)]) (l2 := [some (eR v11), some (eI (i5)), none, none, none, none]) (rest := [eI (4), eI (i3)]) rfl rfl rfl (Nat.ble_eq.mp rfl) rfl rfl rfl (I8.kd b13 (by decide) (n := 7) rfl) rfl ?_
      refine s_146 (a1 := i5) I8 b13 (by omega) ?_
      intro v19 b20
      show ex_q (dt_fg L ρ) rc (d + 2, (198, 25, [some (eR a0), some (eI (i3)), some (eI (i5))], [eI (v19), eI (4), eI (i3)]), f :: F, m7)
      obtain ⟨v21, e22, b23⟩ : ∃ zz : Int, ev_w ((4) - (v19)) = zz ∧ (-2147483648 ≤ zz ∧ zz ≤ 2147483647) := ⟨_, rfl, hw_bd _⟩
      refine w_t (np := 26) (l2 := [some (eR a0), some (eI (i3)), some (eI (i5))]) (s2 := [eI (v21), eI (i3)]) rfl (b_isub e22) rfl ?_
      obtain ⟨v24, e25, b26⟩ : ∃ zz : Int, ev_w ((i3) + (v21)) = zz ∧ (-2147483648 ≤ zz ∧ zz ≤ 2147483647) := ⟨_, rfl, hw_bd _⟩
      refine w_t (np := 27) (l2 := [some (eR a0), some (eI (i3)), some (eI (i5))]) (s2 := [eI (v24)]) rfl (b_iadd e25) rfl ?_
      refine w_t (np := 28) (l2 := [some (eR a0), some (eI (v24)), some (eI (i5))]) (s2 := []) rfl rfl rfl ?_
      obtain ⟨v27, e28⟩ : ∃ zz : Int, zz = (i5) + (1) := ⟨_, rfl⟩
      have b29 : 1 ≤ v27 ∧ v27 ≤ 24 := by omega
      refine w_t (np := 31) (l2 := [some (eR a0), some (eI (v24)), some (eI (v27))]) (s2 := []) rfl (b_iinc rfl (by rw [← e28]; exact ev_w_in (by omega) (by omega)) rfl) rfl ?_
      refine w_go (t1 := 4) rfl rfl ?_
      exact ih2 (24 - (v27)).toNat (by omega) m7 (v24) (v27) I8 F9 (by omega) (by omega)     rfl
  exact hL4 _ μ (0) (0) hI F0 (by decide) (by decide)     rfl
def l_199 : List Nat := [6147, 6400]
theorem s_199 {L : Nat} {ρ : Nat → Int} {rc : eQ} {d : Nat} {f : eFr} {F : List eFr} {μ : eM} {g : Nat → Nat} {a0 : Nat} {a1 : Int} {a2 : Int} {a3 : Int} {a4 : Int} {a5 : Int} (hI : SI g μ) (gA0 : g a0 = 1) (bA1 : -2147483648 ≤ a1 ∧ a1 ≤ 2147483647) (bA2 : -2147483648 ≤ a2 ∧ a2 ≤ 2147483647) (bA3 : -2147483648 ≤ a3 ∧ a3 ≤ 2147483647) (bA4 : -2147483648 ≤ a4 ∧ a4 ≤ 2147483647) (bA5 : -2147483648 ≤ a5 ∧ a5 ≤ 2147483647) (K : ∀ (μ2 : eM) (v : Int), SI g μ2 → Fr l_199 0 0 g μ μ2 → (-2147483648 ≤ v ∧ v ≤ 2147483647) → ex_q (dt_fg L ρ) rc (d + 2, (f.1, f.2.1, f.2.2.1, eI v :: f.2.2.2), F, μ2)) : ex_q (dt_fg L ρ) rc (d + 1, (199, 0, [some (eR a0), some (eI (a1)), some (eI (a2)), some (eI (a3)), some (eI (a4)), some (eI (a5))], []), f :: F, μ) := by
  have F0 : Fr l_199 0 0 g μ μ := Fr.r
  refine w_t (np := 1) (l2 := [some (eR a0), some (eI (a1)), some (eI (a2)), some (eI (a3)), some (eI (a4)), some (eI (a5))]) (s2 := [eR a0]) rfl (s_an rfl (pos_g hI gA0 (by decide))) rfl ?_
  refine j_gr (np := 4) rfl rfl hI gA0 (by decide) (n := 14) rfl rfl rfl ?_
  intro v1 e2 b3 z4
  have b3 : g v1 = 24 := Nat.eq_of_beq_eq_true b3
  refine w_t (np := 6) (l2 := [some (eR a0), some (eI (a1)), some (eI (a2)), some (eI (a3)), some (eI (a4)), some (eI (a5))]) (s2 := [eI (20), eR v1]) rfl rfl rfl ?_
  refine w_cw (np := 9) (as := [eI (20)]) (l2 := [some (eR v1), some (eI (20))]) (rest := []) rfl rfl rfl (Nat.ble_eq.mp rfl) rfl rfl rfl (hI.kd b3 (by decide) (n := 11) rfl) rfl ?_
  refine w_t (np := 1) (l2 := [some (eR v1), some (eI (20))]) (s2 := [eR v1]) rfl (s_an rfl (pos_g hI b3 (by decide))) rfl ?_
  refine j_gi (np := 4) rfl rfl rfl hI b3 (by decide) (n := 11) rfl rfl (lo := 0) (hi := 900) rfl ?_
  intro v5 e6 b7
  refine w_t (np := 5) (l2 := [some (eR v1), some (eI (20))]) (s2 := [eI (20), eI (v5)]) rfl rfl rfl ?_
  obtain ⟨v8, e9⟩ : ∃ zz : Int, zz = (v5) + (20) := ⟨_, rfl⟩
  have b10 : 20 ≤ v8 ∧ v8 ≤ 920 := by omega
  refine w_t (np := 6) (l2 := [some (eR v1), some (eI (20))]) (s2 := [eI (v8)]) rfl (b_iadd (by rw [← e9]; exact ev_w_in (by omega) (by omega))) rfl ?_
  refine w_t (np := 9) (l2 := [some (eR v1), some (eI (20))]) (s2 := [eI (900), eI (v8)]) rfl rfl rfl ?_
  refine b_cgt (t1 := 16) (t2 := 12) rfl rfl rfl (ev_w_in (by omega) (by omega)) rfl (fun g11 => ?_) (fun g11 => ?_)
  · have b12 : 901 ≤ v8 ∧ v8 ≤ 920 := by omega
    refine w_t (np := 17) (l2 := [some (eR v1), some (eI (20))]) (s2 := [eI (0)]) rfl rfl rfl ?_
    refine b_rz rfl rfl (Or.inl rfl) ?_
    show ex_q (dt_fg L ρ) rc (d + 1, (199, 9, [some (eR a0), some (eI (a1)), some (eI (a2)), some (eI (a3)), some (eI (a4)), some (eI (a5))], [eI (0)]), f :: F, μ)
    refine b_ine (t1 := 14) (t2 := 12) rfl rfl rfl rfl (fun g12 => absurd g12 (by decide)) (fun g12 => ?_)
    refine w_t (np := 13) (l2 := [some (eR a0), some (eI (a1)), some (eI (a2)), some (eI (a3)), some (eI (a4)), some (eI (a5))]) (s2 := [eI (-1)]) rfl rfl rfl ?_
    exact b_ri rfl rfl (K μ (-1) hI F0 (by decide))
  · have b12 : 20 ≤ v8 ∧ v8 ≤ 900 := by omega
    refine w_t (np := 13) (l2 := [some (eR v1), some (eI (20))]) (s2 := [eI (1)]) rfl rfl rfl ?_
    refine w_go (t1 := 17) rfl rfl ?_
    refine b_rz rfl rfl (Or.inr rfl) ?_
    show ex_q (dt_fg L ρ) rc (d + 1, (199, 9, [some (eR a0), some (eI (a1)), some (eI (a2)), some (eI (a3)), some (eI (a4)), some (eI (a5))], [eI (1)]), f :: F, μ)
    refine b_ine (t1 := 14) (t2 := 12) rfl rfl rfl rfl (fun g12 => ?_) (fun g12 => absurd g12 (by decide))
    refine w_t (np := 15) (l2 := [some (eR a0), some (eI (a1)), some (eI (a2)), some (eI (a3)), some (eI (a4)), some (eI (a5))]) (s2 := [eR a0]) rfl (s_an rfl (pos_g hI gA0 (by decide))) rfl ?_
    refine w_gf (np := 18) (v := eR v1) rfl rfl (hI.kd gA0 (by decide) (n := 14) rfl) (by rw [e2]; rfl) ?_
    refine w_t (np := 19) (l2 := [some (eR a0), some (eI (a1)), some (eI (a2)), some (eI (a3)), some (eI (a4)), some (eI (a5))]) (s2 := [eI (a1), eR v1]) rfl rfl rfl ?_
    refine w_cw (np := 22) (as := [eI (a1)]) (l2 := [some (eR v1), some (eI (a1)), none]) (rest := []) rfl rfl rfl (Nat.ble_eq.mp rfl) rfl rfl rfl (hI.kd b3 (by decide) (n := 11) rfl) rfl ?_
    refine s_57 (a1 := a1) hI b3 (by omega) ?_
    intro m13 I14 F15
    have F16 : Fr l_199 0 0 g μ m13 := F0.t F15 rfl
    show ex_q (dt_fg L ρ) rc (d + 1, (199, 22, [some (eR a0), some (eI (a1)), some (eI (a2)), some (eI (a3)), some (eI (a4)), some (eI (a5))], []), f :: F, m13)
    refine w_t (np := 23) (l2 := [some (eR a0), some (eI (a1)), some (eI (a2)), some (eI (a3)), some (eI (a4)), some (eI (a5))]) (s2 := [eR a0]) rfl (s_an rfl (pos_g I14 gA0 (by decide))) rfl ?_
    refine w_gf (np := 26) (v := eR v1) rfl rfl (I14.kd gA0 (by decide) (n := 14) rfl) (by rw [(F15.k e2 gA0 (by decide) rfl)]; rfl) ?_
    refine w_t (np := 27) (l2 := [some (eR a0), some (eI (a1)), some (eI (a2)), some (eI (a3)), some (eI (a4)), some (eI (a5))]) (s2 := [eI (a2), eR v1]) rfl rfl rfl ?_
    refine w_cw (np := 30) (as := [eI (a2)]) (l2 := [some (eR v1), some (eI (a2)), none]) (rest := []) rfl rfl rfl (Nat.ble_eq.mp rfl) rfl rfl rfl (I14.kd b3 (by decide) (n := 11) rfl) rfl ?_
    refine s_57 (a1 := a2) I14 b3 (by omega) ?_
    intro m17 I18 F19
    have F20 : Fr l_199 0 0 g μ m17 := F16.t F19 rfl
    show ex_q (dt_fg L ρ) rc (d + 1, (199, 30, [some (eR a0), some (eI (a1)), some (eI (a2)), some (eI (a3)), some (eI (a4)), some (eI (a5))], []), f :: F, m17)
    refine w_t (np := 31) (l2 := [some (eR a0), some (eI (a1)), some (eI (a2)), some (eI (a3)), some (eI (a4)), some (eI (a5))]) (s2 := [eR a0]) rfl (s_an rfl (pos_g I18 gA0 (by decide))) rfl ?_
    refine w_gf (np := 34) (v := eR v1) rfl rfl (I18.kd gA0 (by decide) (n := 14) rfl) (by rw [(F19.k (F15.k e2 gA0 (by decide) rfl) gA0 (by decide) rfl)]; rfl) ?_
    refine w_t (np := 35) (l2 := [some (eR a0), some (eI (a1)), some (eI (a2)), some (eI (a3)), some (eI (a4)), some (eI (a5))]) (s2 := [eI (a3), eR v1]) rfl rfl rfl ?_
    refine w_cw (np := 38) (as := [eI (a3)]) (l2 := [some (eR v1), some (eI (a3)), none]) (rest := []) rfl rfl rfl (Nat.ble_eq.mp rfl) rfl rfl rfl (I18.kd b3 (by decide) (n := 11) rfl) rfl ?_
    refine s_57 (a1 := a3) I18 b3 (by omega) ?_
    intro m21 I22 F23
    have F24 : Fr l_199 0 0 g μ m21 := F20.t F23 rfl
    show ex_q (dt_fg L ρ) rc (d + 1, (199, 38, [some (eR a0), some (eI (a1)), some (eI (a2)), some (eI (a3)), some (eI (a4)), some (eI (a5))], []), f :: F, m21)
    refine w_t (np := 39) (l2 := [some (eR a0), some (eI (a1)), some (eI (a2)), some (eI (a3)), some (eI (a4)), some (eI (a5))]) (s2 := [eR a0]) rfl (s_an rfl (pos_g I22 gA0 (by decide))) rfl ?_
    refine w_gf (np := 42) (v := eR v1) rfl rfl (I22.kd gA0 (by decide) (n := 14) rfl) (by rw [(F23.k (F19.k (F15.k e2 gA0 (by decide) rfl) gA0 (by decide) rfl) gA0 (by decide) rfl)]; rfl) ?_
    refine w_t (np := 44) (l2 := [some (eR a0), some (eI (a1)), some (eI (a2)), some (eI (a3)), some (eI (a4)), some (eI (a5))]) (s2 := [eI (a4), eR v1]) rfl rfl rfl ?_
    refine w_cw (np := 47) (as := [eI (a4)]) (l2 := [some (eR v1), some (eI (a4)), none]) (rest := []) rfl rfl rfl (Nat.ble_eq.mp rfl) rfl rfl rfl (I22.kd b3 (by decide) (n := 11) rfl) rfl ?_
    refine s_57 (a1 := a4) I22 b3 (by omega) ?_
    intro m25 I26 F27
    have F28 : Fr l_199 0 0 g μ m25 := F24.t F27 rfl
    show ex_q (dt_fg L ρ) rc (d + 1, (199, 47, [some (eR a0), some (eI (a1)), some (eI (a2)), some (eI (a3)), some (eI (a4)), some (eI (a5))], []), f :: F, m25)
    refine w_t (np := 48) (l2 := [some (eR a0), some (eI (a1)), some (eI (a2)), some (eI (a3)), some (eI (a4)), some (eI (a5))]) (s2 := [eR a0]) rfl (s_an rfl (pos_g I26 gA0 (by decide))) rfl ?_
    refine w_gf (np := 51) (v := eR v1) rfl rfl (I26.kd gA0 (by decide) (n := 14) rfl) (by rw [(F27.k (F23.k (F19.k (F15.k e2 gA0 (by decide) rfl) gA0 (by decide) rfl) gA0 (by decide) rfl) gA0 (by decide) rfl)]; rfl) ?_
    refine w_t (np := 53) (l2 := [some (eR a0), some (eI (a1)), some (eI (a2)), some (eI (a3)), some (eI (a4)), some (eI (a5))]) (s2 := [eI (a5), eR v1]) rfl rfl rfl ?_
    refine w_cw (np := 56) (as := [eI (a5)]) (l2 := [some (eR v1), some (eI (a5)), none]) (rest := []) rfl rfl rfl (Nat.ble_eq.mp rfl) rfl rfl rfl (I26.kd b3 (by decide) (n := 11) rfl) rfl ?_
    refine s_57 (a1 := a5) I26 b3 (by omega) ?_
    intro m29 I30 F31
    have F32 : Fr l_199 0 0 g μ m29 := F28.t F31 rfl
    show ex_q (dt_fg L ρ) rc (d + 1, (199, 56, [some (eR a0), some (eI (a1)), some (eI (a2)), some (eI (a3)), some (eI (a4)), some (eI (a5))], []), f :: F, m29)
    refine w_t (np := 57) (l2 := [some (eR a0), some (eI (a1)), some (eI (a2)), some (eI (a3)), some (eI (a4)), some (eI (a5))]) (s2 := [eR a0]) rfl (s_an rfl (pos_g I30 gA0 (by decide))) rfl ?_
    refine w_gf (np := 60) (v := eR v1) rfl rfl (I30.kd gA0 (by decide) (n := 14) rfl) (by rw [(F31.k (F27.k (F23.k (F19.k (F15.k e2 gA0 (by decide) rfl) gA0 (by decide) rfl) gA0 (by decide) rfl) gA0 (by decide) rfl) gA0 (by decide) rfl)]; rfl) ?_
    refine j_gi (np := 63) rfl rfl rfl I30 b3 (by decide) (n := 11) rfl rfl (lo := 0) (hi := 900) rfl ?_
    intro v33 e34 b35
    exact b_ri rfl rfl (K m29 (v33) I30 F32 (by omega))
theorem s_201 {L : Nat} {ρ : Nat → Int} {rc : eQ} {d : Nat} {f : eFr} {F : List eFr} {μ : eM} {g : Nat → Nat} {a0 : Nat} {a1 : Int} (hI : SI g μ) (gA0 : g a0 = 1) (bA1 : -2147483648 ≤ a1 ∧ a1 ≤ 2147483647) (K : ∀ (v : Int), (-2147483648 ≤ v ∧ v ≤ 2147483647) → ex_q (dt_fg L ρ) rc (d + 1, (f.1, f.2.1, f.2.2.1, eI v :: f.2.2.2), F, μ)) : ex_q (dt_fg L ρ) rc (d, (201, 0, [some (eR a0), some (eI (a1))], []), f :: F, μ) := by
  refine w_t (np := 1) (l2 := [some (eR a0), some (eI (a1))]) (s2 := [eI (a1)]) rfl rfl rfl ?_
  refine b_ine (t1 := 14) (t2 := 4) rfl rfl rfl (ev_w_in (by omega) (by omega)) (fun g1 => ?_) (fun g1 => ?_)
  · refine w_t (np := 15) (l2 := [some (eR a0), some (eI (a1))]) (s2 := [eI (a1)]) rfl rfl rfl ?_
    refine w_t (np := 16) (l2 := [some (eR a0), some (eI (a1))]) (s2 := [eI (1), eI (a1)]) rfl rfl rfl ?_
    refine b_cne (t1 := 29) (t2 := 19) rfl rfl rfl (ev_w_in (by omega) (by omega)) rfl (fun g2 => ?_) (fun g2 => ?_)
    · refine w_t (np := 30) (l2 := [some (eR a0), some (eI (a1))]) (s2 := [eI (-1)]) rfl rfl rfl ?_
      exact b_ri rfl rfl (K (-1) (by decide))
    · have b3 : 1 ≤ a1 ∧ a1 ≤ 1 := by omega
      refine w_t (np := 20) (l2 := [some (eR a0), some (eI (a1))]) (s2 := [eR a0]) rfl (s_an rfl (pos_g hI gA0 (by decide))) rfl ?_
      refine j_gr (np := 23) rfl rfl hI gA0 (by decide) (n := 14) rfl rfl rfl ?_
      intro v3 e4 b5 z6
      have b5 : g v3 = 24 := Nat.eq_of_beq_eq_true b5
      refine j_gi (np := 26) rfl rfl rfl hI b5 (by decide) (n := 11) rfl rfl (lo := -2147483648) (hi := 2147483647) rfl ?_
      intro v7 e8 b9
      refine w_go (t1 := 30) rfl rfl ?_
      exact b_ri rfl rfl (K (v7) (by omega))
  · have b2 : 0 ≤ a1 ∧ a1 ≤ 0 := by omega
    refine w_t (np := 5) (l2 := [some (eR a0), some (eI (a1))]) (s2 := [eR a0]) rfl (s_an rfl (pos_g hI gA0 (by decide))) rfl ?_
    refine j_gr (np := 8) rfl rfl hI gA0 (by decide) (n := 14) rfl rfl rfl ?_
    intro v2 e3 b4 z5
    have b4 : g v2 = 24 := Nat.eq_of_beq_eq_true b4
    refine j_gi (np := 11) rfl rfl rfl hI b4 (by decide) (n := 11) rfl rfl (lo := -2147483648) (hi := 2147483647) rfl ?_
    intro v6 e7 b8
    refine w_go (t1 := 30) rfl rfl ?_
    exact b_ri rfl rfl (K (v6) (by omega))
def l_203 : List Nat := [270]
theorem s_203 {L : Nat} {ρ : Nat → Int} {rc : eQ} {d : Nat} {f : eFr} {F : List eFr} {μ : eM} {g : Nat → Nat} {a0 : Nat} {a1 : Int} (hI : SI g μ) (gA0 : g a0 = 1) (bA1 : -2147483648 ≤ a1 ∧ a1 ≤ 2147483647) (K : ∀ (μ2 : eM) (v : Int), SI g μ2 → Fr l_203 0 0 g μ μ2 → (-2147483648 ≤ v ∧ v ≤ 2147483647) → ex_q (dt_fg L ρ) rc (d + 3, (f.1, f.2.1, f.2.2.1, eI v :: f.2.2.2), F, μ2)) : ex_q (dt_fg L ρ) rc (d + 2, (203, 0, [some (eR a0), some (eI (a1))], []), f :: F, μ) := by
  have F0 : Fr l_203 0 0 g μ μ := Fr.r
  refine w_t (np := 1) (l2 := [some (eR a0), some (eI (a1))]) (s2 := [eI (a1)]) rfl rfl rfl ?_
  refine b_ige (t1 := 10) (t2 := 4) rfl rfl rfl (ev_w_in (by omega) (by omega)) (fun g1 => ?_) (fun g1 => ?_)
  · have b2 : 0 ≤ a1 ∧ a1 ≤ 2147483647 := by omega
    refine w_t (np := 11) (l2 := [some (eR a0), some (eI (a1))]) (s2 := [eR a0]) rfl (s_an rfl (pos_g hI gA0 (by decide))) rfl ?_
    refine w_t (np := 12) (l2 := [some (eR a0), some (eI (a1))]) (s2 := [eR a0, eR a0]) rfl (s_an rfl (pos_g hI gA0 (by decide))) rfl ?_
    refine j_gr (np := 15) rfl rfl hI gA0 (by decide) (n := 14) rfl rfl rfl ?_
    intro v2 e3 b4 z5
    have b4 : g v2 = 27 := Nat.eq_of_beq_eq_true b4
    refine w_t (np := 16) (l2 := [some (eR a0), some (eI (a1))]) (s2 := [eI (a1), eR v2, eR a0]) rfl rfl rfl ?_
    refine w_cw (np := 19) (as := [eI (a1)]) (l2 := [some (eR v2), some (eI (a1))]) (rest := [eR a0]) rfl rfl rfl (Nat.ble_eq.mp rfl) rfl rfl rfl (hI.kd b4 (by decide) (n := 2) rfl) rfl ?_
    refine s_50 (a1 := a1) hI b4 (by omega) ?_
    intro v6 b7
    show ex_q (dt_fg L ρ) rc (d + 2, (203, 19, [some (eR a0), some (eI (a1))], [eI (v6), eR a0]), f :: F, μ)
    refine w_cw (np := 22) (as := [eI (v6)]) (l2 := [some (eR a0), some (eI (v6))]) (rest := []) rfl rfl rfl (Nat.ble_eq.mp rfl) rfl rfl rfl (hI.kd gA0 (by decide) (n := 14) rfl) rfl ?_
    refine w_t (np := 1) (l2 := [some (eR a0), some (eI (v6))]) (s2 := [eI (v6)]) rfl rfl rfl ?_
    refine b_ige (t1 := 12) (t2 := 4) rfl rfl rfl (ev_w_in (by omega) (by omega)) (fun g8 => ?_) (fun g8 => ?_)
    · have b9 : 0 ≤ v6 ∧ v6 ≤ 2147483647 := by omega
      refine w_t (np := 13) (l2 := [some (eR a0), some (eI (v6))]) (s2 := [eR a0]) rfl (s_an rfl (pos_g hI gA0 (by decide))) rfl ?_
      refine w_t (np := 14) (l2 := [some (eR a0), some (eI (v6))]) (s2 := [eI (v6), eR a0]) rfl rfl rfl ?_
      refine w_cw (np := 17) (as := [eI (v6)]) (l2 := [some (eR a0), some (eI (v6))]) (rest := []) rfl rfl rfl (Nat.ble_eq.mp rfl) rfl rfl rfl (hI.kd gA0 (by decide) (n := 14) rfl) rfl ?_
      refine w_t (np := 1) (l2 := [some (eR a0), some (eI (v6))]) (s2 := [eR a0]) rfl (s_an rfl (pos_g hI gA0 (by decide))) rfl ?_
      refine w_t (np := 2) (l2 := [some (eR a0), some (eI (v6))]) (s2 := [eI (0), eR a0]) rfl rfl rfl ?_
      refine j_pf (np := 5) (w := 0) rfl rfl hI gA0 (by decide) (n := 14) rfl rfl (hO_i (lo := -2147483648) (hi := 2147483647) rfl (by decide)) ?_
      intro m9 I10 W11
      have F12 : Fr l_203 0 0 g μ m9 := F0.w W11 gA0 rfl
      refine w_t (np := 6) (l2 := [some (eR a0), some (eI (v6))]) (s2 := [eI (v6)]) rfl rfl rfl ?_
      refine b_ri rfl rfl ?_
      show ex_q (dt_fg L ρ) rc (d + 1, (207, 17, [some (eR a0), some (eI (v6))], [eI (v6)]), (203, 22, [some (eR a0), some (eI (a1))], []) :: f :: F, m9)
      refine b_ri rfl rfl ?_
      show ex_q (dt_fg L ρ) rc (d + 2, (203, 22, [some (eR a0), some (eI (a1))], [eI (v6)]), f :: F, m9)
      exact b_ri rfl rfl (K m9 (v6) I10 F12 (by omega))
    · have b9 : -2147483648 ≤ v6 ∧ v6 ≤ -1 := by omega
      refine w_t (np := 5) (l2 := [some (eR a0), some (eI (v6))]) (s2 := [eR a0]) rfl (s_an rfl (pos_g hI gA0 (by decide))) rfl ?_
      refine w_t (np := 6) (l2 := [some (eR a0), some (eI (v6))]) (s2 := [eI (5), eR a0]) rfl rfl rfl ?_
      refine w_cw (np := 9) (as := [eI (5)]) (l2 := [some (eR a0), some (eI (5))]) (rest := []) rfl rfl rfl (Nat.ble_eq.mp rfl) rfl rfl rfl (hI.kd gA0 (by decide) (n := 14) rfl) rfl ?_
      refine w_t (np := 1) (l2 := [some (eR a0), some (eI (5))]) (s2 := [eR a0]) rfl (s_an rfl (pos_g hI gA0 (by decide))) rfl ?_
      refine w_t (np := 2) (l2 := [some (eR a0), some (eI (5))]) (s2 := [eI (5), eR a0]) rfl rfl rfl ?_
      refine j_pf (np := 5) (w := 5) rfl rfl hI gA0 (by decide) (n := 14) rfl rfl (hO_i (lo := -2147483648) (hi := 2147483647) rfl (by decide)) ?_
      intro m9 I10 W11
      have F12 : Fr l_203 0 0 g μ m9 := F0.w W11 gA0 rfl
      refine w_t (np := 6) (l2 := [some (eR a0), some (eI (5))]) (s2 := [eI (-1)]) rfl rfl rfl ?_
      refine b_ri rfl rfl ?_
      show ex_q (dt_fg L ρ) rc (d + 1, (207, 9, [some (eR a0), some (eI (v6))], [eI (-1)]), (203, 22, [some (eR a0), some (eI (a1))], []) :: f :: F, m9)
      refine w_go (t1 := 17) rfl rfl ?_
      refine b_ri rfl rfl ?_
      show ex_q (dt_fg L ρ) rc (d + 2, (203, 22, [some (eR a0), some (eI (a1))], [eI (-1)]), f :: F, m9)
      exact b_ri rfl rfl (K m9 (-1) I10 F12 (by decide))
  · have b2 : -2147483648 ≤ a1 ∧ a1 ≤ -1 := by omega
    refine w_t (np := 5) (l2 := [some (eR a0), some (eI (a1))]) (s2 := [eR a0]) rfl (s_an rfl (pos_g hI gA0 (by decide))) rfl ?_
    refine w_t (np := 6) (l2 := [some (eR a0), some (eI (a1))]) (s2 := [eI (1), eR a0]) rfl rfl rfl ?_
    refine w_cw (np := 9) (as := [eI (1)]) (l2 := [some (eR a0), some (eI (1))]) (rest := []) rfl rfl rfl (Nat.ble_eq.mp rfl) rfl rfl rfl (hI.kd gA0 (by decide) (n := 14) rfl) rfl ?_
    refine w_t (np := 1) (l2 := [some (eR a0), some (eI (1))]) (s2 := [eR a0]) rfl (s_an rfl (pos_g hI gA0 (by decide))) rfl ?_
    refine w_t (np := 2) (l2 := [some (eR a0), some (eI (1))]) (s2 := [eI (1), eR a0]) rfl rfl rfl ?_
    refine j_pf (np := 5) (w := 1) rfl rfl hI gA0 (by decide) (n := 14) rfl rfl (hO_i (lo := -2147483648) (hi := 2147483647) rfl (by decide)) ?_
    intro m2 I3 W4
    have F5 : Fr l_203 0 0 g μ m2 := F0.w W4 gA0 rfl
    refine w_t (np := 6) (l2 := [some (eR a0), some (eI (1))]) (s2 := [eI (-1)]) rfl rfl rfl ?_
    refine b_ri rfl rfl ?_
    show ex_q (dt_fg L ρ) rc (d + 2, (203, 9, [some (eR a0), some (eI (a1))], [eI (-1)]), f :: F, m2)
    exact b_ri rfl rfl (K m2 (-1) I3 F5 (by decide))
def l_204 : List Nat := [270]
theorem s_204 {L : Nat} {ρ : Nat → Int} {rc : eQ} {d : Nat} {f : eFr} {F : List eFr} {μ : eM} {g : Nat → Nat} {a0 : Nat} {a1 : Int} (hI : SI g μ) (gA0 : g a0 = 1) (bA1 : -2147483648 ≤ a1 ∧ a1 ≤ 2147483647) (K : ∀ (μ2 : eM) (v : Int), SI g μ2 → Fr l_204 0 0 g μ μ2 → (-2147483648 ≤ v ∧ v ≤ 2147483647) → ex_q (dt_fg L ρ) rc (d + 2, (f.1, f.2.1, f.2.2.1, eI v :: f.2.2.2), F, μ2)) : ex_q (dt_fg L ρ) rc (d + 1, (204, 0, [some (eR a0), some (eI (a1))], []), f :: F, μ) := by
  have F0 : Fr l_204 0 0 g μ μ := Fr.r
  refine w_t (np := 1) (l2 := [some (eR a0), some (eI (a1))]) (s2 := [eI (a1)]) rfl rfl rfl ?_
  refine b_ilt (t1 := 9) (t2 := 4) rfl rfl rfl (ev_w_in (by omega) (by omega)) (fun g1 => ?_) (fun g1 => ?_)
  · have b2 : -2147483648 ≤ a1 ∧ a1 ≤ -1 := by omega
    refine w_t (np := 10) (l2 := [some (eR a0), some (eI (a1))]) (s2 := [eR a0]) rfl (s_an rfl (pos_g hI gA0 (by decide))) rfl ?_
    refine w_t (np := 11) (l2 := [some (eR a0), some (eI (a1))]) (s2 := [eI (1), eR a0]) rfl rfl rfl ?_
    refine w_cw (np := 14) (as := [eI (1)]) (l2 := [some (eR a0), some (eI (1))]) (rest := []) rfl rfl rfl (Nat.ble_eq.mp rfl) rfl rfl rfl (hI.kd gA0 (by decide) (n := 14) rfl) rfl ?_
    refine w_t (np := 1) (l2 := [some (eR a0), some (eI (1))]) (s2 := [eR a0]) rfl (s_an rfl (pos_g hI gA0 (by decide))) rfl ?_
    refine w_t (np := 2) (l2 := [some (eR a0), some (eI (1))]) (s2 := [eI (1), eR a0]) rfl rfl rfl ?_
    refine j_pf (np := 5) (w := 1) rfl rfl hI gA0 (by decide) (n := 14) rfl rfl (hO_i (lo := -2147483648) (hi := 2147483647) rfl (by decide)) ?_
    intro m2 I3 W4
    have F5 : Fr l_204 0 0 g μ m2 := F0.w W4 gA0 rfl
    refine w_t (np := 6) (l2 := [some (eR a0), some (eI (1))]) (s2 := [eI (-1)]) rfl rfl rfl ?_
    refine b_ri rfl rfl ?_
    show ex_q (dt_fg L ρ) rc (d + 1, (204, 14, [some (eR a0), some (eI (a1))], [eI (-1)]), f :: F, m2)
    exact b_ri rfl rfl (K m2 (-1) I3 F5 (by decide))
  · have b2 : 0 ≤ a1 ∧ a1 ≤ 2147483647 := by omega
    refine w_t (np := 5) (l2 := [some (eR a0), some (eI (a1))]) (s2 := [eI (a1)]) rfl rfl rfl ?_
    refine w_t (np := 6) (l2 := [some (eR a0), some (eI (a1))]) (s2 := [eI (1), eI (a1)]) rfl rfl rfl ?_
    refine b_cle (t1 := 15) (t2 := 9) rfl rfl rfl (ev_w_in (by omega) (by omega)) rfl (fun g2 => ?_) (fun g2 => ?_)
    · have b3 : 0 ≤ a1 ∧ a1 ≤ 1 := by omega
      refine w_t (np := 16) (l2 := [some (eR a0), some (eI (a1))]) (s2 := [eR a0]) rfl (s_an rfl (pos_g hI gA0 (by decide))) rfl ?_
      refine w_t (np := 17) (l2 := [some (eR a0), some (eI (a1))]) (s2 := [eI (2), eR a0]) rfl rfl rfl ?_
      refine w_t (np := 18) (l2 := [some (eR a0), some (eI (a1))]) (s2 := [eR a0, eI (2), eR a0]) rfl (s_an rfl (pos_g hI gA0 (by decide))) rfl ?_
      refine j_gr (np := 21) rfl rfl hI gA0 (by decide) (n := 14) rfl rfl rfl ?_
      intro v3 e4 b5 z6
      have b5 : g v3 = 29 := Nat.eq_of_beq_eq_true b5
      refine w_t (np := 22) (l2 := [some (eR a0), some (eI (a1))]) (s2 := [eI (a1), eR v3, eI (2), eR a0]) rfl rfl rfl ?_
      refine w_cw (np := 25) (as := [eI (a1)]) (l2 := [some (eR v3), some (eI (a1)), none, none]) (rest := [eI (2), eR a0]) rfl rfl rfl (Nat.ble_eq.mp rfl) rfl rfl rfl (hI.kd b5 (by decide) (n := 7) rfl) rfl ?_
      refine s_134 (a1 := a1) hI b5 (by omega) ?_
      intro v7 b8
      show ex_q (dt_fg L ρ) rc (d + 1, (204, 25, [some (eR a0), some (eI (a1))], [eI (v7), eI (2), eR a0]), f :: F, μ)
      obtain ⟨v9, e10, b11⟩ : ∃ zz : Int, ev_w ((2) * (v7)) = zz ∧ (-2147483648 ≤ zz ∧ zz ≤ 2147483647) := ⟨_, rfl, hw_bd _⟩
      refine w_t (np := 26) (l2 := [some (eR a0), some (eI (a1))]) (s2 := [eI (v9), eR a0]) rfl (b_imul e10) rfl ?_
      refine w_cw (np := 29) (as := [eI (v9)]) (l2 := [some (eR a0), some (eI (v9))]) (rest := []) rfl rfl rfl (Nat.ble_eq.mp rfl) rfl rfl rfl (hI.kd gA0 (by decide) (n := 14) rfl) rfl ?_
      refine w_t (np := 1) (l2 := [some (eR a0), some (eI (v9))]) (s2 := [eR a0]) rfl (s_an rfl (pos_g hI gA0 (by decide))) rfl ?_
      refine w_t (np := 2) (l2 := [some (eR a0), some (eI (v9))]) (s2 := [eI (0), eR a0]) rfl rfl rfl ?_
      refine j_pf (np := 5) (w := 0) rfl rfl hI gA0 (by decide) (n := 14) rfl rfl (hO_i (lo := -2147483648) (hi := 2147483647) rfl (by decide)) ?_
      intro m12 I13 W14
      have F15 : Fr l_204 0 0 g μ m12 := F0.w W14 gA0 rfl
      refine w_t (np := 6) (l2 := [some (eR a0), some (eI (v9))]) (s2 := [eI (v9)]) rfl rfl rfl ?_
      refine b_ri rfl rfl ?_
      show ex_q (dt_fg L ρ) rc (d + 1, (204, 29, [some (eR a0), some (eI (a1))], [eI (v9)]), f :: F, m12)
      exact b_ri rfl rfl (K m12 (v9) I13 F15 (by omega))
    · have b3 : 2 ≤ a1 ∧ a1 ≤ 2147483647 := by omega
      refine w_t (np := 10) (l2 := [some (eR a0), some (eI (a1))]) (s2 := [eR a0]) rfl (s_an rfl (pos_g hI gA0 (by decide))) rfl ?_
      refine w_t (np := 11) (l2 := [some (eR a0), some (eI (a1))]) (s2 := [eI (1), eR a0]) rfl rfl rfl ?_
      refine w_cw (np := 14) (as := [eI (1)]) (l2 := [some (eR a0), some (eI (1))]) (rest := []) rfl rfl rfl (Nat.ble_eq.mp rfl) rfl rfl rfl (hI.kd gA0 (by decide) (n := 14) rfl) rfl ?_
      refine w_t (np := 1) (l2 := [some (eR a0), some (eI (1))]) (s2 := [eR a0]) rfl (s_an rfl (pos_g hI gA0 (by decide))) rfl ?_
      refine w_t (np := 2) (l2 := [some (eR a0), some (eI (1))]) (s2 := [eI (1), eR a0]) rfl rfl rfl ?_
      refine j_pf (np := 5) (w := 1) rfl rfl hI gA0 (by decide) (n := 14) rfl rfl (hO_i (lo := -2147483648) (hi := 2147483647) rfl (by decide)) ?_
      intro m3 I4 W5
      have F6 : Fr l_204 0 0 g μ m3 := F0.w W5 gA0 rfl
      refine w_t (np := 6) (l2 := [some (eR a0), some (eI (1))]) (s2 := [eI (-1)]) rfl rfl rfl ?_
      refine b_ri rfl rfl ?_
      show ex_q (dt_fg L ρ) rc (d + 1, (204, 14, [some (eR a0), some (eI (a1))], [eI (-1)]), f :: F, m3)
      exact b_ri rfl rfl (K m3 (-1) I4 F6 (by decide))
def l_365 : List Nat := [3584]
theorem s_365 {L : Nat} {ρ : Nat → Int} {rc : eQ} {d : Nat} {f : eFr} {F : List eFr} {μ : eM} {g : Nat → Nat} {a0 : Nat} {a1 : Int} (hI : SI g μ) (gA0 : g a0 = 14) (bA1 : 0 ≤ a1 ∧ a1 ≤ 0) (K : ∀ (μ2 : eM), SI g μ2 → Fr l_365 0 0 g μ μ2 → ex_q (dt_fg L ρ) rc (d + 1, (f.1, f.2.1, f.2.2.1, f.2.2.2), F, μ2)) : ex_q (dt_fg L ρ) rc (d, (365, 0, [some (eR a0), some (eI (a1)), none, none], []), f :: F, μ) := by
  have F0 : Fr l_365 0 0 g μ μ := Fr.r
  refine w_t (np := 1) (l2 := [some (eR a0), some (eI (a1)), none, none]) (s2 := [eI (0)]) rfl rfl rfl ?_
  refine w_t (np := 2) (l2 := [some (eR a0), some (eI (a1)), some (eI (0)), none]) (s2 := []) rfl rfl rfl ?_
  refine w_t (np := 3) (l2 := [some (eR a0), some (eI (a1)), some (eI (0)), none]) (s2 := [eR a0]) rfl (s_an rfl (pos_g hI gA0 (by decide))) rfl ?_
  refine j_len (np := 4) rfl rfl hI gA0 (by decide) (c := 100) (n := 128) rfl rfl rfl ?_
  rw [show ((128 : Nat) : Int) = 128 from rfl]
  refine w_t (np := 5) (l2 := [some (eR a0), some (eI (a1)), some (eI (0)), some (eI (128))]) (s2 := []) rfl rfl rfl ?_
  have hL5 : ∀ (n1 : Nat) (m5 : eM) (i3 : Int), SI g m5 → Fr l_365 0 0 g μ m5 → (0 ≤ i3 ∧ i3 ≤ 128) → n1 = (128 - i3).toNat → ex_q (dt_fg L ρ) rc (d, (365, 5, [some (eR a0), some (eI (a1)), some (eI (i3)), some (eI (128))], []), f :: F, m5) := by
    intro n1
    induction n1 using Nat.strongRecOn with
    | _ n1 ih2 =>
    intro m5 i3 I6 F7 b4 hn8
    refine w_t (np := 6) (l2 := [some (eR a0), some (eI (a1)), some (eI (i3)), some (eI (128))]) (s2 := [eI (i3)]) rfl rfl rfl ?_
    refine w_t (np := 7) (l2 := [some (eR a0), some (eI (a1)), some (eI (i3)), some (eI (128))]) (s2 := [eI (128), eI (i3)]) rfl rfl rfl ?_
    refine b_cge (t1 := 20) (t2 := 10) rfl rfl rfl (ev_w_in (by omega) (by omega)) rfl (fun g9 => ?_) (fun g9 => ?_)
    · have b10 : 128 ≤ i3 ∧ i3 ≤ 128 := by omega
      exact v_rv rfl rfl (K m5 I6 F7)
    · have b10 : 0 ≤ i3 ∧ i3 ≤ 127 := by omega
      refine w_t (np := 11) (l2 := [some (eR a0), some (eI (a1)), some (eI (i3)), some (eI (128))]) (s2 := [eR a0]) rfl (s_an rfl (pos_g I6 gA0 (by decide))) rfl ?_
      refine w_t (np := 12) (l2 := [some (eR a0), some (eI (a1)), some (eI (i3)), some (eI (128))]) (s2 := [eI (i3), eR a0]) rfl rfl rfl ?_
      refine w_t (np := 13) (l2 := [some (eR a0), some (eI (a1)), some (eI (i3)), some (eI (128))]) (s2 := [eI (a1), eI (i3), eR a0]) rfl rfl rfl ?_
      refine j_as (np := 14) rfl rfl I6 gA0 (by decide) (n := 128) rfl rfl (lo := 0) (hi := 64) (fun _ => rfl) (by omega) (by omega) (by omega) ?_
      intro m10 I11 W12
      have F13 : Fr l_365 0 0 g μ m10 := F7.v W12 gA0 rfl rfl
      obtain ⟨v14, e15⟩ : ∃ zz : Int, zz = (i3) + (1) := ⟨_, rfl⟩
      have b16 : 1 ≤ v14 ∧ v14 ≤ 128 := by omega
      refine w_t (np := 17) (l2 := [some (eR a0), some (eI (a1)), some (eI (v14)), some (eI (128))]) (s2 := []) rfl (b_iinc rfl (by rw [← e15]; exact ev_w_in (by omega) (by omega)) rfl) rfl ?_
      refine w_go (t1 := 5) rfl rfl ?_
      exact ih2 (128 - (v14)).toNat (by omega) m10 (v14) I11 F13 (by omega)     rfl
  exact hL5 _ μ (0) hI F0 (by decide)     rfl
def l_365_2 : List Nat := [4352]
theorem s_365_2 {L : Nat} {ρ : Nat → Int} {rc : eQ} {d : Nat} {f : eFr} {F : List eFr} {μ : eM} {g : Nat → Nat} {a0 : Nat} {a1 : Int} (hI : SI g μ) (gA0 : g a0 = 17) (bA1 : 0 ≤ a1 ∧ a1 ≤ 0) (K : ∀ (μ2 : eM), SI g μ2 → Fr l_365_2 0 0 g μ μ2 → ex_q (dt_fg L ρ) rc (d + 1, (f.1, f.2.1, f.2.2.1, f.2.2.2), F, μ2)) : ex_q (dt_fg L ρ) rc (d, (365, 0, [some (eR a0), some (eI (a1)), none, none], []), f :: F, μ) := by
  have F0 : Fr l_365_2 0 0 g μ μ := Fr.r
  refine w_t (np := 1) (l2 := [some (eR a0), some (eI (a1)), none, none]) (s2 := [eI (0)]) rfl rfl rfl ?_
  refine w_t (np := 2) (l2 := [some (eR a0), some (eI (a1)), some (eI (0)), none]) (s2 := []) rfl rfl rfl ?_
  refine w_t (np := 3) (l2 := [some (eR a0), some (eI (a1)), some (eI (0)), none]) (s2 := [eR a0]) rfl (s_an rfl (pos_g hI gA0 (by decide))) rfl ?_
  refine j_len (np := 4) rfl rfl hI gA0 (by decide) (c := 100) (n := 1024) rfl rfl rfl ?_
  rw [show ((1024 : Nat) : Int) = 1024 from rfl]
  refine w_t (np := 5) (l2 := [some (eR a0), some (eI (a1)), some (eI (0)), some (eI (1024))]) (s2 := []) rfl rfl rfl ?_
  have hL5 : ∀ (n1 : Nat) (m5 : eM) (i3 : Int), SI g m5 → Fr l_365_2 0 0 g μ m5 → (0 ≤ i3 ∧ i3 ≤ 1024) → n1 = (1024 - i3).toNat → ex_q (dt_fg L ρ) rc (d, (365, 5, [some (eR a0), some (eI (a1)), some (eI (i3)), some (eI (1024))], []), f :: F, m5) := by
    intro n1
    induction n1 using Nat.strongRecOn with
    | _ n1 ih2 =>
    intro m5 i3 I6 F7 b4 hn8
    refine w_t (np := 6) (l2 := [some (eR a0), some (eI (a1)), some (eI (i3)), some (eI (1024))]) (s2 := [eI (i3)]) rfl rfl rfl ?_
    refine w_t (np := 7) (l2 := [some (eR a0), some (eI (a1)), some (eI (i3)), some (eI (1024))]) (s2 := [eI (1024), eI (i3)]) rfl rfl rfl ?_
    refine b_cge (t1 := 20) (t2 := 10) rfl rfl rfl (ev_w_in (by omega) (by omega)) rfl (fun g9 => ?_) (fun g9 => ?_)
    · have b10 : 1024 ≤ i3 ∧ i3 ≤ 1024 := by omega
      exact v_rv rfl rfl (K m5 I6 F7)
    · have b10 : 0 ≤ i3 ∧ i3 ≤ 1023 := by omega
      refine w_t (np := 11) (l2 := [some (eR a0), some (eI (a1)), some (eI (i3)), some (eI (1024))]) (s2 := [eR a0]) rfl (s_an rfl (pos_g I6 gA0 (by decide))) rfl ?_
      refine w_t (np := 12) (l2 := [some (eR a0), some (eI (a1)), some (eI (i3)), some (eI (1024))]) (s2 := [eI (i3), eR a0]) rfl rfl rfl ?_
      refine w_t (np := 13) (l2 := [some (eR a0), some (eI (a1)), some (eI (i3)), some (eI (1024))]) (s2 := [eI (a1), eI (i3), eR a0]) rfl rfl rfl ?_
      refine j_as (np := 14) rfl rfl I6 gA0 (by decide) (n := 1024) rfl rfl (lo := 0) (hi := 512) (fun _ => rfl) (by omega) (by omega) (by omega) ?_
      intro m10 I11 W12
      have F13 : Fr l_365_2 0 0 g μ m10 := F7.v W12 gA0 rfl rfl
      obtain ⟨v14, e15⟩ : ∃ zz : Int, zz = (i3) + (1) := ⟨_, rfl⟩
      have b16 : 1 ≤ v14 ∧ v14 ≤ 1024 := by omega
      refine w_t (np := 17) (l2 := [some (eR a0), some (eI (a1)), some (eI (v14)), some (eI (1024))]) (s2 := []) rfl (b_iinc rfl (by rw [← e15]; exact ev_w_in (by omega) (by omega)) rfl) rfl ?_
      refine w_go (t1 := 5) rfl rfl ?_
      exact ih2 (1024 - (v14)).toNat (by omega) m10 (v14) I11 F13 (by omega)     rfl
  exact hL5 _ μ (0) hI F0 (by decide)     rfl
def l_365_3 : List Nat := [9472]
theorem s_365_3 {L : Nat} {ρ : Nat → Int} {rc : eQ} {d : Nat} {f : eFr} {F : List eFr} {μ : eM} {g : Nat → Nat} {a0 : Nat} {a1 : Int} (hI : SI g μ) (gA0 : g a0 = 37) (bA1 : -1 ≤ a1 ∧ a1 ≤ -1) (K : ∀ (μ2 : eM), SI g μ2 → Fr l_365_3 0 0 g μ μ2 → ex_q (dt_fg L ρ) rc (d + 1, (f.1, f.2.1, f.2.2.1, f.2.2.2), F, μ2)) : ex_q (dt_fg L ρ) rc (d, (365, 0, [some (eR a0), some (eI (a1)), none, none], []), f :: F, μ) := by
  have F0 : Fr l_365_3 0 0 g μ μ := Fr.r
  refine w_t (np := 1) (l2 := [some (eR a0), some (eI (a1)), none, none]) (s2 := [eI (0)]) rfl rfl rfl ?_
  refine w_t (np := 2) (l2 := [some (eR a0), some (eI (a1)), some (eI (0)), none]) (s2 := []) rfl rfl rfl ?_
  refine w_t (np := 3) (l2 := [some (eR a0), some (eI (a1)), some (eI (0)), none]) (s2 := [eR a0]) rfl (s_an rfl (pos_g hI gA0 (by decide))) rfl ?_
  refine j_len (np := 4) rfl rfl hI gA0 (by decide) (c := 100) (n := 512) rfl rfl rfl ?_
  rw [show ((512 : Nat) : Int) = 512 from rfl]
  refine w_t (np := 5) (l2 := [some (eR a0), some (eI (a1)), some (eI (0)), some (eI (512))]) (s2 := []) rfl rfl rfl ?_
  have hL5 : ∀ (n1 : Nat) (m5 : eM) (i3 : Int), SI g m5 → Fr l_365_3 0 0 g μ m5 → (0 ≤ i3 ∧ i3 ≤ 512) → n1 = (512 - i3).toNat → ex_q (dt_fg L ρ) rc (d, (365, 5, [some (eR a0), some (eI (a1)), some (eI (i3)), some (eI (512))], []), f :: F, m5) := by
    intro n1
    induction n1 using Nat.strongRecOn with
    | _ n1 ih2 =>
    intro m5 i3 I6 F7 b4 hn8
    refine w_t (np := 6) (l2 := [some (eR a0), some (eI (a1)), some (eI (i3)), some (eI (512))]) (s2 := [eI (i3)]) rfl rfl rfl ?_
    refine w_t (np := 7) (l2 := [some (eR a0), some (eI (a1)), some (eI (i3)), some (eI (512))]) (s2 := [eI (512), eI (i3)]) rfl rfl rfl ?_
    refine b_cge (t1 := 20) (t2 := 10) rfl rfl rfl (ev_w_in (by omega) (by omega)) rfl (fun g9 => ?_) (fun g9 => ?_)
    · have b10 : 512 ≤ i3 ∧ i3 ≤ 512 := by omega
      exact v_rv rfl rfl (K m5 I6 F7)
    · have b10 : 0 ≤ i3 ∧ i3 ≤ 511 := by omega
      refine w_t (np := 11) (l2 := [some (eR a0), some (eI (a1)), some (eI (i3)), some (eI (512))]) (s2 := [eR a0]) rfl (s_an rfl (pos_g I6 gA0 (by decide))) rfl ?_
      refine w_t (np := 12) (l2 := [some (eR a0), some (eI (a1)), some (eI (i3)), some (eI (512))]) (s2 := [eI (i3), eR a0]) rfl rfl rfl ?_
      refine w_t (np := 13) (l2 := [some (eR a0), some (eI (a1)), some (eI (i3)), some (eI (512))]) (s2 := [eI (a1), eI (i3), eR a0]) rfl rfl rfl ?_
      refine j_as (np := 14) rfl rfl I6 gA0 (by decide) (n := 512) rfl rfl (lo := -1) (hi := 2669) (fun _ => rfl) (by omega) (by omega) (by omega) ?_
      intro m10 I11 W12
      have F13 : Fr l_365_3 0 0 g μ m10 := F7.v W12 gA0 rfl rfl
      obtain ⟨v14, e15⟩ : ∃ zz : Int, zz = (i3) + (1) := ⟨_, rfl⟩
      have b16 : 1 ≤ v14 ∧ v14 ≤ 512 := by omega
      refine w_t (np := 17) (l2 := [some (eR a0), some (eI (a1)), some (eI (v14)), some (eI (512))]) (s2 := []) rfl (b_iinc rfl (by rw [← e15]; exact ev_w_in (by omega) (by omega)) rfl) rfl ?_
      refine w_go (t1 := 5) rfl rfl ?_
      exact ih2 (512 - (v14)).toNat (by omega) m10 (v14) I11 F13 (by omega)     rfl
  exact hL5 _ μ (0) hI F0 (by decide)     rfl
def l_365_4 : List Nat := [9984]
theorem s_365_4 {L : Nat} {ρ : Nat → Int} {rc : eQ} {d : Nat} {f : eFr} {F : List eFr} {μ : eM} {g : Nat → Nat} {a0 : Nat} {a1 : Int} (hI : SI g μ) (gA0 : g a0 = 39) (bA1 : -1 ≤ a1 ∧ a1 ≤ -1) (K : ∀ (μ2 : eM), SI g μ2 → Fr l_365_4 0 0 g μ μ2 → ex_q (dt_fg L ρ) rc (d + 1, (f.1, f.2.1, f.2.2.1, f.2.2.2), F, μ2)) : ex_q (dt_fg L ρ) rc (d, (365, 0, [some (eR a0), some (eI (a1)), none, none], []), f :: F, μ) := by
  have F0 : Fr l_365_4 0 0 g μ μ := Fr.r
  refine w_t (np := 1) (l2 := [some (eR a0), some (eI (a1)), none, none]) (s2 := [eI (0)]) rfl rfl rfl ?_
  refine w_t (np := 2) (l2 := [some (eR a0), some (eI (a1)), some (eI (0)), none]) (s2 := []) rfl rfl rfl ?_
  refine w_t (np := 3) (l2 := [some (eR a0), some (eI (a1)), some (eI (0)), none]) (s2 := [eR a0]) rfl (s_an rfl (pos_g hI gA0 (by decide))) rfl ?_
  refine j_len (np := 4) rfl rfl hI gA0 (by decide) (c := 100) (n := 890) rfl rfl rfl ?_
  rw [show ((890 : Nat) : Int) = 890 from rfl]
  refine w_t (np := 5) (l2 := [some (eR a0), some (eI (a1)), some (eI (0)), some (eI (890))]) (s2 := []) rfl rfl rfl ?_
  have hL5 : ∀ (n1 : Nat) (m5 : eM) (i3 : Int), SI g m5 → Fr l_365_4 0 0 g μ m5 → (0 ≤ i3 ∧ i3 ≤ 890) → n1 = (890 - i3).toNat → ex_q (dt_fg L ρ) rc (d, (365, 5, [some (eR a0), some (eI (a1)), some (eI (i3)), some (eI (890))], []), f :: F, m5) := by
    intro n1
    induction n1 using Nat.strongRecOn with
    | _ n1 ih2 =>
    intro m5 i3 I6 F7 b4 hn8
    refine w_t (np := 6) (l2 := [some (eR a0), some (eI (a1)), some (eI (i3)), some (eI (890))]) (s2 := [eI (i3)]) rfl rfl rfl ?_
    refine w_t (np := 7) (l2 := [some (eR a0), some (eI (a1)), some (eI (i3)), some (eI (890))]) (s2 := [eI (890), eI (i3)]) rfl rfl rfl ?_
    refine b_cge (t1 := 20) (t2 := 10) rfl rfl rfl (ev_w_in (by omega) (by omega)) rfl (fun g9 => ?_) (fun g9 => ?_)
    · have b10 : 890 ≤ i3 ∧ i3 ≤ 890 := by omega
      exact v_rv rfl rfl (K m5 I6 F7)
    · have b10 : 0 ≤ i3 ∧ i3 ≤ 889 := by omega
      refine w_t (np := 11) (l2 := [some (eR a0), some (eI (a1)), some (eI (i3)), some (eI (890))]) (s2 := [eR a0]) rfl (s_an rfl (pos_g I6 gA0 (by decide))) rfl ?_
      refine w_t (np := 12) (l2 := [some (eR a0), some (eI (a1)), some (eI (i3)), some (eI (890))]) (s2 := [eI (i3), eR a0]) rfl rfl rfl ?_
      refine w_t (np := 13) (l2 := [some (eR a0), some (eI (a1)), some (eI (i3)), some (eI (890))]) (s2 := [eI (a1), eI (i3), eR a0]) rfl rfl rfl ?_
      refine j_as (np := 14) rfl rfl I6 gA0 (by decide) (n := 890) rfl rfl (lo := -2147483648) (hi := 2147483647) (fun _ => rfl) (by omega) (by omega) (by omega) ?_
      intro m10 I11 W12
      have F13 : Fr l_365_4 0 0 g μ m10 := F7.v W12 gA0 rfl rfl
      obtain ⟨v14, e15⟩ : ∃ zz : Int, zz = (i3) + (1) := ⟨_, rfl⟩
      have b16 : 1 ≤ v14 ∧ v14 ≤ 890 := by omega
      refine w_t (np := 17) (l2 := [some (eR a0), some (eI (a1)), some (eI (v14)), some (eI (890))]) (s2 := []) rfl (b_iinc rfl (by rw [← e15]; exact ev_w_in (by omega) (by omega)) rfl) rfl ?_
      refine w_go (t1 := 5) rfl rfl ?_
      exact ih2 (890 - (v14)).toNat (by omega) m10 (v14) I11 F13 (by omega)     rfl
  exact hL5 _ μ (0) hI F0 (by decide)     rfl
def l_365_5 : List Nat := [13056]
theorem s_365_5 {L : Nat} {ρ : Nat → Int} {rc : eQ} {d : Nat} {f : eFr} {F : List eFr} {μ : eM} {g : Nat → Nat} {a0 : Nat} {a1 : Int} (hI : SI g μ) (gA0 : g a0 = 51) (bA1 : -1 ≤ a1 ∧ a1 ≤ -1) (K : ∀ (μ2 : eM), SI g μ2 → Fr l_365_5 0 0 g μ μ2 → ex_q (dt_fg L ρ) rc (d + 1, (f.1, f.2.1, f.2.2.1, f.2.2.2), F, μ2)) : ex_q (dt_fg L ρ) rc (d, (365, 0, [some (eR a0), some (eI (a1)), none, none], []), f :: F, μ) := by
  have F0 : Fr l_365_5 0 0 g μ μ := Fr.r
  refine w_t (np := 1) (l2 := [some (eR a0), some (eI (a1)), none, none]) (s2 := [eI (0)]) rfl rfl rfl ?_
  refine w_t (np := 2) (l2 := [some (eR a0), some (eI (a1)), some (eI (0)), none]) (s2 := []) rfl rfl rfl ?_
  refine w_t (np := 3) (l2 := [some (eR a0), some (eI (a1)), some (eI (0)), none]) (s2 := [eR a0]) rfl (s_an rfl (pos_g hI gA0 (by decide))) rfl ?_
  refine j_len (np := 4) rfl rfl hI gA0 (by decide) (c := 100) (n := 4) rfl rfl rfl ?_
  rw [show ((4 : Nat) : Int) = 4 from rfl]
  refine w_t (np := 5) (l2 := [some (eR a0), some (eI (a1)), some (eI (0)), some (eI (4))]) (s2 := []) rfl rfl rfl ?_
  have hL5 : ∀ (n1 : Nat) (m5 : eM) (i3 : Int), SI g m5 → Fr l_365_5 0 0 g μ m5 → (0 ≤ i3 ∧ i3 ≤ 4) → n1 = (4 - i3).toNat → ex_q (dt_fg L ρ) rc (d, (365, 5, [some (eR a0), some (eI (a1)), some (eI (i3)), some (eI (4))], []), f :: F, m5) := by
    intro n1
    induction n1 using Nat.strongRecOn with
    | _ n1 ih2 =>
    intro m5 i3 I6 F7 b4 hn8
    refine w_t (np := 6) (l2 := [some (eR a0), some (eI (a1)), some (eI (i3)), some (eI (4))]) (s2 := [eI (i3)]) rfl rfl rfl ?_
    refine w_t (np := 7) (l2 := [some (eR a0), some (eI (a1)), some (eI (i3)), some (eI (4))]) (s2 := [eI (4), eI (i3)]) rfl rfl rfl ?_
    refine b_cge (t1 := 20) (t2 := 10) rfl rfl rfl (ev_w_in (by omega) (by omega)) rfl (fun g9 => ?_) (fun g9 => ?_)
    · have b10 : 4 ≤ i3 ∧ i3 ≤ 4 := by omega
      exact v_rv rfl rfl (K m5 I6 F7)
    · have b10 : 0 ≤ i3 ∧ i3 ≤ 3 := by omega
      refine w_t (np := 11) (l2 := [some (eR a0), some (eI (a1)), some (eI (i3)), some (eI (4))]) (s2 := [eR a0]) rfl (s_an rfl (pos_g I6 gA0 (by decide))) rfl ?_
      refine w_t (np := 12) (l2 := [some (eR a0), some (eI (a1)), some (eI (i3)), some (eI (4))]) (s2 := [eI (i3), eR a0]) rfl rfl rfl ?_
      refine w_t (np := 13) (l2 := [some (eR a0), some (eI (a1)), some (eI (i3)), some (eI (4))]) (s2 := [eI (a1), eI (i3), eR a0]) rfl rfl rfl ?_
      refine j_as (np := 14) rfl rfl I6 gA0 (by decide) (n := 4) rfl rfl (lo := -1) (hi := 64) (fun _ => rfl) (by omega) (by omega) (by omega) ?_
      intro m10 I11 W12
      have F13 : Fr l_365_5 0 0 g μ m10 := F7.v W12 gA0 rfl rfl
      obtain ⟨v14, e15⟩ : ∃ zz : Int, zz = (i3) + (1) := ⟨_, rfl⟩
      have b16 : 1 ≤ v14 ∧ v14 ≤ 4 := by omega
      refine w_t (np := 17) (l2 := [some (eR a0), some (eI (a1)), some (eI (v14)), some (eI (4))]) (s2 := []) rfl (b_iinc rfl (by rw [← e15]; exact ev_w_in (by omega) (by omega)) rfl) rfl ?_
      refine w_go (t1 := 5) rfl rfl ?_
      exact ih2 (4 - (v14)).toNat (by omega) m10 (v14) I11 F13 (by omega)     rfl
  exact hL5 _ μ (0) hI F0 (by decide)     rfl
def l_3 : List Nat := [11520, 11264, 11008]
theorem s_3 {L : Nat} {ρ : Nat → Int} {rc : eQ} {d : Nat} {f : eFr} {F : List eFr} {μ : eM} {g : Nat → Nat} {a0 : Nat} {a1 : Int} {a2 : Int} (hI : SI g μ) (gA0 : g a0 = 42) (bA1 : 0 ≤ a1 ∧ a1 ≤ 889) (bA2 : -1 ≤ a2 ∧ a2 ≤ 889) (K : ∀ (μ2 : eM), SI g μ2 → Fr l_3 0 0 g μ μ2 → ex_q (dt_fg L ρ) rc (d + 3, (f.1, f.2.1, f.2.2.1, f.2.2.2), F, μ2)) : ex_q (dt_fg L ρ) rc (d + 2, (3, 0, [some (eR a0), some (eI (a1)), some (eI (a2)), none, none, none, none, none], []), f :: F, μ) := by
  have F0 : Fr l_3 0 0 g μ μ := Fr.r
  refine w_t (np := 1) (l2 := [some (eR a0), some (eI (a1)), some (eI (a2)), none, none, none, none, none]) (s2 := [eR a0]) rfl (s_an rfl (pos_g hI gA0 (by decide))) rfl ?_
  refine j_gr (np := 4) rfl rfl hI gA0 (by decide) (n := 10) rfl rfl rfl ?_
  intro v1 e2 b3 z4
  rcases hor2 b3 with b3 | b3
  · refine w_t (np := 5) (l2 := [some (eR a0), some (eI (a1)), some (eI (a2)), none, none, none, none, none]) (s2 := [eI (a1), eR v1]) rfl rfl rfl ?_
    refine w_cw (np := 8) (as := [eI (a1)]) (l2 := [some (eR v1), some (eI (a1))]) (rest := []) rfl rfl rfl (Nat.ble_eq.mp rfl) rfl rfl rfl (hI.kd b3 (by decide) (n := 8) rfl) rfl ?_
    refine s_19 (a1 := a1) hI b3 (by omega) ?_
    intro v5 b6
    show ex_q (dt_fg L ρ) rc (d + 2, (3, 8, [some (eR a0), some (eI (a1)), some (eI (a2)), none, none, none, none, none], [eI (v5)]), f :: F, μ)
    refine w_t (np := 9) (l2 := [some (eR a0), some (eI (a1)), some (eI (a2)), some (eI (v5)), none, none, none, none]) (s2 := []) rfl rfl rfl ?_
    refine w_t (np := 10) (l2 := [some (eR a0), some (eI (a1)), some (eI (a2)), some (eI (v5)), none, none, none, none]) (s2 := [eI (0)]) rfl rfl rfl ?_
    refine w_t (np := 12) (l2 := [some (eR a0), some (eI (a1)), some (eI (a2)), some (eI (v5)), some (eI (0)), none, none, none]) (s2 := []) rfl rfl rfl ?_
    have hL12 : ∀ (n7 : Nat) (m12 : eM) (i9 : Int) (o11 : Option eV), SI g m12 → Fr l_3 0 0 g μ m12 → (0 ≤ i9 ∧ i9 ≤ 3) → m12.1 a0 5 = ((v1 : Nat) : Int) → n7 = (3 - i9).toNat → ex_q (dt_fg L ρ) rc (d + 2, (3, 12, [some (eR a0), some (eI (a1)), some (eI (a2)), some (eI (v5)), some (eI (i9)), o11, none, none], []), f :: F, m12) := by
      intro n7
      induction n7 using Nat.strongRecOn with
      | _ n7 ih8 =>
      intro m12 i9 o11 I13 F14 b10 k15 hn16
      refine w_t (np := 14) (l2 := [some (eR a0), some (eI (a1)), some (eI (a2)), some (eI (v5)), some (eI (i9)), o11, none, none]) (s2 := [eI (i9)]) rfl rfl rfl ?_
      refine w_t (np := 15) (l2 := [some (eR a0), some (eI (a1)), some (eI (a2)), some (eI (v5)), some (eI (i9)), o11, none, none]) (s2 := [eI (3), eI (i9)]) rfl rfl rfl ?_
      refine b_cge (t1 := 88) (t2 := 18) rfl rfl rfl (ev_w_in (by omega) (by omega)) rfl (fun g17 => ?_) (fun g17 => ?_)
      · have b18 : 3 ≤ i9 ∧ i9 ≤ 3 := by omega
        refine w_t (np := 89) (l2 := [some (eR a0), some (eI (a1)), some (eI (a2)), some (eI (v5)), some (eI (i9)), o11, none, none]) (s2 := [eR a0]) rfl (s_an rfl (pos_g I13 gA0 (by decide))) rfl ?_
        refine w_gf (np := 92) (v := eR v1) rfl rfl (I13.kd gA0 (by decide) (n := 10) rfl) (by rw [k15]; rfl) ?_
        refine w_t (np := 93) (l2 := [some (eR a0), some (eI (a1)), some (eI (a2)), some (eI (v5)), some (eI (i9)), o11, none, none]) (s2 := [eI (a1), eR v1]) rfl rfl rfl ?_
        refine w_t (np := 94) (l2 := [some (eR a0), some (eI (a1)), some (eI (a2)), some (eI (v5)), some (eI (i9)), o11, none, none]) (s2 := [eI (0), eI (a1), eR v1]) rfl rfl rfl ?_
        refine w_cw (np := 97) (as := [eI (a1), eI (0)]) (l2 := [some (eR v1), some (eI (a1)), some (eI (0))]) (rest := []) rfl rfl rfl (Nat.ble_eq.mp rfl) rfl rfl rfl (I13.kd b3 (by decide) (n := 8) rfl) rfl ?_
        refine s_23 (a1 := a1) (a2 := 0) I13 b3 (by omega) (by decide) ?_
        intro v18 b19
        show ex_q (dt_fg L ρ) rc (d + 2, (3, 97, [some (eR a0), some (eI (a1)), some (eI (a2)), some (eI (v5)), some (eI (i9)), o11, none, none], [eI (v18)]), f :: F, m12)
        refine w_t (np := 99) (l2 := [some (eR a0), some (eI (a1)), some (eI (a2)), some (eI (v5)), some (eI (v18)), o11, none, none]) (s2 := []) rfl rfl rfl ?_
        refine w_t (np := 100) (l2 := [some (eR a0), some (eI (a1)), some (eI (a2)), some (eI (v5)), some (eI (v18)), o11, none, none]) (s2 := [eR a0]) rfl (s_an rfl (pos_g I13 gA0 (by decide))) rfl ?_
        refine w_gf (np := 103) (v := eR v1) rfl rfl (I13.kd gA0 (by decide) (n := 10) rfl) (by rw [k15]; rfl) ?_
        refine w_t (np := 104) (l2 := [some (eR a0), some (eI (a1)), some (eI (a2)), some (eI (v5)), some (eI (v18)), o11, none, none]) (s2 := [eI (a1), eR v1]) rfl rfl rfl ?_
        refine w_t (np := 105) (l2 := [some (eR a0), some (eI (a1)), some (eI (a2)), some (eI (v5)), some (eI (v18)), o11, none, none]) (s2 := [eI (1), eI (a1), eR v1]) rfl rfl rfl ?_
        refine w_cw (np := 108) (as := [eI (a1), eI (1)]) (l2 := [some (eR v1), some (eI (a1)), some (eI (1))]) (rest := []) rfl rfl rfl (Nat.ble_eq.mp rfl) rfl rfl rfl (I13.kd b3 (by decide) (n := 8) rfl) rfl ?_
        refine s_23 (a1 := a1) (a2 := 1) I13 b3 (by omega) (by decide) ?_
        intro v20 b21
        show ex_q (dt_fg L ρ) rc (d + 2, (3, 108, [some (eR a0), some (eI (a1)), some (eI (a2)), some (eI (v5)), some (eI (v18)), o11, none, none], [eI (v20)]), f :: F, m12)
        refine w_t (np := 110) (l2 := [some (eR a0), some (eI (a1)), some (eI (a2)), some (eI (v5)), some (eI (v18)), some (eI (v20)), none, none]) (s2 := []) rfl rfl rfl ?_
        refine w_t (np := 111) (l2 := [some (eR a0), some (eI (a1)), some (eI (a2)), some (eI (v5)), some (eI (v18)), some (eI (v20)), none, none]) (s2 := [eR a0]) rfl (s_an rfl (pos_g I13 gA0 (by decide))) rfl ?_
        refine w_gf (np := 114) (v := eR v1) rfl rfl (I13.kd gA0 (by decide) (n := 10) rfl) (by rw [k15]; rfl) ?_
        refine w_t (np := 115) (l2 := [some (eR a0), some (eI (a1)), some (eI (a2)), some (eI (v5)), some (eI (v18)), some (eI (v20)), none, none]) (s2 := [eI (a1), eR v1]) rfl rfl rfl ?_
        refine w_cw (np := 118) (as := [eI (a1)]) (l2 := [some (eR v1), some (eI (a1))]) (rest := []) rfl rfl rfl (Nat.ble_eq.mp rfl) rfl rfl rfl (I13.kd b3 (by decide) (n := 8) rfl) rfl ?_
        refine s_24 (a1 := a1) I13 b3 (by omega) ?_
        intro v22 b23
        show ex_q (dt_fg L ρ) rc (d + 2, (3, 118, [some (eR a0), some (eI (a1)), some (eI (a2)), some (eI (v5)), some (eI (v18)), some (eI (v20)), none, none], [eI (v22)]), f :: F, m12)
        refine b_ile (t1 := 125) (t2 := 121) rfl rfl rfl (ev_w_in (by omega) (by omega)) (fun g24 => ?_) (fun g24 => ?_)
        · have b25 : -1 ≤ v22 ∧ v22 ≤ 0 := by omega
          refine w_t (np := 126) (l2 := [some (eR a0), some (eI (a1)), some (eI (a2)), some (eI (v5)), some (eI (v18)), some (eI (v20)), none, none]) (s2 := [eI (0)]) rfl rfl rfl ?_
          refine w_t (np := 128) (l2 := [some (eR a0), some (eI (a1)), some (eI (a2)), some (eI (v5)), some (eI (v18)), some (eI (v20)), some (eI (0)), none]) (s2 := []) rfl rfl rfl ?_
          refine w_t (np := 129) (l2 := [some (eR a0), some (eI (a1)), some (eI (a2)), some (eI (v5)), some (eI (v18)), some (eI (v20)), some (eI (0)), none]) (s2 := [eI (1)]) rfl rfl rfl ?_
          refine w_t (np := 130) (l2 := [some (eR a0), some (eI (a1)), some (eI (a2)), some (eI (v5)), some (eI (v18)), some (eI (v20)), some (eI (0)), none]) (s2 := [eI (3), eI (1)]) rfl rfl rfl ?_
          refine w_t (np := 131) (l2 := [some (eR a0), some (eI (a1)), some (eI (a2)), some (eI (v5)), some (eI (v18)), some (eI (v20)), some (eI (0)), none]) (s2 := [eI (v5), eI (3), eI (1)]) rfl rfl rfl ?_
          obtain ⟨v25, e26⟩ : ∃ zz : Int, zz = (3) * (v5) := ⟨_, rfl⟩
          have b27 : 0 ≤ v25 ∧ v25 ≤ 3 := by omega
          refine w_t (np := 132) (l2 := [some (eR a0), some (eI (a1)), some (eI (a2)), some (eI (v5)), some (eI (v18)), some (eI (v20)), some (eI (0)), none]) (s2 := [eI (v25), eI (1)]) rfl (b_imul (by rw [← e26]; exact ev_w_in (by omega) (by omega))) rfl ?_
          obtain ⟨v28, e29⟩ : ∃ zz : Int, zz = (1) + (v25) := ⟨_, rfl⟩
          have b30 : 1 ≤ v28 ∧ v28 ≤ 4 := by omega
          refine w_t (np := 133) (l2 := [some (eR a0), some (eI (a1)), some (eI (a2)), some (eI (v5)), some (eI (v18)), some (eI (v20)), some (eI (0)), none]) (s2 := [eI (v28)]) rfl (b_iadd (by rw [← e29]; exact ev_w_in (by omega) (by omega))) rfl ?_
          refine w_t (np := 135) (l2 := [some (eR a0), some (eI (a1)), some (eI (a2)), some (eI (v5)), some (eI (v18)), some (eI (v20)), some (eI (0)), some (eI (v28))]) (s2 := []) rfl rfl rfl ?_
          refine w_t (np := 136) (l2 := [some (eR a0), some (eI (a1)), some (eI (a2)), some (eI (v5)), some (eI (v18)), some (eI (v20)), some (eI (0)), some (eI (v28))]) (s2 := [eR a0]) rfl (s_an rfl (pos_g I13 gA0 (by decide))) rfl ?_
          refine w_t (np := 137) (l2 := [some (eR a0), some (eI (a1)), some (eI (a2)), some (eI (v5)), some (eI (v18)), some (eI (v20)), some (eI (0)), some (eI (v28))]) (s2 := [eR a0, eR a0]) rfl (s_an rfl (pos_g I13 gA0 (by decide))) rfl ?_
          refine w_gf (np := 140) (v := eR v1) rfl rfl (I13.kd gA0 (by decide) (n := 10) rfl) (by rw [k15]; rfl) ?_
          refine w_t (np := 141) (l2 := [some (eR a0), some (eI (a1)), some (eI (a2)), some (eI (v5)), some (eI (v18)), some (eI (v20)), some (eI (0)), some (eI (v28))]) (s2 := [eI (a1), eR v1, eR a0]) rfl rfl rfl ?_
          refine w_t (np := 142) (l2 := [some (eR a0), some (eI (a1)), some (eI (a2)), some (eI (v5)), some (eI (v18)), some (eI (v20)), some (eI (0)), some (eI (v28))]) (s2 := [eI (0), eI (a1), eR v1, eR a0]) rfl rfl rfl ?_
          refine w_cw (np := 145) (as := [eI (a1), eI (0)]) (l2 := [some (eR v1), some (eI (a1)), some (eI (0))]) (rest := [eR a0]) rfl rfl rfl (Nat.ble_eq.mp rfl) rfl rfl rfl (I13.kd b3 (by decide) (n := 8) rfl) rfl ?_
          refine s_21 (a1 := a1) (a2 := 0) I13 b3 (by omega) (by decide) ?_
          intro v31 b32
          show ex_q (dt_fg L ρ) rc (d + 2, (3, 145, [some (eR a0), some (eI (a1)), some (eI (a2)), some (eI (v5)), some (eI (v18)), some (eI (v20)), some (eI (0)), some (eI (v28))], [eI (v31), eR a0]), f :: F, m12)
          refine w_t (np := 147) (l2 := [some (eR a0), some (eI (a1)), some (eI (a2)), some (eI (v5)), some (eI (v18)), some (eI (v20)), some (eI (0)), some (eI (v28))]) (s2 := [eI (0), eI (v31), eR a0]) rfl rfl rfl ?_
          refine b_ieq (t1 := 155) (t2 := 150) rfl rfl rfl rfl (fun g33 => ?_) (fun g33 => absurd g33 (by decide))
          refine w_t (np := 157) (l2 := [some (eR a0), some (eI (a1)), some (eI (a2)), some (eI (v5)), some (eI (v18)), some (eI (v20)), some (eI (0)), some (eI (v28))]) (s2 := [eI (v20), eI (v31), eR a0]) rfl rfl rfl ?_
          refine w_t (np := 159) (l2 := [some (eR a0), some (eI (a1)), some (eI (a2)), some (eI (v5)), some (eI (v18)), some (eI (v20)), some (eI (0)), some (eI (v28))]) (s2 := [eI (v28), eI (v20), eI (v31), eR a0]) rfl rfl rfl ?_
          refine w_cw (np := 162) (as := [eI (v31), eI (v20), eI (v28)]) (l2 := [some (eR a0), some (eI (v31)), some (eI (v20)), some (eI (v28))]) (rest := []) rfl rfl rfl (Nat.ble_eq.mp rfl) rfl rfl rfl (I13.kd gA0 (by decide) (n := 10) rfl) rfl ?_
          refine s_4 (a1 := v31) (a2 := v20) (a3 := v28) I13 gA0 (by omega) (by omega) (by omega) ?_
          intro m34 I35 F36
          have F37 : Fr l_3 0 0 g μ m34 := F14.t F36 rfl
          show ex_q (dt_fg L ρ) rc (d + 2, (3, 162, [some (eR a0), some (eI (a1)), some (eI (a2)), some (eI (v5)), some (eI (v18)), some (eI (v20)), some (eI (0)), some (eI (v28))], []), f :: F, m34)
          refine w_t (np := 163) (l2 := [some (eR a0), some (eI (a1)), some (eI (a2)), some (eI (v5)), some (eI (v18)), some (eI (v20)), some (eI (0)), some (eI (v28))]) (s2 := [eI (a1)]) rfl rfl rfl ?_
          refine w_t (np := 164) (l2 := [some (eR a0), some (eI (a1)), some (eI (a2)), some (eI (v5)), some (eI (v18)), some (eI (v20)), some (eI (0)), some (eI (v28))]) (s2 := [eI (a2), eI (a1)]) rfl rfl rfl ?_
          refine b_cge (t1 := 229) (t2 := 167) rfl rfl rfl (ev_w_in (by omega) (by omega)) (ev_w_in (by omega) (by omega)) (fun g38 => ?_) (fun g38 => ?_)
          · exact v_rv rfl rfl (K m34 I35 F37)
          · have b39 : 0 ≤ a1 ∧ a1 ≤ 888 := by omega
            have b40 : 1 ≤ a2 ∧ a2 ≤ 889 := by omega
            refine w_t (np := 168) (l2 := [some (eR a0), some (eI (a1)), some (eI (a2)), some (eI (v5)), some (eI (v18)), some (eI (v20)), some (eI (0)), some (eI (v28))]) (s2 := [eR a0]) rfl (s_an rfl (pos_g I35 gA0 (by decide))) rfl ?_
            refine w_t (np := 169) (l2 := [some (eR a0), some (eI (a1)), some (eI (a2)), some (eI (v5)), some (eI (v18)), some (eI (v20)), some (eI (0)), some (eI (v28))]) (s2 := [eR a0, eR a0]) rfl (s_an rfl (pos_g I35 gA0 (by decide))) rfl ?_
            refine w_gf (np := 172) (v := eR v1) rfl rfl (I35.kd gA0 (by decide) (n := 10) rfl) (by rw [(F36.k k15 gA0 (by decide) rfl)]; rfl) ?_
            refine w_t (np := 173) (l2 := [some (eR a0), some (eI (a1)), some (eI (a2)), some (eI (v5)), some (eI (v18)), some (eI (v20)), some (eI (0)), some (eI (v28))]) (s2 := [eI (a1), eR v1, eR a0]) rfl rfl rfl ?_
            refine w_t (np := 174) (l2 := [some (eR a0), some (eI (a1)), some (eI (a2)), some (eI (v5)), some (eI (v18)), some (eI (v20)), some (eI (0)), some (eI (v28))]) (s2 := [eI (1), eI (a1), eR v1, eR a0]) rfl rfl rfl ?_
            refine w_cw (np := 177) (as := [eI (a1), eI (1)]) (l2 := [some (eR v1), some (eI (a1)), some (eI (1))]) (rest := [eR a0]) rfl rfl rfl (Nat.ble_eq.mp rfl) rfl rfl rfl (I35.kd b3 (by decide) (n := 8) rfl) rfl ?_
            refine s_21 (a1 := a1) (a2 := 1) I35 b3 (by omega) (by decide) ?_
            intro v39 b40
            show ex_q (dt_fg L ρ) rc (d + 2, (3, 177, [some (eR a0), some (eI (a1)), some (eI (a2)), some (eI (v5)), some (eI (v18)), some (eI (v20)), some (eI (0)), some (eI (v28))], [eI (v39), eR a0]), f :: F, m34)
            refine w_t (np := 179) (l2 := [some (eR a0), some (eI (a1)), some (eI (a2)), some (eI (v5)), some (eI (v18)), some (eI (v20)), some (eI (0)), some (eI (v28))]) (s2 := [eI (0), eI (v39), eR a0]) rfl rfl rfl ?_
            refine b_ieq (t1 := 187) (t2 := 182) rfl rfl rfl rfl (fun g41 => ?_) (fun g41 => absurd g41 (by decide))
            refine w_t (np := 189) (l2 := [some (eR a0), some (eI (a1)), some (eI (a2)), some (eI (v5)), some (eI (v18)), some (eI (v20)), some (eI (0)), some (eI (v28))]) (s2 := [eI (v18), eI (v39), eR a0]) rfl rfl rfl ?_
            refine w_t (np := 190) (l2 := [some (eR a0), some (eI (a1)), some (eI (a2)), some (eI (v5)), some (eI (v18)), some (eI (v20)), some (eI (0)), some (eI (v28))]) (s2 := [eI (5), eI (v18), eI (v39), eR a0]) rfl rfl rfl ?_
            obtain ⟨v42, e43⟩ : ∃ zz : Int, zz = (v18) + (5) := ⟨_, rfl⟩
            have b44 : 5 ≤ v42 ∧ v42 ≤ 14 := by omega
            refine w_t (np := 191) (l2 := [some (eR a0), some (eI (a1)), some (eI (a2)), some (eI (v5)), some (eI (v18)), some (eI (v20)), some (eI (0)), some (eI (v28))]) (s2 := [eI (v42), eI (v39), eR a0]) rfl (b_iadd (by rw [← e43]; exact ev_w_in (by omega) (by omega))) rfl ?_
            refine w_t (np := 193) (l2 := [some (eR a0), some (eI (a1)), some (eI (a2)), some (eI (v5)), some (eI (v18)), some (eI (v20)), some (eI (0)), some (eI (v28))]) (s2 := [eI (v28), eI (v42), eI (v39), eR a0]) rfl rfl rfl ?_
            refine w_t (np := 194) (l2 := [some (eR a0), some (eI (a1)), some (eI (a2)), some (eI (v5)), some (eI (v18)), some (eI (v20)), some (eI (0)), some (eI (v28))]) (s2 := [eI (1), eI (v28), eI (v42), eI (v39), eR a0]) rfl rfl rfl ?_
            obtain ⟨v45, e46⟩ : ∃ zz : Int, zz = (v28) + (1) := ⟨_, rfl⟩
            have b47 : 2 ≤ v45 ∧ v45 ≤ 5 := by omega
            refine w_t (np := 195) (l2 := [some (eR a0), some (eI (a1)), some (eI (a2)), some (eI (v5)), some (eI (v18)), some (eI (v20)), some (eI (0)), some (eI (v28))]) (s2 := [eI (v45), eI (v42), eI (v39), eR a0]) rfl (b_iadd (by rw [← e46]; exact ev_w_in (by omega) (by omega))) rfl ?_
            refine w_cw (np := 198) (as := [eI (v39), eI (v42), eI (v45)]) (l2 := [some (eR a0), some (eI (v39)), some (eI (v42)), some (eI (v45))]) (rest := []) rfl rfl rfl (Nat.ble_eq.mp rfl) rfl rfl rfl (I35.kd gA0 (by decide) (n := 10) rfl) rfl ?_
            refine s_4 (a1 := v39) (a2 := v42) (a3 := v45) I35 gA0 (by omega) (by omega) (by omega) ?_
            intro m48 I49 F50
            have F51 : Fr l_3 0 0 g μ m48 := F37.t F50 rfl
            show ex_q (dt_fg L ρ) rc (d + 2, (3, 198, [some (eR a0), some (eI (a1)), some (eI (a2)), some (eI (v5)), some (eI (v18)), some (eI (v20)), some (eI (0)), some (eI (v28))], []), f :: F, m48)
            refine w_t (np := 199) (l2 := [some (eR a0), some (eI (a1)), some (eI (a2)), some (eI (v5)), some (eI (v18)), some (eI (v20)), some (eI (0)), some (eI (v28))]) (s2 := [eR a0]) rfl (s_an rfl (pos_g I49 gA0 (by decide))) rfl ?_
            refine w_t (np := 200) (l2 := [some (eR a0), some (eI (a1)), some (eI (a2)), some (eI (v5)), some (eI (v18)), some (eI (v20)), some (eI (0)), some (eI (v28))]) (s2 := [eR a0, eR a0]) rfl (s_an rfl (pos_g I49 gA0 (by decide))) rfl ?_
            refine w_gf (np := 203) (v := eR v1) rfl rfl (I49.kd gA0 (by decide) (n := 10) rfl) (by rw [(F50.k (F36.k k15 gA0 (by decide) rfl) gA0 (by decide) rfl)]; rfl) ?_
            refine w_t (np := 204) (l2 := [some (eR a0), some (eI (a1)), some (eI (a2)), some (eI (v5)), some (eI (v18)), some (eI (v20)), some (eI (0)), some (eI (v28))]) (s2 := [eI (a1), eR v1, eR a0]) rfl rfl rfl ?_
            refine w_t (np := 205) (l2 := [some (eR a0), some (eI (a1)), some (eI (a2)), some (eI (v5)), some (eI (v18)), some (eI (v20)), some (eI (0)), some (eI (v28))]) (s2 := [eI (2), eI (a1), eR v1, eR a0]) rfl rfl rfl ?_
            refine w_cw (np := 208) (as := [eI (a1), eI (2)]) (l2 := [some (eR v1), some (eI (a1)), some (eI (2))]) (rest := [eR a0]) rfl rfl rfl (Nat.ble_eq.mp rfl) rfl rfl rfl (I49.kd b3 (by decide) (n := 8) rfl) rfl ?_
            refine s_21 (a1 := a1) (a2 := 2) I49 b3 (by omega) (by decide) ?_
            intro v52 b53
            show ex_q (dt_fg L ρ) rc (d + 2, (3, 208, [some (eR a0), some (eI (a1)), some (eI (a2)), some (eI (v5)), some (eI (v18)), some (eI (v20)), some (eI (0)), some (eI (v28))], [eI (v52), eR a0]), f :: F, m48)
            refine w_t (np := 210) (l2 := [some (eR a0), some (eI (a1)), some (eI (a2)), some (eI (v5)), some (eI (v18)), some (eI (v20)), some (eI (0)), some (eI (v28))]) (s2 := [eI (0), eI (v52), eR a0]) rfl rfl rfl ?_
            refine b_ieq (t1 := 220) (t2 := 213) rfl rfl rfl rfl (fun g54 => ?_) (fun g54 => absurd g54 (by decide))
            refine w_t (np := 222) (l2 := [some (eR a0), some (eI (a1)), some (eI (a2)), some (eI (v5)), some (eI (v18)), some (eI (v20)), some (eI (0)), some (eI (v28))]) (s2 := [eI (v18), eI (v52), eR a0]) rfl rfl rfl ?_
            refine w_t (np := 224) (l2 := [some (eR a0), some (eI (a1)), some (eI (a2)), some (eI (v5)), some (eI (v18)), some (eI (v20)), some (eI (0)), some (eI (v28))]) (s2 := [eI (v28), eI (v18), eI (v52), eR a0]) rfl rfl rfl ?_
            refine w_t (np := 225) (l2 := [some (eR a0), some (eI (a1)), some (eI (a2)), some (eI (v5)), some (eI (v18)), some (eI (v20)), some (eI (0)), some (eI (v28))]) (s2 := [eI (2), eI (v28), eI (v18), eI (v52), eR a0]) rfl rfl rfl ?_
            obtain ⟨v55, e56⟩ : ∃ zz : Int, zz = (v28) + (2) := ⟨_, rfl⟩
            have b57 : 3 ≤ v55 ∧ v55 ≤ 6 := by omega
            refine w_t (np := 226) (l2 := [some (eR a0), some (eI (a1)), some (eI (a2)), some (eI (v5)), some (eI (v18)), some (eI (v20)), some (eI (0)), some (eI (v28))]) (s2 := [eI (v55), eI (v18), eI (v52), eR a0]) rfl (b_iadd (by rw [← e56]; exact ev_w_in (by omega) (by omega))) rfl ?_
            refine w_cw (np := 229) (as := [eI (v52), eI (v18), eI (v55)]) (l2 := [some (eR a0), some (eI (v52)), some (eI (v18)), some (eI (v55))]) (rest := []) rfl rfl rfl (Nat.ble_eq.mp rfl) rfl rfl rfl (I49.kd gA0 (by decide) (n := 10) rfl) rfl ?_
            refine s_4 (a1 := v52) (a2 := v18) (a3 := v55) I49 gA0 (by omega) (by omega) (by omega) ?_
            intro m58 I59 F60
            have F61 : Fr l_3 0 0 g μ m58 := F51.t F60 rfl
            show ex_q (dt_fg L ρ) rc (d + 2, (3, 229, [some (eR a0), some (eI (a1)), some (eI (a2)), some (eI (v5)), some (eI (v18)), some (eI (v20)), some (eI (0)), some (eI (v28))], []), f :: F, m58)
            exact v_rv rfl rfl (K m58 I59 F61)
        · have b25 : 1 ≤ v22 ∧ v22 ≤ 1 := by omega
          refine w_t (np := 122) (l2 := [some (eR a0), some (eI (a1)), some (eI (a2)), some (eI (v5)), some (eI (v18)), some (eI (v20)), none, none]) (s2 := [eI (1)]) rfl rfl rfl ?_
          refine w_go (t1 := 126) rfl rfl ?_
          refine w_t (np := 128) (l2 := [some (eR a0), some (eI (a1)), some (eI (a2)), some (eI (v5)), some (eI (v18)), some (eI (v20)), some (eI (1)), none]) (s2 := []) rfl rfl rfl ?_
          refine w_t (np := 129) (l2 := [some (eR a0), some (eI (a1)), some (eI (a2)), some (eI (v5)), some (eI (v18)), some (eI (v20)), some (eI (1)), none]) (s2 := [eI (1)]) rfl rfl rfl ?_
          refine w_t (np := 130) (l2 := [some (eR a0), some (eI (a1)), some (eI (a2)), some (eI (v5)), some (eI (v18)), some (eI (v20)), some (eI (1)), none]) (s2 := [eI (3), eI (1)]) rfl rfl rfl ?_
          refine w_t (np := 131) (l2 := [some (eR a0), some (eI (a1)), some (eI (a2)), some (eI (v5)), some (eI (v18)), some (eI (v20)), some (eI (1)), none]) (s2 := [eI (v5), eI (3), eI (1)]) rfl rfl rfl ?_
          obtain ⟨v25, e26⟩ : ∃ zz : Int, zz = (3) * (v5) := ⟨_, rfl⟩
          have b27 : 0 ≤ v25 ∧ v25 ≤ 3 := by omega
          refine w_t (np := 132) (l2 := [some (eR a0), some (eI (a1)), some (eI (a2)), some (eI (v5)), some (eI (v18)), some (eI (v20)), some (eI (1)), none]) (s2 := [eI (v25), eI (1)]) rfl (b_imul (by rw [← e26]; exact ev_w_in (by omega) (by omega))) rfl ?_
          obtain ⟨v28, e29⟩ : ∃ zz : Int, zz = (1) + (v25) := ⟨_, rfl⟩
          have b30 : 1 ≤ v28 ∧ v28 ≤ 4 := by omega
          refine w_t (np := 133) (l2 := [some (eR a0), some (eI (a1)), some (eI (a2)), some (eI (v5)), some (eI (v18)), some (eI (v20)), some (eI (1)), none]) (s2 := [eI (v28)]) rfl (b_iadd (by rw [← e29]; exact ev_w_in (by omega) (by omega))) rfl ?_
          refine w_t (np := 135) (l2 := [some (eR a0), some (eI (a1)), some (eI (a2)), some (eI (v5)), some (eI (v18)), some (eI (v20)), some (eI (1)), some (eI (v28))]) (s2 := []) rfl rfl rfl ?_
          refine w_t (np := 136) (l2 := [some (eR a0), some (eI (a1)), some (eI (a2)), some (eI (v5)), some (eI (v18)), some (eI (v20)), some (eI (1)), some (eI (v28))]) (s2 := [eR a0]) rfl (s_an rfl (pos_g I13 gA0 (by decide))) rfl ?_
          refine w_t (np := 137) (l2 := [some (eR a0), some (eI (a1)), some (eI (a2)), some (eI (v5)), some (eI (v18)), some (eI (v20)), some (eI (1)), some (eI (v28))]) (s2 := [eR a0, eR a0]) rfl (s_an rfl (pos_g I13 gA0 (by decide))) rfl ?_
          refine w_gf (np := 140) (v := eR v1) rfl rfl (I13.kd gA0 (by decide) (n := 10) rfl) (by rw [k15]; rfl) ?_
          refine w_t (np := 141) (l2 := [some (eR a0), some (eI (a1)), some (eI (a2)), some (eI (v5)), some (eI (v18)), some (eI (v20)), some (eI (1)), some (eI (v28))]) (s2 := [eI (a1), eR v1, eR a0]) rfl rfl rfl ?_
          refine w_t (np := 142) (l2 := [some (eR a0), some (eI (a1)), some (eI (a2)), some (eI (v5)), some (eI (v18)), some (eI (v20)), some (eI (1)), some (eI (v28))]) (s2 := [eI (0), eI (a1), eR v1, eR a0]) rfl rfl rfl ?_
          refine w_cw (np := 145) (as := [eI (a1), eI (0)]) (l2 := [some (eR v1), some (eI (a1)), some (eI (0))]) (rest := [eR a0]) rfl rfl rfl (Nat.ble_eq.mp rfl) rfl rfl rfl (I13.kd b3 (by decide) (n := 8) rfl) rfl ?_
          refine s_21 (a1 := a1) (a2 := 0) I13 b3 (by omega) (by decide) ?_
          intro v31 b32
          show ex_q (dt_fg L ρ) rc (d + 2, (3, 145, [some (eR a0), some (eI (a1)), some (eI (a2)), some (eI (v5)), some (eI (v18)), some (eI (v20)), some (eI (1)), some (eI (v28))], [eI (v31), eR a0]), f :: F, m12)
          refine w_t (np := 147) (l2 := [some (eR a0), some (eI (a1)), some (eI (a2)), some (eI (v5)), some (eI (v18)), some (eI (v20)), some (eI (1)), some (eI (v28))]) (s2 := [eI (1), eI (v31), eR a0]) rfl rfl rfl ?_
          refine b_ieq (t1 := 155) (t2 := 150) rfl rfl rfl rfl (fun g33 => absurd g33 (by decide)) (fun g33 => ?_)
          refine w_t (np := 152) (l2 := [some (eR a0), some (eI (a1)), some (eI (a2)), some (eI (v5)), some (eI (v18)), some (eI (v20)), some (eI (1)), some (eI (v28))]) (s2 := [eI (v18), eI (v31), eR a0]) rfl rfl rfl ?_
          refine w_go (t1 := 157) rfl rfl ?_
          refine w_t (np := 159) (l2 := [some (eR a0), some (eI (a1)), some (eI (a2)), some (eI (v5)), some (eI (v18)), some (eI (v20)), some (eI (1)), some (eI (v28))]) (s2 := [eI (v28), eI (v18), eI (v31), eR a0]) rfl rfl rfl ?_
          refine w_cw (np := 162) (as := [eI (v31), eI (v18), eI (v28)]) (l2 := [some (eR a0), some (eI (v31)), some (eI (v18)), some (eI (v28))]) (rest := []) rfl rfl rfl (Nat.ble_eq.mp rfl) rfl rfl rfl (I13.kd gA0 (by decide) (n := 10) rfl) rfl ?_
          refine s_4 (a1 := v31) (a2 := v18) (a3 := v28) I13 gA0 (by omega) (by omega) (by omega) ?_
          intro m34 I35 F36
          have F37 : Fr l_3 0 0 g μ m34 := F14.t F36 rfl
          show ex_q (dt_fg L ρ) rc (d + 2, (3, 162, [some (eR a0), some (eI (a1)), some (eI (a2)), some (eI (v5)), some (eI (v18)), some (eI (v20)), some (eI (1)), some (eI (v28))], []), f :: F, m34)
          refine w_t (np := 163) (l2 := [some (eR a0), some (eI (a1)), some (eI (a2)), some (eI (v5)), some (eI (v18)), some (eI (v20)), some (eI (1)), some (eI (v28))]) (s2 := [eI (a1)]) rfl rfl rfl ?_
          refine w_t (np := 164) (l2 := [some (eR a0), some (eI (a1)), some (eI (a2)), some (eI (v5)), some (eI (v18)), some (eI (v20)), some (eI (1)), some (eI (v28))]) (s2 := [eI (a2), eI (a1)]) rfl rfl rfl ?_
          refine b_cge (t1 := 229) (t2 := 167) rfl rfl rfl (ev_w_in (by omega) (by omega)) (ev_w_in (by omega) (by omega)) (fun g38 => ?_) (fun g38 => ?_)
          · exact v_rv rfl rfl (K m34 I35 F37)
          · have b39 : 0 ≤ a1 ∧ a1 ≤ 888 := by omega
            have b40 : 1 ≤ a2 ∧ a2 ≤ 889 := by omega
            refine w_t (np := 168) (l2 := [some (eR a0), some (eI (a1)), some (eI (a2)), some (eI (v5)), some (eI (v18)), some (eI (v20)), some (eI (1)), some (eI (v28))]) (s2 := [eR a0]) rfl (s_an rfl (pos_g I35 gA0 (by decide))) rfl ?_
            refine w_t (np := 169) (l2 := [some (eR a0), some (eI (a1)), some (eI (a2)), some (eI (v5)), some (eI (v18)), some (eI (v20)), some (eI (1)), some (eI (v28))]) (s2 := [eR a0, eR a0]) rfl (s_an rfl (pos_g I35 gA0 (by decide))) rfl ?_
            refine w_gf (np := 172) (v := eR v1) rfl rfl (I35.kd gA0 (by decide) (n := 10) rfl) (by rw [(F36.k k15 gA0 (by decide) rfl)]; rfl) ?_
            refine w_t (np := 173) (l2 := [some (eR a0), some (eI (a1)), some (eI (a2)), some (eI (v5)), some (eI (v18)), some (eI (v20)), some (eI (1)), some (eI (v28))]) (s2 := [eI (a1), eR v1, eR a0]) rfl rfl rfl ?_
            refine w_t (np := 174) (l2 := [some (eR a0), some (eI (a1)), some (eI (a2)), some (eI (v5)), some (eI (v18)), some (eI (v20)), some (eI (1)), some (eI (v28))]) (s2 := [eI (1), eI (a1), eR v1, eR a0]) rfl rfl rfl ?_
            refine w_cw (np := 177) (as := [eI (a1), eI (1)]) (l2 := [some (eR v1), some (eI (a1)), some (eI (1))]) (rest := [eR a0]) rfl rfl rfl (Nat.ble_eq.mp rfl) rfl rfl rfl (I35.kd b3 (by decide) (n := 8) rfl) rfl ?_
            refine s_21 (a1 := a1) (a2 := 1) I35 b3 (by omega) (by decide) ?_
            intro v39 b40
            show ex_q (dt_fg L ρ) rc (d + 2, (3, 177, [some (eR a0), some (eI (a1)), some (eI (a2)), some (eI (v5)), some (eI (v18)), some (eI (v20)), some (eI (1)), some (eI (v28))], [eI (v39), eR a0]), f :: F, m34)
            refine w_t (np := 179) (l2 := [some (eR a0), some (eI (a1)), some (eI (a2)), some (eI (v5)), some (eI (v18)), some (eI (v20)), some (eI (1)), some (eI (v28))]) (s2 := [eI (1), eI (v39), eR a0]) rfl rfl rfl ?_
            refine b_ieq (t1 := 187) (t2 := 182) rfl rfl rfl rfl (fun g41 => absurd g41 (by decide)) (fun g41 => ?_)
            refine w_t (np := 184) (l2 := [some (eR a0), some (eI (a1)), some (eI (a2)), some (eI (v5)), some (eI (v18)), some (eI (v20)), some (eI (1)), some (eI (v28))]) (s2 := [eI (v20), eI (v39), eR a0]) rfl rfl rfl ?_
            refine w_go (t1 := 191) rfl rfl ?_
            refine w_t (np := 193) (l2 := [some (eR a0), some (eI (a1)), some (eI (a2)), some (eI (v5)), some (eI (v18)), some (eI (v20)), some (eI (1)), some (eI (v28))]) (s2 := [eI (v28), eI (v20), eI (v39), eR a0]) rfl rfl rfl ?_
            refine w_t (np := 194) (l2 := [some (eR a0), some (eI (a1)), some (eI (a2)), some (eI (v5)), some (eI (v18)), some (eI (v20)), some (eI (1)), some (eI (v28))]) (s2 := [eI (1), eI (v28), eI (v20), eI (v39), eR a0]) rfl rfl rfl ?_
            obtain ⟨v42, e43⟩ : ∃ zz : Int, zz = (v28) + (1) := ⟨_, rfl⟩
            have b44 : 2 ≤ v42 ∧ v42 ≤ 5 := by omega
            refine w_t (np := 195) (l2 := [some (eR a0), some (eI (a1)), some (eI (a2)), some (eI (v5)), some (eI (v18)), some (eI (v20)), some (eI (1)), some (eI (v28))]) (s2 := [eI (v42), eI (v20), eI (v39), eR a0]) rfl (b_iadd (by rw [← e43]; exact ev_w_in (by omega) (by omega))) rfl ?_
            refine w_cw (np := 198) (as := [eI (v39), eI (v20), eI (v42)]) (l2 := [some (eR a0), some (eI (v39)), some (eI (v20)), some (eI (v42))]) (rest := []) rfl rfl rfl (Nat.ble_eq.mp rfl) rfl rfl rfl (I35.kd gA0 (by decide) (n := 10) rfl) rfl ?_
            refine s_4 (a1 := v39) (a2 := v20) (a3 := v42) I35 gA0 (by omega) (by omega) (by omega) ?_
            intro m45 I46 F47
            have F48 : Fr l_3 0 0 g μ m45 := F37.t F47 rfl
            show ex_q (dt_fg L ρ) rc (d + 2, (3, 198, [some (eR a0), some (eI (a1)), some (eI (a2)), some (eI (v5)), some (eI (v18)), some (eI (v20)), some (eI (1)), some (eI (v28))], []), f :: F, m45)
            refine w_t (np := 199) (l2 := [some (eR a0), some (eI (a1)), some (eI (a2)), some (eI (v5)), some (eI (v18)), some (eI (v20)), some (eI (1)), some (eI (v28))]) (s2 := [eR a0]) rfl (s_an rfl (pos_g I46 gA0 (by decide))) rfl ?_
            refine w_t (np := 200) (l2 := [some (eR a0), some (eI (a1)), some (eI (a2)), some (eI (v5)), some (eI (v18)), some (eI (v20)), some (eI (1)), some (eI (v28))]) (s2 := [eR a0, eR a0]) rfl (s_an rfl (pos_g I46 gA0 (by decide))) rfl ?_
            refine w_gf (np := 203) (v := eR v1) rfl rfl (I46.kd gA0 (by decide) (n := 10) rfl) (by rw [(F47.k (F36.k k15 gA0 (by decide) rfl) gA0 (by decide) rfl)]; rfl) ?_
            refine w_t (np := 204) (l2 := [some (eR a0), some (eI (a1)), some (eI (a2)), some (eI (v5)), some (eI (v18)), some (eI (v20)), some (eI (1)), some (eI (v28))]) (s2 := [eI (a1), eR v1, eR a0]) rfl rfl rfl ?_
            refine w_t (np := 205) (l2 := [some (eR a0), some (eI (a1)), some (eI (a2)), some (eI (v5)), some (eI (v18)), some (eI (v20)), some (eI (1)), some (eI (v28))]) (s2 := [eI (2), eI (a1), eR v1, eR a0]) rfl rfl rfl ?_
            refine w_cw (np := 208) (as := [eI (a1), eI (2)]) (l2 := [some (eR v1), some (eI (a1)), some (eI (2))]) (rest := [eR a0]) rfl rfl rfl (Nat.ble_eq.mp rfl) rfl rfl rfl (I46.kd b3 (by decide) (n := 8) rfl) rfl ?_
            refine s_21 (a1 := a1) (a2 := 2) I46 b3 (by omega) (by decide) ?_
            intro v49 b50
            show ex_q (dt_fg L ρ) rc (d + 2, (3, 208, [some (eR a0), some (eI (a1)), some (eI (a2)), some (eI (v5)), some (eI (v18)), some (eI (v20)), some (eI (1)), some (eI (v28))], [eI (v49), eR a0]), f :: F, m45)
            refine w_t (np := 210) (l2 := [some (eR a0), some (eI (a1)), some (eI (a2)), some (eI (v5)), some (eI (v18)), some (eI (v20)), some (eI (1)), some (eI (v28))]) (s2 := [eI (1), eI (v49), eR a0]) rfl rfl rfl ?_
            refine b_ieq (t1 := 220) (t2 := 213) rfl rfl rfl rfl (fun g51 => absurd g51 (by decide)) (fun g51 => ?_)
            refine w_t (np := 215) (l2 := [some (eR a0), some (eI (a1)), some (eI (a2)), some (eI (v5)), some (eI (v18)), some (eI (v20)), some (eI (1)), some (eI (v28))]) (s2 := [eI (v20), eI (v49), eR a0]) rfl rfl rfl ?_
            refine w_t (np := 216) (l2 := [some (eR a0), some (eI (a1)), some (eI (a2)), some (eI (v5)), some (eI (v18)), some (eI (v20)), some (eI (1)), some (eI (v28))]) (s2 := [eI (5), eI (v20), eI (v49), eR a0]) rfl rfl rfl ?_
            obtain ⟨v52, e53⟩ : ∃ zz : Int, zz = (v20) + (5) := ⟨_, rfl⟩
            have b54 : 5 ≤ v52 ∧ v52 ≤ 14 := by omega
            refine w_t (np := 217) (l2 := [some (eR a0), some (eI (a1)), some (eI (a2)), some (eI (v5)), some (eI (v18)), some (eI (v20)), some (eI (1)), some (eI (v28))]) (s2 := [eI (v52), eI (v49), eR a0]) rfl (b_iadd (by rw [← e53]; exact ev_w_in (by omega) (by omega))) rfl ?_
            refine w_go (t1 := 222) rfl rfl ?_
            refine w_t (np := 224) (l2 := [some (eR a0), some (eI (a1)), some (eI (a2)), some (eI (v5)), some (eI (v18)), some (eI (v20)), some (eI (1)), some (eI (v28))]) (s2 := [eI (v28), eI (v52), eI (v49), eR a0]) rfl rfl rfl ?_
            refine w_t (np := 225) (l2 := [some (eR a0), some (eI (a1)), some (eI (a2)), some (eI (v5)), some (eI (v18)), some (eI (v20)), some (eI (1)), some (eI (v28))]) (s2 := [eI (2), eI (v28), eI (v52), eI (v49), eR a0]) rfl rfl rfl ?_
            obtain ⟨v55, e56⟩ : ∃ zz : Int, zz = (v28) + (2) := ⟨_, rfl⟩
            have b57 : 3 ≤ v55 ∧ v55 ≤ 6 := by omega
            refine w_t (np := 226) (l2 := [some (eR a0), some (eI (a1)), some (eI (a2)), some (eI (v5)), some (eI (v18)), some (eI (v20)), some (eI (1)), some (eI (v28))]) (s2 := [eI (v55), eI (v52), eI (v49), eR a0]) rfl (b_iadd (by rw [← e56]; exact ev_w_in (by omega) (by omega))) rfl ?_
            refine w_cw (np := 229) (as := [eI (v49), eI (v52), eI (v55)]) (l2 := [some (eR a0), some (eI (v49)), some (eI (v52)), some (eI (v55))]) (rest := []) rfl rfl rfl (Nat.ble_eq.mp rfl) rfl rfl rfl (I46.kd gA0 (by decide) (n := 10) rfl) rfl ?_
            refine s_4 (a1 := v49) (a2 := v52) (a3 := v55) I46 gA0 (by omega) (by omega) (by omega) ?_
            intro m58 I59 F60
            have F61 : Fr l_3 0 0 g μ m58 := F48.t F60 rfl
            show ex_q (dt_fg L ρ) rc (d + 2, (3, 229, [some (eR a0), some (eI (a1)), some (eI (a2)), some (eI (v5)), some (eI (v18)), some (eI (v20)), some (eI (1)), some (eI (v28))], []), f :: F, m58)
            exact v_rv rfl rfl (K m58 I59 F61)
      · have b18 : 0 ≤ i9 ∧ i9 ≤ 2 := by omega
        refine w_t (np := 19) (l2 := [some (eR a0), some (eI (a1)), some (eI (a2)), some (eI (v5)), some (eI (i9)), o11, none, none]) (s2 := [eR a0]) rfl (s_an rfl (pos_g I13 gA0 (by decide))) rfl ?_
        refine w_gf (np := 22) (v := eR v1) rfl rfl (I13.kd gA0 (by decide) (n := 10) rfl) (by rw [k15]; rfl) ?_
        refine w_t (np := 23) (l2 := [some (eR a0), some (eI (a1)), some (eI (a2)), some (eI (v5)), some (eI (i9)), o11, none, none]) (s2 := [eI (a1), eR v1]) rfl rfl rfl ?_
        refine w_t (np := 25) (l2 := [some (eR a0), some (eI (a1)), some (eI (a2)), some (eI (v5)), some (eI (i9)), o11, none, none]) (s2 := [eI (i9), eI (a1), eR v1]) rfl rfl rfl ?_
        refine w_cw (np := 28) (as := [eI (a1), eI (i9)]) (l2 := [some (eR v1), some (eI (a1)), some (eI (i9))]) (rest := []) rfl rfl rfl (Nat.ble_eq.mp rfl) rfl rfl rfl (I13.kd b3 (by decide) (n := 8) rfl) rfl ?_
        refine s_21 (a1 := a1) (a2 := i9) I13 b3 (by omega) (by omega) ?_
        intro v18 b19
        show ex_q (dt_fg L ρ) rc (d + 2, (3, 28, [some (eR a0), some (eI (a1)), some (eI (a2)), some (eI (v5)), some (eI (i9)), o11, none, none], [eI (v18)]), f :: F, m12)
        refine w_t (np := 30) (l2 := [some (eR a0), some (eI (a1)), some (eI (a2)), some (eI (v5)), some (eI (i9)), some (eI (v18)), none, none]) (s2 := []) rfl rfl rfl ?_
        refine w_t (np := 31) (l2 := [some (eR a0), some (eI (a1)), some (eI (a2)), some (eI (v5)), some (eI (i9)), some (eI (v18)), none, none]) (s2 := [eR a0]) rfl (s_an rfl (pos_g I13 gA0 (by decide))) rfl ?_
        refine j_gr (np := 34) rfl rfl I13 gA0 (by decide) (n := 10) rfl rfl rfl ?_
        intro v20 e21 b22 z23
        have b22 : g v20 = 43 := Nat.eq_of_beq_eq_true b22
        refine w_t (np := 36) (l2 := [some (eR a0), some (eI (a1)), some (eI (a2)), some (eI (v5)), some (eI (i9)), some (eI (v18)), none, none]) (s2 := [eI (v18), eR v20]) rfl rfl rfl ?_
        refine w_t (np := 37) (l2 := [some (eR a0), some (eI (a1)), some (eI (a2)), some (eI (v5)), some (eI (i9)), some (eI (v18)), none, none]) (s2 := [eI (v18), eR v20, eI (v18), eR v20]) rfl rfl rfl ?_
        refine j_al (np := 38) rfl rfl I13 b22 (by decide) (n := 512) rfl rfl (lo := -2147483648) (hi := 2147483647) (fun _ => rfl) (by omega) (by omega) ?_
        intro v24 e25 b26
        refine w_t (np := 40) (l2 := [some (eR a0), some (eI (a1)), some (eI (a2)), some (eI (v5)), some (eI (i9)), some (eI (v18)), none, none]) (s2 := [eI (i9), eI (v24), eI (v18), eR v20]) rfl rfl rfl ?_
        refine b_ine (t1 := 51) (t2 := 43) rfl rfl rfl (ev_w_in (by omega) (by omega)) (fun g27 => ?_) (fun g27 => ?_)
        · have b28 : 1 ≤ i9 ∧ i9 ≤ 2 := by omega
          refine w_t (np := 52) (l2 := [some (eR a0), some (eI (a1)), some (eI (a2)), some (eI (v5)), some (eI (i9)), some (eI (v18)), none, none]) (s2 := [eI (2), eI (v24), eI (v18), eR v20]) rfl rfl rfl ?_
          refine w_t (np := 53) (l2 := [some (eR a0), some (eI (a1)), some (eI (a2)), some (eI (v5)), some (eI (i9)), some (eI (v18)), none, none]) (s2 := [eI (v5), eI (2), eI (v24), eI (v18), eR v20]) rfl rfl rfl ?_
          obtain ⟨v28, e29⟩ : ∃ zz : Int, zz = (2) - (v5) := ⟨_, rfl⟩
          have b30 : 1 ≤ v28 ∧ v28 ≤ 2 := by omega
          refine w_t (np := 54) (l2 := [some (eR a0), some (eI (a1)), some (eI (a2)), some (eI (v5)), some (eI (i9)), some (eI (v18)), none, none]) (s2 := [eI (v28), eI (v24), eI (v18), eR v20]) rfl (b_isub (by rw [← e29]; exact ev_w_in (by omega) (by omega))) rfl ?_
          obtain ⟨v31, e32, b33⟩ : ∃ zz : Int, ev_w ((v24) + (v28)) = zz ∧ (-2147483648 ≤ zz ∧ zz ≤ 2147483647) := ⟨_, rfl, hw_bd _⟩
          refine w_t (np := 55) (l2 := [some (eR a0), some (eI (a1)), some (eI (a2)), some (eI (v5)), some (eI (i9)), some (eI (v18)), none, none]) (s2 := [eI (v31), eI (v18), eR v20]) rfl (b_iadd e32) rfl ?_
          refine j_as (np := 56) rfl rfl I13 b22 (by decide) (n := 512) rfl rfl (lo := -2147483648) (hi := 2147483647) (fun _ => rfl) (by omega) (by omega) (by omega) ?_
          intro m34 I35 W36
          have F37 : Fr l_3 0 0 g μ m34 := F14.v W36 b22 rfl rfl
          refine w_t (np := 57) (l2 := [some (eR a0), some (eI (a1)), some (eI (a2)), some (eI (v5)), some (eI (i9)), some (eI (v18)), none, none]) (s2 := [eR a0]) rfl (s_an rfl (pos_g I35 gA0 (by decide))) rfl ?_
          refine j_gr (np := 60) rfl rfl I35 gA0 (by decide) (n := 10) rfl rfl rfl ?_
          intro v38 e39 b40 z41
          have b40 : g v38 = 45 := Nat.eq_of_beq_eq_true b40
          refine w_t (np := 62) (l2 := [some (eR a0), some (eI (a1)), some (eI (a2)), some (eI (v5)), some (eI (i9)), some (eI (v18)), none, none]) (s2 := [eI (v18), eR v38]) rfl rfl rfl ?_
          refine w_t (np := 63) (l2 := [some (eR a0), some (eI (a1)), some (eI (a2)), some (eI (v5)), some (eI (i9)), some (eI (v18)), none, none]) (s2 := [eR a0, eI (v18), eR v38]) rfl (s_an rfl (pos_g I35 gA0 (by decide))) rfl ?_
          refine w_gf (np := 66) (v := eR v38) rfl rfl (I35.kd gA0 (by decide) (n := 10) rfl) (by rw [e39]; rfl) ?_
          refine w_t (np := 68) (l2 := [some (eR a0), some (eI (a1)), some (eI (a2)), some (eI (v5)), some (eI (i9)), some (eI (v18)), none, none]) (s2 := [eI (v18), eR v38, eI (v18), eR v38]) rfl rfl rfl ?_
          refine j_b3 (np := 69) rfl rfl I35 b40 (by decide) (n := 512) rfl rfl (lo := 0) (hi := 1) (fun _ => rfl) (by omega) (by omega) ?_
          intro v42 e43 b44
          refine b_ine (t1 := 76) (t2 := 72) rfl rfl rfl (ev_w_in (by omega) (by omega)) (fun g45 => ?_) (fun g45 => ?_)
          · have b46 : 1 ≤ v42 ∧ v42 ≤ 1 := by omega
            refine w_t (np := 77) (l2 := [some (eR a0), some (eI (a1)), some (eI (a2)), some (eI (v5)), some (eI (i9)), some (eI (v18)), none, none]) (s2 := [eI (1), eI (v18), eR v38]) rfl rfl rfl ?_
            refine w_go (t1 := 81) rfl rfl ?_
            refine j_sb3 (np := 82) rfl rfl I35 b40 (by decide) (n := 512) rfl rfl (lo := 0) (hi := 1) (fun _ => rfl) (by omega) (by omega) (by decide) (by decide) ?_
            intro m46 I47 W48
            have F49 : Fr l_3 0 0 g μ m46 := F37.v W48 b40 rfl rfl
            obtain ⟨v50, e51⟩ : ∃ zz : Int, zz = (i9) + (1) := ⟨_, rfl⟩
            have b52 : 2 ≤ v50 ∧ v50 ≤ 3 := by omega
            refine w_t (np := 85) (l2 := [some (eR a0), some (eI (a1)), some (eI (a2)), some (eI (v5)), some (eI (v50)), some (eI (v18)), none, none]) (s2 := []) rfl (b_iinc rfl (by rw [← e51]; exact ev_w_in (by omega) (by omega)) rfl) rfl ?_
            refine w_go (t1 := 12) rfl rfl ?_
            exact ih8 (3 - (v50)).toNat (by omega) m46 (v50) (some (eI (v18))) I47 F49 (by omega) (W48.addr (W36.addr k15 b22 gA0 (by decide)) b40 gA0 (by decide))    rfl
          · have b46 : 0 ≤ v42 ∧ v42 ≤ 0 := by omega
            refine w_t (np := 73) (l2 := [some (eR a0), some (eI (a1)), some (eI (a2)), some (eI (v5)), some (eI (i9)), some (eI (v18)), none, none]) (s2 := [eI (a2), eI (v18), eR v38]) rfl rfl rfl ?_
            refine b_ige (t1 := 80) (t2 := 76) rfl rfl rfl (ev_w_in (by omega) (by omega)) (fun g46 => ?_) (fun g46 => ?_)
            · have b47 : 0 ≤ a2 ∧ a2 ≤ 889 := by omega
              refine w_t (np := 81) (l2 := [some (eR a0), some (eI (a1)), some (eI (a2)), some (eI (v5)), some (eI (i9)), some (eI (v18)), none, none]) (s2 := [eI (0), eI (v18), eR v38]) rfl rfl rfl ?_
              refine j_sb3 (np := 82) rfl rfl I35 b40 (by decide) (n := 512) rfl rfl (lo := 0) (hi := 1) (fun _ => rfl) (by omega) (by omega) (by decide) (by decide) ?_
              intro m47 I48 W49
              have F50 : Fr l_3 0 0 g μ m47 := F37.v W49 b40 rfl rfl
              obtain ⟨v51, e52⟩ : ∃ zz : Int, zz = (i9) + (1) := ⟨_, rfl⟩
              have b53 : 2 ≤ v51 ∧ v51 ≤ 3 := by omega
              refine w_t (np := 85) (l2 := [some (eR a0), some (eI (a1)), some (eI (a2)), some (eI (v5)), some (eI (v51)), some (eI (v18)), none, none]) (s2 := []) rfl (b_iinc rfl (by rw [← e52]; exact ev_w_in (by omega) (by omega)) rfl) rfl ?_
              refine w_go (t1 := 12) rfl rfl ?_
              exact ih8 (3 - (v51)).toNat (by omega) m47 (v51) (some (eI (v18))) I48 F50 (by omega) (W49.addr (W36.addr k15 b22 gA0 (by decide)) b40 gA0 (by decide))    rfl
            · have b47 : -1 ≤ a2 ∧ a2 ≤ -1 := by omega
              refine w_t (np := 77) (l2 := [some (eR a0), some (eI (a1)), some (eI (a2)), some (eI (v5)), some (eI (i9)), some (eI (v18)), none, none]) (s2 := [eI (1), eI (v18), eR v38]) rfl rfl rfl ?_
              refine w_go (t1 := 81) rfl rfl ?_
              refine j_sb3 (np := 82) rfl rfl I35 b40 (by decide) (n := 512) rfl rfl (lo := 0) (hi := 1) (fun _ => rfl) (by omega) (by omega) (by decide) (by decide) ?_
              intro m47 I48 W49
              have F50 : Fr l_3 0 0 g μ m47 := F37.v W49 b40 rfl rfl
              obtain ⟨v51, e52⟩ : ∃ zz : Int, zz = (i9) + (1) := ⟨_, rfl⟩
              have b53 : 2 ≤ v51 ∧ v51 ≤ 3 := by omega
              refine w_t (np := 85) (l2 := [some (eR a0), some (eI (a1)), some (eI (a2)), some (eI (v5)), some (eI (v51)), some (eI (v18)), none, none]) (s2 := []) rfl (b_iinc rfl (by rw [← e52]; exact ev_w_in (by omega) (by omega)) rfl) rfl ?_
              refine w_go (t1 := 12) rfl rfl ?_
              exact ih8 (3 - (v51)).toNat (by omega) m47 (v51) (some (eI (v18))) I48 F50 (by omega) (W49.addr (W36.addr k15 b22 gA0 (by decide)) b40 gA0 (by decide))    rfl
        · have b28 : 0 ≤ i9 ∧ i9 ≤ 0 := by omega
          refine w_t (np := 44) (l2 := [some (eR a0), some (eI (a1)), some (eI (a2)), some (eI (v5)), some (eI (i9)), some (eI (v18)), none, none]) (s2 := [eI (1), eI (v24), eI (v18), eR v20]) rfl rfl rfl ?_
          refine w_t (np := 45) (l2 := [some (eR a0), some (eI (a1)), some (eI (a2)), some (eI (v5)), some (eI (i9)), some (eI (v18)), none, none]) (s2 := [eI (2), eI (1), eI (v24), eI (v18), eR v20]) rfl rfl rfl ?_
          refine w_t (np := 46) (l2 := [some (eR a0), some (eI (a1)), some (eI (a2)), some (eI (v5)), some (eI (i9)), some (eI (v18)), none, none]) (s2 := [eI (v5), eI (2), eI (1), eI (v24), eI (v18), eR v20]) rfl rfl rfl ?_
          obtain ⟨v28, e29⟩ : ∃ zz : Int, zz = (2) * (v5) := ⟨_, rfl⟩
          have b30 : 0 ≤ v28 ∧ v28 ≤ 2 := by omega
          refine w_t (np := 47) (l2 := [some (eR a0), some (eI (a1)), some (eI (a2)), some (eI (v5)), some (eI (i9)), some (eI (v18)), none, none]) (s2 := [eI (v28), eI (1), eI (v24), eI (v18), eR v20]) rfl (b_imul (by rw [← e29]; exact ev_w_in (by omega) (by omega))) rfl ?_
          obtain ⟨v31, e32⟩ : ∃ zz : Int, zz = (1) + (v28) := ⟨_, rfl⟩
          have b33 : 1 ≤ v31 ∧ v31 ≤ 3 := by omega
          refine w_t (np := 48) (l2 := [some (eR a0), some (eI (a1)), some (eI (a2)), some (eI (v5)), some (eI (i9)), some (eI (v18)), none, none]) (s2 := [eI (v31), eI (v24), eI (v18), eR v20]) rfl (b_iadd (by rw [← e32]; exact ev_w_in (by omega) (by omega))) rfl ?_
          refine w_go (t1 := 54) rfl rfl ?_
          obtain ⟨v34, e35, b36⟩ : ∃ zz : Int, ev_w ((v24) + (v31)) = zz ∧ (-2147483648 ≤ zz ∧ zz ≤ 2147483647) := ⟨_, rfl, hw_bd _⟩
          refine w_t (np := 55) (l2 := [some (eR a0), some (eI (a1)), some (eI (a2)), some (eI (v5)), some (eI (i9)), some (eI (v18)), none, none]) (s2 := [eI (v34), eI (v18), eR v20]) rfl (b_iadd e35) rfl ?_
          refine j_as (np := 56) rfl rfl I13 b22 (by decide) (n := 512) rfl rfl (lo := -2147483648) (hi := 2147483647) (fun _ => rfl) (by omega) (by omega) (by omega) ?_
          intro m37 I38 W39
          have F40 : Fr l_3 0 0 g μ m37 := F14.v W39 b22 rfl rfl
          refine w_t (np := 57) (l2 := [some (eR a0), some (eI (a1)), some (eI (a2)), some (eI (v5)), some (eI (i9)), some (eI (v18)), none, none]) (s2 := [eR a0]) rfl (s_an rfl (pos_g I38 gA0 (by decide))) rfl ?_
          refine j_gr (np := 60) rfl rfl I38 gA0 (by decide) (n := 10) rfl rfl rfl ?_
          intro v41 e42 b43 z44
          have b43 : g v41 = 45 := Nat.eq_of_beq_eq_true b43
          refine w_t (np := 62) (l2 := [some (eR a0), some (eI (a1)), some (eI (a2)), some (eI (v5)), some (eI (i9)), some (eI (v18)), none, none]) (s2 := [eI (v18), eR v41]) rfl rfl rfl ?_
          refine w_t (np := 63) (l2 := [some (eR a0), some (eI (a1)), some (eI (a2)), some (eI (v5)), some (eI (i9)), some (eI (v18)), none, none]) (s2 := [eR a0, eI (v18), eR v41]) rfl (s_an rfl (pos_g I38 gA0 (by decide))) rfl ?_
          refine w_gf (np := 66) (v := eR v41) rfl rfl (I38.kd gA0 (by decide) (n := 10) rfl) (by rw [e42]; rfl) ?_
          refine w_t (np := 68) (l2 := [some (eR a0), some (eI (a1)), some (eI (a2)), some (eI (v5)), some (eI (i9)), some (eI (v18)), none, none]) (s2 := [eI (v18), eR v41, eI (v18), eR v41]) rfl rfl rfl ?_
          refine j_b3 (np := 69) rfl rfl I38 b43 (by decide) (n := 512) rfl rfl (lo := 0) (hi := 1) (fun _ => rfl) (by omega) (by omega) ?_
          intro v45 e46 b47
          refine b_ine (t1 := 76) (t2 := 72) rfl rfl rfl (ev_w_in (by omega) (by omega)) (fun g48 => ?_) (fun g48 => ?_)
          · have b49 : 1 ≤ v45 ∧ v45 ≤ 1 := by omega
            refine w_t (np := 77) (l2 := [some (eR a0), some (eI (a1)), some (eI (a2)), some (eI (v5)), some (eI (i9)), some (eI (v18)), none, none]) (s2 := [eI (1), eI (v18), eR v41]) rfl rfl rfl ?_
            refine w_go (t1 := 81) rfl rfl ?_
            refine j_sb3 (np := 82) rfl rfl I38 b43 (by decide) (n := 512) rfl rfl (lo := 0) (hi := 1) (fun _ => rfl) (by omega) (by omega) (by decide) (by decide) ?_
            intro m49 I50 W51
            have F52 : Fr l_3 0 0 g μ m49 := F40.v W51 b43 rfl rfl
            obtain ⟨v53, e54⟩ : ∃ zz : Int, zz = (i9) + (1) := ⟨_, rfl⟩
            have b55 : 1 ≤ v53 ∧ v53 ≤ 1 := by omega
            refine w_t (np := 85) (l2 := [some (eR a0), some (eI (a1)), some (eI (a2)), some (eI (v5)), some (eI (v53)), some (eI (v18)), none, none]) (s2 := []) rfl (b_iinc rfl (by rw [← e54]; exact ev_w_in (by omega) (by omega)) rfl) rfl ?_
            refine w_go (t1 := 12) rfl rfl ?_
            exact ih8 (3 - (v53)).toNat (by omega) m49 (v53) (some (eI (v18))) I50 F52 (by omega) (W51.addr (W39.addr k15 b22 gA0 (by decide)) b43 gA0 (by decide))    rfl
          · have b49 : 0 ≤ v45 ∧ v45 ≤ 0 := by omega
            refine w_t (np := 73) (l2 := [some (eR a0), some (eI (a1)), some (eI (a2)), some (eI (v5)), some (eI (i9)), some (eI (v18)), none, none]) (s2 := [eI (a2), eI (v18), eR v41]) rfl rfl rfl ?_
            refine b_ige (t1 := 80) (t2 := 76) rfl rfl rfl (ev_w_in (by omega) (by omega)) (fun g49 => ?_) (fun g49 => ?_)
            · have b50 : 0 ≤ a2 ∧ a2 ≤ 889 := by omega
              refine w_t (np := 81) (l2 := [some (eR a0), some (eI (a1)), some (eI (a2)), some (eI (v5)), some (eI (i9)), some (eI (v18)), none, none]) (s2 := [eI (0), eI (v18), eR v41]) rfl rfl rfl ?_
              refine j_sb3 (np := 82) rfl rfl I38 b43 (by decide) (n := 512) rfl rfl (lo := 0) (hi := 1) (fun _ => rfl) (by omega) (by omega) (by decide) (by decide) ?_
              intro m50 I51 W52
              have F53 : Fr l_3 0 0 g μ m50 := F40.v W52 b43 rfl rfl
              obtain ⟨v54, e55⟩ : ∃ zz : Int, zz = (i9) + (1) := ⟨_, rfl⟩
              have b56 : 1 ≤ v54 ∧ v54 ≤ 1 := by omega
              refine w_t (np := 85) (l2 := [some (eR a0), some (eI (a1)), some (eI (a2)), some (eI (v5)), some (eI (v54)), some (eI (v18)), none, none]) (s2 := []) rfl (b_iinc rfl (by rw [← e55]; exact ev_w_in (by omega) (by omega)) rfl) rfl ?_
              refine w_go (t1 := 12) rfl rfl ?_
              exact ih8 (3 - (v54)).toNat (by omega) m50 (v54) (some (eI (v18))) I51 F53 (by omega) (W52.addr (W39.addr k15 b22 gA0 (by decide)) b43 gA0 (by decide))    rfl
            · have b50 : -1 ≤ a2 ∧ a2 ≤ -1 := by omega
              refine w_t (np := 77) (l2 := [some (eR a0), some (eI (a1)), some (eI (a2)), some (eI (v5)), some (eI (i9)), some (eI (v18)), none, none]) (s2 := [eI (1), eI (v18), eR v41]) rfl rfl rfl ?_
              refine w_go (t1 := 81) rfl rfl ?_
              refine j_sb3 (np := 82) rfl rfl I38 b43 (by decide) (n := 512) rfl rfl (lo := 0) (hi := 1) (fun _ => rfl) (by omega) (by omega) (by decide) (by decide) ?_
              intro m50 I51 W52
              have F53 : Fr l_3 0 0 g μ m50 := F40.v W52 b43 rfl rfl
              obtain ⟨v54, e55⟩ : ∃ zz : Int, zz = (i9) + (1) := ⟨_, rfl⟩
              have b56 : 1 ≤ v54 ∧ v54 ≤ 1 := by omega
              refine w_t (np := 85) (l2 := [some (eR a0), some (eI (a1)), some (eI (a2)), some (eI (v5)), some (eI (v54)), some (eI (v18)), none, none]) (s2 := []) rfl (b_iinc rfl (by rw [← e55]; exact ev_w_in (by omega) (by omega)) rfl) rfl ?_
              refine w_go (t1 := 12) rfl rfl ?_
              exact ih8 (3 - (v54)).toNat (by omega) m50 (v54) (some (eI (v18))) I51 F53 (by omega) (W52.addr (W39.addr k15 b22 gA0 (by decide)) b43 gA0 (by decide))    rfl
    exact hL12 _ μ (0) (none) hI F0 (by decide) e2    rfl
  · refine w_t (np := 5) (l2 := [some (eR a0), some (eI (a1)), some (eI (a2)), none, none, none, none, none]) (s2 := [eI (a1), eR v1]) rfl rfl rfl ?_
    refine w_cw (np := 8) (as := [eI (a1)]) (l2 := [some (eR v1), some (eI (a1))]) (rest := []) rfl rfl rfl (Nat.ble_eq.mp rfl) rfl rfl rfl (hI.kd b3 (by decide) (n := 8) rfl) rfl ?_
    refine s_19_2 (a1 := a1) hI b3 (by omega) ?_
    intro v5 b6
    show ex_q (dt_fg L ρ) rc (d + 2, (3, 8, [some (eR a0), some (eI (a1)), some (eI (a2)), none, none, none, none, none], [eI (v5)]), f :: F, μ)
    refine w_t (np := 9) (l2 := [some (eR a0), some (eI (a1)), some (eI (a2)), some (eI (v5)), none, none, none, none]) (s2 := []) rfl rfl rfl ?_
    refine w_t (np := 10) (l2 := [some (eR a0), some (eI (a1)), some (eI (a2)), some (eI (v5)), none, none, none, none]) (s2 := [eI (0)]) rfl rfl rfl ?_
    refine w_t (np := 12) (l2 := [some (eR a0), some (eI (a1)), some (eI (a2)), some (eI (v5)), some (eI (0)), none, none, none]) (s2 := []) rfl rfl rfl ?_
    have hL12 : ∀ (n7 : Nat) (m12 : eM) (i9 : Int) (o11 : Option eV), SI g m12 → Fr l_3 0 0 g μ m12 → (0 ≤ i9 ∧ i9 ≤ 3) → m12.1 a0 5 = ((v1 : Nat) : Int) → n7 = (3 - i9).toNat → ex_q (dt_fg L ρ) rc (d + 2, (3, 12, [some (eR a0), some (eI (a1)), some (eI (a2)), some (eI (v5)), some (eI (i9)), o11, none, none], []), f :: F, m12) := by
      intro n7
      induction n7 using Nat.strongRecOn with
      | _ n7 ih8 =>
      intro m12 i9 o11 I13 F14 b10 k15 hn16
      refine w_t (np := 14) (l2 := [some (eR a0), some (eI (a1)), some (eI (a2)), some (eI (v5)), some (eI (i9)), o11, none, none]) (s2 := [eI (i9)]) rfl rfl rfl ?_
      refine w_t (np := 15) (l2 := [some (eR a0), some (eI (a1)), some (eI (a2)), some (eI (v5)), some (eI (i9)), o11, none, none]) (s2 := [eI (3), eI (i9)]) rfl rfl rfl ?_
      refine b_cge (t1 := 88) (t2 := 18) rfl rfl rfl (ev_w_in (by omega) (by omega)) rfl (fun g17 => ?_) (fun g17 => ?_)
      · have b18 : 3 ≤ i9 ∧ i9 ≤ 3 := by omega
        refine w_t (np := 89) (l2 := [some (eR a0), some (eI (a1)), some (eI (a2)), some (eI (v5)), some (eI (i9)), o11, none, none]) (s2 := [eR a0]) rfl (s_an rfl (pos_g I13 gA0 (by decide))) rfl ?_
        refine w_gf (np := 92) (v := eR v1) rfl rfl (I13.kd gA0 (by decide) (n := 10) rfl) (by rw [k15]; rfl) ?_
        refine w_t (np := 93) (l2 := [some (eR a0), some (eI (a1)), some (eI (a2)), some (eI (v5)), some (eI (i9)), o11, none, none]) (s2 := [eI (a1), eR v1]) rfl rfl rfl ?_
        refine w_t (np := 94) (l2 := [some (eR a0), some (eI (a1)), some (eI (a2)), some (eI (v5)), some (eI (i9)), o11, none, none]) (s2 := [eI (0), eI (a1), eR v1]) rfl rfl rfl ?_
        refine w_cw (np := 97) (as := [eI (a1), eI (0)]) (l2 := [some (eR v1), some (eI (a1)), some (eI (0))]) (rest := []) rfl rfl rfl (Nat.ble_eq.mp rfl) rfl rfl rfl (I13.kd b3 (by decide) (n := 8) rfl) rfl ?_
        refine s_23_2 (a1 := a1) (a2 := 0) I13 b3 (by omega) (by decide) ?_
        intro v18 b19
        show ex_q (dt_fg L ρ) rc (d + 2, (3, 97, [some (eR a0), some (eI (a1)), some (eI (a2)), some (eI (v5)), some (eI (i9)), o11, none, none], [eI (v18)]), f :: F, m12)
        refine w_t (np := 99) (l2 := [some (eR a0), some (eI (a1)), some (eI (a2)), some (eI (v5)), some (eI (v18)), o11, none, none]) (s2 := []) rfl rfl rfl ?_
        refine w_t (np := 100) (l2 := [some (eR a0), some (eI (a1)), some (eI (a2)), some (eI (v5)), some (eI (v18)), o11, none, none]) (s2 := [eR a0]) rfl (s_an rfl (pos_g I13 gA0 (by decide))) rfl ?_
        refine w_gf (np := 103) (v := eR v1) rfl rfl (I13.kd gA0 (by decide) (n := 10) rfl) (by rw [k15]; rfl) ?_
        refine w_t (np := 104) (l2 := [some (eR a0), some (eI (a1)), some (eI (a2)), some (eI (v5)), some (eI (v18)), o11, none, none]) (s2 := [eI (a1), eR v1]) rfl rfl rfl ?_
        refine w_t (np := 105) (l2 := [some (eR a0), some (eI (a1)), some (eI (a2)), some (eI (v5)), some (eI (v18)), o11, none, none]) (s2 := [eI (1), eI (a1), eR v1]) rfl rfl rfl ?_
        refine w_cw (np := 108) (as := [eI (a1), eI (1)]) (l2 := [some (eR v1), some (eI (a1)), some (eI (1))]) (rest := []) rfl rfl rfl (Nat.ble_eq.mp rfl) rfl rfl rfl (I13.kd b3 (by decide) (n := 8) rfl) rfl ?_
        refine s_23_2 (a1 := a1) (a2 := 1) I13 b3 (by omega) (by decide) ?_
        intro v20 b21
        show ex_q (dt_fg L ρ) rc (d + 2, (3, 108, [some (eR a0), some (eI (a1)), some (eI (a2)), some (eI (v5)), some (eI (v18)), o11, none, none], [eI (v20)]), f :: F, m12)
        refine w_t (np := 110) (l2 := [some (eR a0), some (eI (a1)), some (eI (a2)), some (eI (v5)), some (eI (v18)), some (eI (v20)), none, none]) (s2 := []) rfl rfl rfl ?_
        refine w_t (np := 111) (l2 := [some (eR a0), some (eI (a1)), some (eI (a2)), some (eI (v5)), some (eI (v18)), some (eI (v20)), none, none]) (s2 := [eR a0]) rfl (s_an rfl (pos_g I13 gA0 (by decide))) rfl ?_
        refine w_gf (np := 114) (v := eR v1) rfl rfl (I13.kd gA0 (by decide) (n := 10) rfl) (by rw [k15]; rfl) ?_
        refine w_t (np := 115) (l2 := [some (eR a0), some (eI (a1)), some (eI (a2)), some (eI (v5)), some (eI (v18)), some (eI (v20)), none, none]) (s2 := [eI (a1), eR v1]) rfl rfl rfl ?_
        refine w_cw (np := 118) (as := [eI (a1)]) (l2 := [some (eR v1), some (eI (a1))]) (rest := []) rfl rfl rfl (Nat.ble_eq.mp rfl) rfl rfl rfl (I13.kd b3 (by decide) (n := 8) rfl) rfl ?_
        refine s_24_2 (a1 := a1) I13 b3 (by omega) ?_
        intro v22 b23
        show ex_q (dt_fg L ρ) rc (d + 2, (3, 118, [some (eR a0), some (eI (a1)), some (eI (a2)), some (eI (v5)), some (eI (v18)), some (eI (v20)), none, none], [eI (v22)]), f :: F, m12)
        refine b_ile (t1 := 125) (t2 := 121) rfl rfl rfl (ev_w_in (by omega) (by omega)) (fun g24 => ?_) (fun g24 => ?_)
        · have b25 : -1 ≤ v22 ∧ v22 ≤ 0 := by omega
          refine w_t (np := 126) (l2 := [some (eR a0), some (eI (a1)), some (eI (a2)), some (eI (v5)), some (eI (v18)), some (eI (v20)), none, none]) (s2 := [eI (0)]) rfl rfl rfl ?_
          refine w_t (np := 128) (l2 := [some (eR a0), some (eI (a1)), some (eI (a2)), some (eI (v5)), some (eI (v18)), some (eI (v20)), some (eI (0)), none]) (s2 := []) rfl rfl rfl ?_
          refine w_t (np := 129) (l2 := [some (eR a0), some (eI (a1)), some (eI (a2)), some (eI (v5)), some (eI (v18)), some (eI (v20)), some (eI (0)), none]) (s2 := [eI (1)]) rfl rfl rfl ?_
          refine w_t (np := 130) (l2 := [some (eR a0), some (eI (a1)), some (eI (a2)), some (eI (v5)), some (eI (v18)), some (eI (v20)), some (eI (0)), none]) (s2 := [eI (3), eI (1)]) rfl rfl rfl ?_
          refine w_t (np := 131) (l2 := [some (eR a0), some (eI (a1)), some (eI (a2)), some (eI (v5)), some (eI (v18)), some (eI (v20)), some (eI (0)), none]) (s2 := [eI (v5), eI (3), eI (1)]) rfl rfl rfl ?_
          obtain ⟨v25, e26⟩ : ∃ zz : Int, zz = (3) * (v5) := ⟨_, rfl⟩
          have b27 : 0 ≤ v25 ∧ v25 ≤ 3 := by omega
          refine w_t (np := 132) (l2 := [some (eR a0), some (eI (a1)), some (eI (a2)), some (eI (v5)), some (eI (v18)), some (eI (v20)), some (eI (0)), none]) (s2 := [eI (v25), eI (1)]) rfl (b_imul (by rw [← e26]; exact ev_w_in (by omega) (by omega))) rfl ?_
          obtain ⟨v28, e29⟩ : ∃ zz : Int, zz = (1) + (v25) := ⟨_, rfl⟩
          have b30 : 1 ≤ v28 ∧ v28 ≤ 4 := by omega
          refine w_t (np := 133) (l2 := [some (eR a0), some (eI (a1)), some (eI (a2)), some (eI (v5)), some (eI (v18)), some (eI (v20)), some (eI (0)), none]) (s2 := [eI (v28)]) rfl (b_iadd (by rw [← e29]; exact ev_w_in (by omega) (by omega))) rfl ?_
          refine w_t (np := 135) (l2 := [some (eR a0), some (eI (a1)), some (eI (a2)), some (eI (v5)), some (eI (v18)), some (eI (v20)), some (eI (0)), some (eI (v28))]) (s2 := []) rfl rfl rfl ?_
          refine w_t (np := 136) (l2 := [some (eR a0), some (eI (a1)), some (eI (a2)), some (eI (v5)), some (eI (v18)), some (eI (v20)), some (eI (0)), some (eI (v28))]) (s2 := [eR a0]) rfl (s_an rfl (pos_g I13 gA0 (by decide))) rfl ?_
          refine w_t (np := 137) (l2 := [some (eR a0), some (eI (a1)), some (eI (a2)), some (eI (v5)), some (eI (v18)), some (eI (v20)), some (eI (0)), some (eI (v28))]) (s2 := [eR a0, eR a0]) rfl (s_an rfl (pos_g I13 gA0 (by decide))) rfl ?_
          refine w_gf (np := 140) (v := eR v1) rfl rfl (I13.kd gA0 (by decide) (n := 10) rfl) (by rw [k15]; rfl) ?_
          refine w_t (np := 141) (l2 := [some (eR a0), some (eI (a1)), some (eI (a2)), some (eI (v5)), some (eI (v18)), some (eI (v20)), some (eI (0)), some (eI (v28))]) (s2 := [eI (a1), eR v1, eR a0]) rfl rfl rfl ?_
          refine w_t (np := 142) (l2 := [some (eR a0), some (eI (a1)), some (eI (a2)), some (eI (v5)), some (eI (v18)), some (eI (v20)), some (eI (0)), some (eI (v28))]) (s2 := [eI (0), eI (a1), eR v1, eR a0]) rfl rfl rfl ?_
          refine w_cw (np := 145) (as := [eI (a1), eI (0)]) (l2 := [some (eR v1), some (eI (a1)), some (eI (0))]) (rest := [eR a0]) rfl rfl rfl (Nat.ble_eq.mp rfl) rfl rfl rfl (I13.kd b3 (by decide) (n := 8) rfl) rfl ?_
          refine s_21_2 (a1 := a1) (a2 := 0) I13 b3 (by omega) (by decide) ?_
          intro v31 b32
          show ex_q (dt_fg L ρ) rc (d + 2, (3, 145, [some (eR a0), some (eI (a1)), some (eI (a2)), some (eI (v5)), some (eI (v18)), some (eI (v20)), some (eI (0)), some (eI (v28))], [eI (v31), eR a0]), f :: F, m12)
          refine w_t (np := 147) (l2 := [some (eR a0), some (eI (a1)), some (eI (a2)), some (eI (v5)), some (eI (v18)), some (eI (v20)), some (eI (0)), some (eI (v28))]) (s2 := [eI (0), eI (v31), eR a0]) rfl rfl rfl ?_
          refine b_ieq (t1 := 155) (t2 := 150) rfl rfl rfl rfl (fun g33 => ?_) (fun g33 => absurd g33 (by decide))
          refine w_t (np := 157) (l2 := [some (eR a0), some (eI (a1)), some (eI (a2)), some (eI (v5)), some (eI (v18)), some (eI (v20)), some (eI (0)), some (eI (v28))]) (s2 := [eI (v20), eI (v31), eR a0]) rfl rfl rfl ?_
          refine w_t (np := 159) (l2 := [some (eR a0), some (eI (a1)), some (eI (a2)), some (eI (v5)), some (eI (v18)), some (eI (v20)), some (eI (0)), some (eI (v28))]) (s2 := [eI (v28), eI (v20), eI (v31), eR a0]) rfl rfl rfl ?_
          refine w_cw (np := 162) (as := [eI (v31), eI (v20), eI (v28)]) (l2 := [some (eR a0), some (eI (v31)), some (eI (v20)), some (eI (v28))]) (rest := []) rfl rfl rfl (Nat.ble_eq.mp rfl) rfl rfl rfl (I13.kd gA0 (by decide) (n := 10) rfl) rfl ?_
          refine s_4 (a1 := v31) (a2 := v20) (a3 := v28) I13 gA0 (by omega) (by omega) (by omega) ?_
          intro m34 I35 F36
          have F37 : Fr l_3 0 0 g μ m34 := F14.t F36 rfl
          show ex_q (dt_fg L ρ) rc (d + 2, (3, 162, [some (eR a0), some (eI (a1)), some (eI (a2)), some (eI (v5)), some (eI (v18)), some (eI (v20)), some (eI (0)), some (eI (v28))], []), f :: F, m34)
          refine w_t (np := 163) (l2 := [some (eR a0), some (eI (a1)), some (eI (a2)), some (eI (v5)), some (eI (v18)), some (eI (v20)), some (eI (0)), some (eI (v28))]) (s2 := [eI (a1)]) rfl rfl rfl ?_
          refine w_t (np := 164) (l2 := [some (eR a0), some (eI (a1)), some (eI (a2)), some (eI (v5)), some (eI (v18)), some (eI (v20)), some (eI (0)), some (eI (v28))]) (s2 := [eI (a2), eI (a1)]) rfl rfl rfl ?_
          refine b_cge (t1 := 229) (t2 := 167) rfl rfl rfl (ev_w_in (by omega) (by omega)) (ev_w_in (by omega) (by omega)) (fun g38 => ?_) (fun g38 => ?_)
          · exact v_rv rfl rfl (K m34 I35 F37)
          · have b39 : 0 ≤ a1 ∧ a1 ≤ 888 := by omega
            have b40 : 1 ≤ a2 ∧ a2 ≤ 889 := by omega
            refine w_t (np := 168) (l2 := [some (eR a0), some (eI (a1)), some (eI (a2)), some (eI (v5)), some (eI (v18)), some (eI (v20)), some (eI (0)), some (eI (v28))]) (s2 := [eR a0]) rfl (s_an rfl (pos_g I35 gA0 (by decide))) rfl ?_
            refine w_t (np := 169) (l2 := [some (eR a0), some (eI (a1)), some (eI (a2)), some (eI (v5)), some (eI (v18)), some (eI (v20)), some (eI (0)), some (eI (v28))]) (s2 := [eR a0, eR a0]) rfl (s_an rfl (pos_g I35 gA0 (by decide))) rfl ?_
            refine w_gf (np := 172) (v := eR v1) rfl rfl (I35.kd gA0 (by decide) (n := 10) rfl) (by rw [(F36.k k15 gA0 (by decide) rfl)]; rfl) ?_
            refine w_t (np := 173) (l2 := [some (eR a0), some (eI (a1)), some (eI (a2)), some (eI (v5)), some (eI (v18)), some (eI (v20)), some (eI (0)), some (eI (v28))]) (s2 := [eI (a1), eR v1, eR a0]) rfl rfl rfl ?_
            refine w_t (np := 174) (l2 := [some (eR a0), some (eI (a1)), some (eI (a2)), some (eI (v5)), some (eI (v18)), some (eI (v20)), some (eI (0)), some (eI (v28))]) (s2 := [eI (1), eI (a1), eR v1, eR a0]) rfl rfl rfl ?_
            refine w_cw (np := 177) (as := [eI (a1), eI (1)]) (l2 := [some (eR v1), some (eI (a1)), some (eI (1))]) (rest := [eR a0]) rfl rfl rfl (Nat.ble_eq.mp rfl) rfl rfl rfl (I35.kd b3 (by decide) (n := 8) rfl) rfl ?_
            refine s_21_2 (a1 := a1) (a2 := 1) I35 b3 (by omega) (by decide) ?_
            intro v39 b40
            show ex_q (dt_fg L ρ) rc (d + 2, (3, 177, [some (eR a0), some (eI (a1)), some (eI (a2)), some (eI (v5)), some (eI (v18)), some (eI (v20)), some (eI (0)), some (eI (v28))], [eI (v39), eR a0]), f :: F, m34)
            refine w_t (np := 179) (l2 := [some (eR a0), some (eI (a1)), some (eI (a2)), some (eI (v5)), some (eI (v18)), some (eI (v20)), some (eI (0)), some (eI (v28))]) (s2 := [eI (0), eI (v39), eR a0]) rfl rfl rfl ?_
            refine b_ieq (t1 := 187) (t2 := 182) rfl rfl rfl rfl (fun g41 => ?_) (fun g41 => absurd g41 (by decide))
            refine w_t (np := 189) (l2 := [some (eR a0), some (eI (a1)), some (eI (a2)), some (eI (v5)), some (eI (v18)), some (eI (v20)), some (eI (0)), some (eI (v28))]) (s2 := [eI (v18), eI (v39), eR a0]) rfl rfl rfl ?_
            refine w_t (np := 190) (l2 := [some (eR a0), some (eI (a1)), some (eI (a2)), some (eI (v5)), some (eI (v18)), some (eI (v20)), some (eI (0)), some (eI (v28))]) (s2 := [eI (5), eI (v18), eI (v39), eR a0]) rfl rfl rfl ?_
            obtain ⟨v42, e43⟩ : ∃ zz : Int, zz = (v18) + (5) := ⟨_, rfl⟩
            have b44 : 5 ≤ v42 ∧ v42 ≤ 14 := by omega
            refine w_t (np := 191) (l2 := [some (eR a0), some (eI (a1)), some (eI (a2)), some (eI (v5)), some (eI (v18)), some (eI (v20)), some (eI (0)), some (eI (v28))]) (s2 := [eI (v42), eI (v39), eR a0]) rfl (b_iadd (by rw [← e43]; exact ev_w_in (by omega) (by omega))) rfl ?_
            refine w_t (np := 193) (l2 := [some (eR a0), some (eI (a1)), some (eI (a2)), some (eI (v5)), some (eI (v18)), some (eI (v20)), some (eI (0)), some (eI (v28))]) (s2 := [eI (v28), eI (v42), eI (v39), eR a0]) rfl rfl rfl ?_
            refine w_t (np := 194) (l2 := [some (eR a0), some (eI (a1)), some (eI (a2)), some (eI (v5)), some (eI (v18)), some (eI (v20)), some (eI (0)), some (eI (v28))]) (s2 := [eI (1), eI (v28), eI (v42), eI (v39), eR a0]) rfl rfl rfl ?_
            obtain ⟨v45, e46⟩ : ∃ zz : Int, zz = (v28) + (1) := ⟨_, rfl⟩
            have b47 : 2 ≤ v45 ∧ v45 ≤ 5 := by omega
            refine w_t (np := 195) (l2 := [some (eR a0), some (eI (a1)), some (eI (a2)), some (eI (v5)), some (eI (v18)), some (eI (v20)), some (eI (0)), some (eI (v28))]) (s2 := [eI (v45), eI (v42), eI (v39), eR a0]) rfl (b_iadd (by rw [← e46]; exact ev_w_in (by omega) (by omega))) rfl ?_
            refine w_cw (np := 198) (as := [eI (v39), eI (v42), eI (v45)]) (l2 := [some (eR a0), some (eI (v39)), some (eI (v42)), some (eI (v45))]) (rest := []) rfl rfl rfl (Nat.ble_eq.mp rfl) rfl rfl rfl (I35.kd gA0 (by decide) (n := 10) rfl) rfl ?_
            refine s_4 (a1 := v39) (a2 := v42) (a3 := v45) I35 gA0 (by omega) (by omega) (by omega) ?_
            intro m48 I49 F50
            have F51 : Fr l_3 0 0 g μ m48 := F37.t F50 rfl
            show ex_q (dt_fg L ρ) rc (d + 2, (3, 198, [some (eR a0), some (eI (a1)), some (eI (a2)), some (eI (v5)), some (eI (v18)), some (eI (v20)), some (eI (0)), some (eI (v28))], []), f :: F, m48)
            refine w_t (np := 199) (l2 := [some (eR a0), some (eI (a1)), some (eI (a2)), some (eI (v5)), some (eI (v18)), some (eI (v20)), some (eI (0)), some (eI (v28))]) (s2 := [eR a0]) rfl (s_an rfl (pos_g I49 gA0 (by decide))) rfl ?_
            refine w_t (np := 200) (l2 := [some (eR a0), some (eI (a1)), some (eI (a2)), some (eI (v5)), some (eI (v18)), some (eI (v20)), some (eI (0)), some (eI (v28))]) (s2 := [eR a0, eR a0]) rfl (s_an rfl (pos_g I49 gA0 (by decide))) rfl ?_
            refine w_gf (np := 203) (v := eR v1) rfl rfl (I49.kd gA0 (by decide) (n := 10) rfl) (by rw [(F50.k (F36.k k15 gA0 (by decide) rfl) gA0 (by decide) rfl)]; rfl) ?_
            refine w_t (np := 204) (l2 := [some (eR a0), some (eI (a1)), some (eI (a2)), some (eI (v5)), some (eI (v18)), some (eI (v20)), some (eI (0)), some (eI (v28))]) (s2 := [eI (a1), eR v1, eR a0]) rfl rfl rfl ?_
            refine w_t (np := 205) (l2 := [some (eR a0), some (eI (a1)), some (eI (a2)), some (eI (v5)), some (eI (v18)), some (eI (v20)), some (eI (0)), some (eI (v28))]) (s2 := [eI (2), eI (a1), eR v1, eR a0]) rfl rfl rfl ?_
            refine w_cw (np := 208) (as := [eI (a1), eI (2)]) (l2 := [some (eR v1), some (eI (a1)), some (eI (2))]) (rest := [eR a0]) rfl rfl rfl (Nat.ble_eq.mp rfl) rfl rfl rfl (I49.kd b3 (by decide) (n := 8) rfl) rfl ?_
            refine s_21_2 (a1 := a1) (a2 := 2) I49 b3 (by omega) (by decide) ?_
            intro v52 b53
            show ex_q (dt_fg L ρ) rc (d + 2, (3, 208, [some (eR a0), some (eI (a1)), some (eI (a2)), some (eI (v5)), some (eI (v18)), some (eI (v20)), some (eI (0)), some (eI (v28))], [eI (v52), eR a0]), f :: F, m48)
            refine w_t (np := 210) (l2 := [some (eR a0), some (eI (a1)), some (eI (a2)), some (eI (v5)), some (eI (v18)), some (eI (v20)), some (eI (0)), some (eI (v28))]) (s2 := [eI (0), eI (v52), eR a0]) rfl rfl rfl ?_
            refine b_ieq (t1 := 220) (t2 := 213) rfl rfl rfl rfl (fun g54 => ?_) (fun g54 => absurd g54 (by decide))
            refine w_t (np := 222) (l2 := [some (eR a0), some (eI (a1)), some (eI (a2)), some (eI (v5)), some (eI (v18)), some (eI (v20)), some (eI (0)), some (eI (v28))]) (s2 := [eI (v18), eI (v52), eR a0]) rfl rfl rfl ?_
            refine w_t (np := 224) (l2 := [some (eR a0), some (eI (a1)), some (eI (a2)), some (eI (v5)), some (eI (v18)), some (eI (v20)), some (eI (0)), some (eI (v28))]) (s2 := [eI (v28), eI (v18), eI (v52), eR a0]) rfl rfl rfl ?_
            refine w_t (np := 225) (l2 := [some (eR a0), some (eI (a1)), some (eI (a2)), some (eI (v5)), some (eI (v18)), some (eI (v20)), some (eI (0)), some (eI (v28))]) (s2 := [eI (2), eI (v28), eI (v18), eI (v52), eR a0]) rfl rfl rfl ?_
            obtain ⟨v55, e56⟩ : ∃ zz : Int, zz = (v28) + (2) := ⟨_, rfl⟩
            have b57 : 3 ≤ v55 ∧ v55 ≤ 6 := by omega
            refine w_t (np := 226) (l2 := [some (eR a0), some (eI (a1)), some (eI (a2)), some (eI (v5)), some (eI (v18)), some (eI (v20)), some (eI (0)), some (eI (v28))]) (s2 := [eI (v55), eI (v18), eI (v52), eR a0]) rfl (b_iadd (by rw [← e56]; exact ev_w_in (by omega) (by omega))) rfl ?_
            refine w_cw (np := 229) (as := [eI (v52), eI (v18), eI (v55)]) (l2 := [some (eR a0), some (eI (v52)), some (eI (v18)), some (eI (v55))]) (rest := []) rfl rfl rfl (Nat.ble_eq.mp rfl) rfl rfl rfl (I49.kd gA0 (by decide) (n := 10) rfl) rfl ?_
            refine s_4 (a1 := v52) (a2 := v18) (a3 := v55) I49 gA0 (by omega) (by omega) (by omega) ?_
            intro m58 I59 F60
            have F61 : Fr l_3 0 0 g μ m58 := F51.t F60 rfl
            show ex_q (dt_fg L ρ) rc (d + 2, (3, 229, [some (eR a0), some (eI (a1)), some (eI (a2)), some (eI (v5)), some (eI (v18)), some (eI (v20)), some (eI (0)), some (eI (v28))], []), f :: F, m58)
            exact v_rv rfl rfl (K m58 I59 F61)
        · have b25 : 1 ≤ v22 ∧ v22 ≤ 1 := by omega
          refine w_t (np := 122) (l2 := [some (eR a0), some (eI (a1)), some (eI (a2)), some (eI (v5)), some (eI (v18)), some (eI (v20)), none, none]) (s2 := [eI (1)]) rfl rfl rfl ?_
          refine w_go (t1 := 126) rfl rfl ?_
          refine w_t (np := 128) (l2 := [some (eR a0), some (eI (a1)), some (eI (a2)), some (eI (v5)), some (eI (v18)), some (eI (v20)), some (eI (1)), none]) (s2 := []) rfl rfl rfl ?_
          refine w_t (np := 129) (l2 := [some (eR a0), some (eI (a1)), some (eI (a2)), some (eI (v5)), some (eI (v18)), some (eI (v20)), some (eI (1)), none]) (s2 := [eI (1)]) rfl rfl rfl ?_
          refine w_t (np := 130) (l2 := [some (eR a0), some (eI (a1)), some (eI (a2)), some (eI (v5)), some (eI (v18)), some (eI (v20)), some (eI (1)), none]) (s2 := [eI (3), eI (1)]) rfl rfl rfl ?_
          refine w_t (np := 131) (l2 := [some (eR a0), some (eI (a1)), some (eI (a2)), some (eI (v5)), some (eI (v18)), some (eI (v20)), some (eI (1)), none]) (s2 := [eI (v5), eI (3), eI (1)]) rfl rfl rfl ?_
          obtain ⟨v25, e26⟩ : ∃ zz : Int, zz = (3) * (v5) := ⟨_, rfl⟩
          have b27 : 0 ≤ v25 ∧ v25 ≤ 3 := by omega
          refine w_t (np := 132) (l2 := [some (eR a0), some (eI (a1)), some (eI (a2)), some (eI (v5)), some (eI (v18)), some (eI (v20)), some (eI (1)), none]) (s2 := [eI (v25), eI (1)]) rfl (b_imul (by rw [← e26]; exact ev_w_in (by omega) (by omega))) rfl ?_
          obtain ⟨v28, e29⟩ : ∃ zz : Int, zz = (1) + (v25) := ⟨_, rfl⟩
          have b30 : 1 ≤ v28 ∧ v28 ≤ 4 := by omega
          refine w_t (np := 133) (l2 := [some (eR a0), some (eI (a1)), some (eI (a2)), some (eI (v5)), some (eI (v18)), some (eI (v20)), some (eI (1)), none]) (s2 := [eI (v28)]) rfl (b_iadd (by rw [← e29]; exact ev_w_in (by omega) (by omega))) rfl ?_
          refine w_t (np := 135) (l2 := [some (eR a0), some (eI (a1)), some (eI (a2)), some (eI (v5)), some (eI (v18)), some (eI (v20)), some (eI (1)), some (eI (v28))]) (s2 := []) rfl rfl rfl ?_
          refine w_t (np := 136) (l2 := [some (eR a0), some (eI (a1)), some (eI (a2)), some (eI (v5)), some (eI (v18)), some (eI (v20)), some (eI (1)), some (eI (v28))]) (s2 := [eR a0]) rfl (s_an rfl (pos_g I13 gA0 (by decide))) rfl ?_
          refine w_t (np := 137) (l2 := [some (eR a0), some (eI (a1)), some (eI (a2)), some (eI (v5)), some (eI (v18)), some (eI (v20)), some (eI (1)), some (eI (v28))]) (s2 := [eR a0, eR a0]) rfl (s_an rfl (pos_g I13 gA0 (by decide))) rfl ?_
          refine w_gf (np := 140) (v := eR v1) rfl rfl (I13.kd gA0 (by decide) (n := 10) rfl) (by rw [k15]; rfl) ?_
          refine w_t (np := 141) (l2 := [some (eR a0), some (eI (a1)), some (eI (a2)), some (eI (v5)), some (eI (v18)), some (eI (v20)), some (eI (1)), some (eI (v28))]) (s2 := [eI (a1), eR v1, eR a0]) rfl rfl rfl ?_
          refine w_t (np := 142) (l2 := [some (eR a0), some (eI (a1)), some (eI (a2)), some (eI (v5)), some (eI (v18)), some (eI (v20)), some (eI (1)), some (eI (v28))]) (s2 := [eI (0), eI (a1), eR v1, eR a0]) rfl rfl rfl ?_
          refine w_cw (np := 145) (as := [eI (a1), eI (0)]) (l2 := [some (eR v1), some (eI (a1)), some (eI (0))]) (rest := [eR a0]) rfl rfl rfl (Nat.ble_eq.mp rfl) rfl rfl rfl (I13.kd b3 (by decide) (n := 8) rfl) rfl ?_
          refine s_21_2 (a1 := a1) (a2 := 0) I13 b3 (by omega) (by decide) ?_
          intro v31 b32
          show ex_q (dt_fg L ρ) rc (d + 2, (3, 145, [some (eR a0), some (eI (a1)), some (eI (a2)), some (eI (v5)), some (eI (v18)), some (eI (v20)), some (eI (1)), some (eI (v28))], [eI (v31), eR a0]), f :: F, m12)
          refine w_t (np := 147) (l2 := [some (eR a0), some (eI (a1)), some (eI (a2)), some (eI (v5)), some (eI (v18)), some (eI (v20)), some (eI (1)), some (eI (v28))]) (s2 := [eI (1), eI (v31), eR a0]) rfl rfl rfl ?_
          refine b_ieq (t1 := 155) (t2 := 150) rfl rfl rfl rfl (fun g33 => absurd g33 (by decide)) (fun g33 => ?_)
          refine w_t (np := 152) (l2 := [some (eR a0), some (eI (a1)), some (eI (a2)), some (eI (v5)), some (eI (v18)), some (eI (v20)), some (eI (1)), some (eI (v28))]) (s2 := [eI (v18), eI (v31), eR a0]) rfl rfl rfl ?_
          refine w_go (t1 := 157) rfl rfl ?_
          refine w_t (np := 159) (l2 := [some (eR a0), some (eI (a1)), some (eI (a2)), some (eI (v5)), some (eI (v18)), some (eI (v20)), some (eI (1)), some (eI (v28))]) (s2 := [eI (v28), eI (v18), eI (v31), eR a0]) rfl rfl rfl ?_
          refine w_cw (np := 162) (as := [eI (v31), eI (v18), eI (v28)]) (l2 := [some (eR a0), some (eI (v31)), some (eI (v18)), some (eI (v28))]) (rest := []) rfl rfl rfl (Nat.ble_eq.mp rfl) rfl rfl rfl (I13.kd gA0 (by decide) (n := 10) rfl) rfl ?_
          refine s_4 (a1 := v31) (a2 := v18) (a3 := v28) I13 gA0 (by omega) (by omega) (by omega) ?_
          intro m34 I35 F36
          have F37 : Fr l_3 0 0 g μ m34 := F14.t F36 rfl
          show ex_q (dt_fg L ρ) rc (d + 2, (3, 162, [some (eR a0), some (eI (a1)), some (eI (a2)), some (eI (v5)), some (eI (v18)), some (eI (v20)), some (eI (1)), some (eI (v28))], []), f :: F, m34)
          refine w_t (np := 163) (l2 := [some (eR a0), some (eI (a1)), some (eI (a2)), some (eI (v5)), some (eI (v18)), some (eI (v20)), some (eI (1)), some (eI (v28))]) (s2 := [eI (a1)]) rfl rfl rfl ?_
          refine w_t (np := 164) (l2 := [some (eR a0), some (eI (a1)), some (eI (a2)), some (eI (v5)), some (eI (v18)), some (eI (v20)), some (eI (1)), some (eI (v28))]) (s2 := [eI (a2), eI (a1)]) rfl rfl rfl ?_
          refine b_cge (t1 := 229) (t2 := 167) rfl rfl rfl (ev_w_in (by omega) (by omega)) (ev_w_in (by omega) (by omega)) (fun g38 => ?_) (fun g38 => ?_)
          · exact v_rv rfl rfl (K m34 I35 F37)
          · have b39 : 0 ≤ a1 ∧ a1 ≤ 888 := by omega
            have b40 : 1 ≤ a2 ∧ a2 ≤ 889 := by omega
            refine w_t (np := 168) (l2 := [some (eR a0), some (eI (a1)), some (eI (a2)), some (eI (v5)), some (eI (v18)), some (eI (v20)), some (eI (1)), some (eI (v28))]) (s2 := [eR a0]) rfl (s_an rfl (pos_g I35 gA0 (by decide))) rfl ?_
            refine w_t (np := 169) (l2 := [some (eR a0), some (eI (a1)), some (eI (a2)), some (eI (v5)), some (eI (v18)), some (eI (v20)), some (eI (1)), some (eI (v28))]) (s2 := [eR a0, eR a0]) rfl (s_an rfl (pos_g I35 gA0 (by decide))) rfl ?_
            refine w_gf (np := 172) (v := eR v1) rfl rfl (I35.kd gA0 (by decide) (n := 10) rfl) (by rw [(F36.k k15 gA0 (by decide) rfl)]; rfl) ?_
            refine w_t (np := 173) (l2 := [some (eR a0), some (eI (a1)), some (eI (a2)), some (eI (v5)), some (eI (v18)), some (eI (v20)), some (eI (1)), some (eI (v28))]) (s2 := [eI (a1), eR v1, eR a0]) rfl rfl rfl ?_
            refine w_t (np := 174) (l2 := [some (eR a0), some (eI (a1)), some (eI (a2)), some (eI (v5)), some (eI (v18)), some (eI (v20)), some (eI (1)), some (eI (v28))]) (s2 := [eI (1), eI (a1), eR v1, eR a0]) rfl rfl rfl ?_
            refine w_cw (np := 177) (as := [eI (a1), eI (1)]) (l2 := [some (eR v1), some (eI (a1)), some (eI (1))]) (rest := [eR a0]) rfl rfl rfl (Nat.ble_eq.mp rfl) rfl rfl rfl (I35.kd b3 (by decide) (n := 8) rfl) rfl ?_
            refine s_21_2 (a1 := a1) (a2 := 1) I35 b3 (by omega) (by decide) ?_
            intro v39 b40
            show ex_q (dt_fg L ρ) rc (d + 2, (3, 177, [some (eR a0), some (eI (a1)), some (eI (a2)), some (eI (v5)), some (eI (v18)), some (eI (v20)), some (eI (1)), some (eI (v28))], [eI (v39), eR a0]), f :: F, m34)
            refine w_t (np := 179) (l2 := [some (eR a0), some (eI (a1)), some (eI (a2)), some (eI (v5)), some (eI (v18)), some (eI (v20)), some (eI (1)), some (eI (v28))]) (s2 := [eI (1), eI (v39), eR a0]) rfl rfl rfl ?_
            refine b_ieq (t1 := 187) (t2 := 182) rfl rfl rfl rfl (fun g41 => absurd g41 (by decide)) (fun g41 => ?_)
            refine w_t (np := 184) (l2 := [some (eR a0), some (eI (a1)), some (eI (a2)), some (eI (v5)), some (eI (v18)), some (eI (v20)), some (eI (1)), some (eI (v28))]) (s2 := [eI (v20), eI (v39), eR a0]) rfl rfl rfl ?_
            refine w_go (t1 := 191) rfl rfl ?_
            refine w_t (np := 193) (l2 := [some (eR a0), some (eI (a1)), some (eI (a2)), some (eI (v5)), some (eI (v18)), some (eI (v20)), some (eI (1)), some (eI (v28))]) (s2 := [eI (v28), eI (v20), eI (v39), eR a0]) rfl rfl rfl ?_
            refine w_t (np := 194) (l2 := [some (eR a0), some (eI (a1)), some (eI (a2)), some (eI (v5)), some (eI (v18)), some (eI (v20)), some (eI (1)), some (eI (v28))]) (s2 := [eI (1), eI (v28), eI (v20), eI (v39), eR a0]) rfl rfl rfl ?_
            obtain ⟨v42, e43⟩ : ∃ zz : Int, zz = (v28) + (1) := ⟨_, rfl⟩
            have b44 : 2 ≤ v42 ∧ v42 ≤ 5 := by omega
            refine w_t (np := 195) (l2 := [some (eR a0), some (eI (a1)), some (eI (a2)), some (eI (v5)), some (eI (v18)), some (eI (v20)), some (eI (1)), some (eI (v28))]) (s2 := [eI (v42), eI (v20), eI (v39), eR a0]) rfl (b_iadd (by rw [← e43]; exact ev_w_in (by omega) (by omega))) rfl ?_
            refine w_cw (np := 198) (as := [eI (v39), eI (v20), eI (v42)]) (l2 := [some (eR a0), some (eI (v39)), some (eI (v20)), some (eI (v42))]) (rest := []) rfl rfl rfl (Nat.ble_eq.mp rfl) rfl rfl rfl (I35.kd gA0 (by decide) (n := 10) rfl) rfl ?_
            refine s_4 (a1 := v39) (a2 := v20) (a3 := v42) I35 gA0 (by omega) (by omega) (by omega) ?_
            intro m45 I46 F47
            have F48 : Fr l_3 0 0 g μ m45 := F37.t F47 rfl
            show ex_q (dt_fg L ρ) rc (d + 2, (3, 198, [some (eR a0), some (eI (a1)), some (eI (a2)), some (eI (v5)), some (eI (v18)), some (eI (v20)), some (eI (1)), some (eI (v28))], []), f :: F, m45)
            refine w_t (np := 199) (l2 := [some (eR a0), some (eI (a1)), some (eI (a2)), some (eI (v5)), some (eI (v18)), some (eI (v20)), some (eI (1)), some (eI (v28))]) (s2 := [eR a0]) rfl (s_an rfl (pos_g I46 gA0 (by decide))) rfl ?_
            refine w_t (np := 200) (l2 := [some (eR a0), some (eI (a1)), some (eI (a2)), some (eI (v5)), some (eI (v18)), some (eI (v20)), some (eI (1)), some (eI (v28))]) (s2 := [eR a0, eR a0]) rfl (s_an rfl (pos_g I46 gA0 (by decide))) rfl ?_
            refine w_gf (np := 203) (v := eR v1) rfl rfl (I46.kd gA0 (by decide) (n := 10) rfl) (by rw [(F47.k (F36.k k15 gA0 (by decide) rfl) gA0 (by decide) rfl)]; rfl) ?_
            refine w_t (np := 204) (l2 := [some (eR a0), some (eI (a1)), some (eI (a2)), some (eI (v5)), some (eI (v18)), some (eI (v20)), some (eI (1)), some (eI (v28))]) (s2 := [eI (a1), eR v1, eR a0]) rfl rfl rfl ?_
            refine w_t (np := 205) (l2 := [some (eR a0), some (eI (a1)), some (eI (a2)), some (eI (v5)), some (eI (v18)), some (eI (v20)), some (eI (1)), some (eI (v28))]) (s2 := [eI (2), eI (a1), eR v1, eR a0]) rfl rfl rfl ?_
            refine w_cw (np := 208) (as := [eI (a1), eI (2)]) (l2 := [some (eR v1), some (eI (a1)), some (eI (2))]) (rest := [eR a0]) rfl rfl rfl (Nat.ble_eq.mp rfl) rfl rfl rfl (I46.kd b3 (by decide) (n := 8) rfl) rfl ?_
            refine s_21_2 (a1 := a1) (a2 := 2) I46 b3 (by omega) (by decide) ?_
            intro v49 b50
            show ex_q (dt_fg L ρ) rc (d + 2, (3, 208, [some (eR a0), some (eI (a1)), some (eI (a2)), some (eI (v5)), some (eI (v18)), some (eI (v20)), some (eI (1)), some (eI (v28))], [eI (v49), eR a0]), f :: F, m45)
            refine w_t (np := 210) (l2 := [some (eR a0), some (eI (a1)), some (eI (a2)), some (eI (v5)), some (eI (v18)), some (eI (v20)), some (eI (1)), some (eI (v28))]) (s2 := [eI (1), eI (v49), eR a0]) rfl rfl rfl ?_
            refine b_ieq (t1 := 220) (t2 := 213) rfl rfl rfl rfl (fun g51 => absurd g51 (by decide)) (fun g51 => ?_)
            refine w_t (np := 215) (l2 := [some (eR a0), some (eI (a1)), some (eI (a2)), some (eI (v5)), some (eI (v18)), some (eI (v20)), some (eI (1)), some (eI (v28))]) (s2 := [eI (v20), eI (v49), eR a0]) rfl rfl rfl ?_
            refine w_t (np := 216) (l2 := [some (eR a0), some (eI (a1)), some (eI (a2)), some (eI (v5)), some (eI (v18)), some (eI (v20)), some (eI (1)), some (eI (v28))]) (s2 := [eI (5), eI (v20), eI (v49), eR a0]) rfl rfl rfl ?_
            obtain ⟨v52, e53⟩ : ∃ zz : Int, zz = (v20) + (5) := ⟨_, rfl⟩
            have b54 : 5 ≤ v52 ∧ v52 ≤ 14 := by omega
            refine w_t (np := 217) (l2 := [some (eR a0), some (eI (a1)), some (eI (a2)), some (eI (v5)), some (eI (v18)), some (eI (v20)), some (eI (1)), some (eI (v28))]) (s2 := [eI (v52), eI (v49), eR a0]) rfl (b_iadd (by rw [← e53]; exact ev_w_in (by omega) (by omega))) rfl ?_
            refine w_go (t1 := 222) rfl rfl ?_
            refine w_t (np := 224) (l2 := [some (eR a0), some (eI (a1)), some (eI (a2)), some (eI (v5)), some (eI (v18)), some (eI (v20)), some (eI (1)), some (eI (v28))]) (s2 := [eI (v28), eI (v52), eI (v49), eR a0]) rfl rfl rfl ?_
            refine w_t (np := 225) (l2 := [some (eR a0), some (eI (a1)), some (eI (a2)), some (eI (v5)), some (eI (v18)), some (eI (v20)), some (eI (1)), some (eI (v28))]) (s2 := [eI (2), eI (v28), eI (v52), eI (v49), eR a0]) rfl rfl rfl ?_
            obtain ⟨v55, e56⟩ : ∃ zz : Int, zz = (v28) + (2) := ⟨_, rfl⟩
            have b57 : 3 ≤ v55 ∧ v55 ≤ 6 := by omega
            refine w_t (np := 226) (l2 := [some (eR a0), some (eI (a1)), some (eI (a2)), some (eI (v5)), some (eI (v18)), some (eI (v20)), some (eI (1)), some (eI (v28))]) (s2 := [eI (v55), eI (v52), eI (v49), eR a0]) rfl (b_iadd (by rw [← e56]; exact ev_w_in (by omega) (by omega))) rfl ?_
            refine w_cw (np := 229) (as := [eI (v49), eI (v52), eI (v55)]) (l2 := [some (eR a0), some (eI (v49)), some (eI (v52)), some (eI (v55))]) (rest := []) rfl rfl rfl (Nat.ble_eq.mp rfl) rfl rfl rfl (I46.kd gA0 (by decide) (n := 10) rfl) rfl ?_
            refine s_4 (a1 := v49) (a2 := v52) (a3 := v55) I46 gA0 (by omega) (by omega) (by omega) ?_
            intro m58 I59 F60
            have F61 : Fr l_3 0 0 g μ m58 := F48.t F60 rfl
            show ex_q (dt_fg L ρ) rc (d + 2, (3, 229, [some (eR a0), some (eI (a1)), some (eI (a2)), some (eI (v5)), some (eI (v18)), some (eI (v20)), some (eI (1)), some (eI (v28))], []), f :: F, m58)
            exact v_rv rfl rfl (K m58 I59 F61)
      · have b18 : 0 ≤ i9 ∧ i9 ≤ 2 := by omega
        refine w_t (np := 19) (l2 := [some (eR a0), some (eI (a1)), some (eI (a2)), some (eI (v5)), some (eI (i9)), o11, none, none]) (s2 := [eR a0]) rfl (s_an rfl (pos_g I13 gA0 (by decide))) rfl ?_
        refine w_gf (np := 22) (v := eR v1) rfl rfl (I13.kd gA0 (by decide) (n := 10) rfl) (by rw [k15]; rfl) ?_
        refine w_t (np := 23) (l2 := [some (eR a0), some (eI (a1)), some (eI (a2)), some (eI (v5)), some (eI (i9)), o11, none, none]) (s2 := [eI (a1), eR v1]) rfl rfl rfl ?_
        refine w_t (np := 25) (l2 := [some (eR a0), some (eI (a1)), some (eI (a2)), some (eI (v5)), some (eI (i9)), o11, none, none]) (s2 := [eI (i9), eI (a1), eR v1]) rfl rfl rfl ?_
        refine w_cw (np := 28) (as := [eI (a1), eI (i9)]) (l2 := [some (eR v1), some (eI (a1)), some (eI (i9))]) (rest := []) rfl rfl rfl (Nat.ble_eq.mp rfl) rfl rfl rfl (I13.kd b3 (by decide) (n := 8) rfl) rfl ?_
        refine s_21_2 (a1 := a1) (a2 := i9) I13 b3 (by omega) (by omega) ?_
        intro v18 b19
        show ex_q (dt_fg L ρ) rc (d + 2, (3, 28, [some (eR a0), some (eI (a1)), some (eI (a2)), some (eI (v5)), some (eI (i9)), o11, none, none], [eI (v18)]), f :: F, m12)
        refine w_t (np := 30) (l2 := [some (eR a0), some (eI (a1)), some (eI (a2)), some (eI (v5)), some (eI (i9)), some (eI (v18)), none, none]) (s2 := []) rfl rfl rfl ?_
        refine w_t (np := 31) (l2 := [some (eR a0), some (eI (a1)), some (eI (a2)), some (eI (v5)), some (eI (i9)), some (eI (v18)), none, none]) (s2 := [eR a0]) rfl (s_an rfl (pos_g I13 gA0 (by decide))) rfl ?_
        refine j_gr (np := 34) rfl rfl I13 gA0 (by decide) (n := 10) rfl rfl rfl ?_
        intro v20 e21 b22 z23
        have b22 : g v20 = 43 := Nat.eq_of_beq_eq_true b22
        refine w_t (np := 36) (l2 := [some (eR a0), some (eI (a1)), some (eI (a2)), some (eI (v5)), some (eI (i9)), some (eI (v18)), none, none]) (s2 := [eI (v18), eR v20]) rfl rfl rfl ?_
        refine w_t (np := 37) (l2 := [some (eR a0), some (eI (a1)), some (eI (a2)), some (eI (v5)), some (eI (i9)), some (eI (v18)), none, none]) (s2 := [eI (v18), eR v20, eI (v18), eR v20]) rfl rfl rfl ?_
        refine j_al (np := 38) rfl rfl I13 b22 (by decide) (n := 512) rfl rfl (lo := -2147483648) (hi := 2147483647) (fun _ => rfl) (by omega) (by omega) ?_
        intro v24 e25 b26
        refine w_t (np := 40) (l2 := [some (eR a0), some (eI (a1)), some (eI (a2)), some (eI (v5)), some (eI (i9)), some (eI (v18)), none, none]) (s2 := [eI (i9), eI (v24), eI (v18), eR v20]) rfl rfl rfl ?_
        refine b_ine (t1 := 51) (t2 := 43) rfl rfl rfl (ev_w_in (by omega) (by omega)) (fun g27 => ?_) (fun g27 => ?_)
        · have b28 : 1 ≤ i9 ∧ i9 ≤ 2 := by omega
          refine w_t (np := 52) (l2 := [some (eR a0), some (eI (a1)), some (eI (a2)), some (eI (v5)), some (eI (i9)), some (eI (v18)), none, none]) (s2 := [eI (2), eI (v24), eI (v18), eR v20]) rfl rfl rfl ?_
          refine w_t (np := 53) (l2 := [some (eR a0), some (eI (a1)), some (eI (a2)), some (eI (v5)), some (eI (i9)), some (eI (v18)), none, none]) (s2 := [eI (v5), eI (2), eI (v24), eI (v18), eR v20]) rfl rfl rfl ?_
          obtain ⟨v28, e29⟩ : ∃ zz : Int, zz = (2) - (v5) := ⟨_, rfl⟩
          have b30 : 1 ≤ v28 ∧ v28 ≤ 2 := by omega
          refine w_t (np := 54) (l2 := [some (eR a0), some (eI (a1)), some (eI (a2)), some (eI (v5)), some (eI (i9)), some (eI (v18)), none, none]) (s2 := [eI (v28), eI (v24), eI (v18), eR v20]) rfl (b_isub (by rw [← e29]; exact ev_w_in (by omega) (by omega))) rfl ?_
          obtain ⟨v31, e32, b33⟩ : ∃ zz : Int, ev_w ((v24) + (v28)) = zz ∧ (-2147483648 ≤ zz ∧ zz ≤ 2147483647) := ⟨_, rfl, hw_bd _⟩
          refine w_t (np := 55) (l2 := [some (eR a0), some (eI (a1)), some (eI (a2)), some (eI (v5)), some (eI (i9)), some (eI (v18)), none, none]) (s2 := [eI (v31), eI (v18), eR v20]) rfl (b_iadd e32) rfl ?_
          refine j_as (np := 56) rfl rfl I13 b22 (by decide) (n := 512) rfl rfl (lo := -2147483648) (hi := 2147483647) (fun _ => rfl) (by omega) (by omega) (by omega) ?_
          intro m34 I35 W36
          have F37 : Fr l_3 0 0 g μ m34 := F14.v W36 b22 rfl rfl
          refine w_t (np := 57) (l2 := [some (eR a0), some (eI (a1)), some (eI (a2)), some (eI (v5)), some (eI (i9)), some (eI (v18)), none, none]) (s2 := [eR a0]) rfl (s_an rfl (pos_g I35 gA0 (by decide))) rfl ?_
          refine j_gr (np := 60) rfl rfl I35 gA0 (by decide) (n := 10) rfl rfl rfl ?_
          intro v38 e39 b40 z41
          have b40 : g v38 = 45 := Nat.eq_of_beq_eq_true b40
          refine w_t (np := 62) (l2 := [some (eR a0), some (eI (a1)), some (eI (a2)), some (eI (v5)), some (eI (i9)), some (eI (v18)), none, none]) (s2 := [eI (v18), eR v38]) rfl rfl rfl ?_
          refine w_t (np := 63) (l2 := [some (eR a0), some (eI (a1)), some (eI (a2)), some (eI (v5)), some (eI (i9)), some (eI (v18)), none, none]) (s2 := [eR a0, eI (v18), eR v38]) rfl (s_an rfl (pos_g I35 gA0 (by decide))) rfl ?_
          refine w_gf (np := 66) (v := eR v38) rfl rfl (I35.kd gA0 (by decide) (n := 10) rfl) (by rw [e39]; rfl) ?_
          refine w_t (np := 68) (l2 := [some (eR a0), some (eI (a1)), some (eI (a2)), some (eI (v5)), some (eI (i9)), some (eI (v18)), none, none]) (s2 := [eI (v18), eR v38, eI (v18), eR v38]) rfl rfl rfl ?_
          refine j_b3 (np := 69) rfl rfl I35 b40 (by decide) (n := 512) rfl rfl (lo := 0) (hi := 1) (fun _ => rfl) (by omega) (by omega) ?_
          intro v42 e43 b44
          refine b_ine (t1 := 76) (t2 := 72) rfl rfl rfl (ev_w_in (by omega) (by omega)) (fun g45 => ?_) (fun g45 => ?_)
          · have b46 : 1 ≤ v42 ∧ v42 ≤ 1 := by omega
            refine w_t (np := 77) (l2 := [some (eR a0), some (eI (a1)), some (eI (a2)), some (eI (v5)), some (eI (i9)), some (eI (v18)), none, none]) (s2 := [eI (1), eI (v18), eR v38]) rfl rfl rfl ?_
            refine w_go (t1 := 81) rfl rfl ?_
            refine j_sb3 (np := 82) rfl rfl I35 b40 (by decide) (n := 512) rfl rfl (lo := 0) (hi := 1) (fun _ => rfl) (by omega) (by omega) (by decide) (by decide) ?_
            intro m46 I47 W48
            have F49 : Fr l_3 0 0 g μ m46 := F37.v W48 b40 rfl rfl
            obtain ⟨v50, e51⟩ : ∃ zz : Int, zz = (i9) + (1) := ⟨_, rfl⟩
            have b52 : 2 ≤ v50 ∧ v50 ≤ 3 := by omega
            refine w_t (np := 85) (l2 := [some (eR a0), some (eI (a1)), some (eI (a2)), some (eI (v5)), some (eI (v50)), some (eI (v18)), none, none]) (s2 := []) rfl (b_iinc rfl (by rw [← e51]; exact ev_w_in (by omega) (by omega)) rfl) rfl ?_
            refine w_go (t1 := 12) rfl rfl ?_
            exact ih8 (3 - (v50)).toNat (by omega) m46 (v50) (some (eI (v18))) I47 F49 (by omega) (W48.addr (W36.addr k15 b22 gA0 (by decide)) b40 gA0 (by decide))    rfl
          · have b46 : 0 ≤ v42 ∧ v42 ≤ 0 := by omega
            refine w_t (np := 73) (l2 := [some (eR a0), some (eI (a1)), some (eI (a2)), some (eI (v5)), some (eI (i9)), some (eI (v18)), none, none]) (s2 := [eI (a2), eI (v18), eR v38]) rfl rfl rfl ?_
            refine b_ige (t1 := 80) (t2 := 76) rfl rfl rfl (ev_w_in (by omega) (by omega)) (fun g46 => ?_) (fun g46 => ?_)
            · have b47 : 0 ≤ a2 ∧ a2 ≤ 889 := by omega
              refine w_t (np := 81) (l2 := [some (eR a0), some (eI (a1)), some (eI (a2)), some (eI (v5)), some (eI (i9)), some (eI (v18)), none, none]) (s2 := [eI (0), eI (v18), eR v38]) rfl rfl rfl ?_
              refine j_sb3 (np := 82) rfl rfl I35 b40 (by decide) (n := 512) rfl rfl (lo := 0) (hi := 1) (fun _ => rfl) (by omega) (by omega) (by decide) (by decide) ?_
              intro m47 I48 W49
              have F50 : Fr l_3 0 0 g μ m47 := F37.v W49 b40 rfl rfl
              obtain ⟨v51, e52⟩ : ∃ zz : Int, zz = (i9) + (1) := ⟨_, rfl⟩
              have b53 : 2 ≤ v51 ∧ v51 ≤ 3 := by omega
              refine w_t (np := 85) (l2 := [some (eR a0), some (eI (a1)), some (eI (a2)), some (eI (v5)), some (eI (v51)), some (eI (v18)), none, none]) (s2 := []) rfl (b_iinc rfl (by rw [← e52]; exact ev_w_in (by omega) (by omega)) rfl) rfl ?_
              refine w_go (t1 := 12) rfl rfl ?_
              exact ih8 (3 - (v51)).toNat (by omega) m47 (v51) (some (eI (v18))) I48 F50 (by omega) (W49.addr (W36.addr k15 b22 gA0 (by decide)) b40 gA0 (by decide))    rfl
            · have b47 : -1 ≤ a2 ∧ a2 ≤ -1 := by omega
              refine w_t (np := 77) (l2 := [some (eR a0), some (eI (a1)), some (eI (a2)), some (eI (v5)), some (eI (i9)), some (eI (v18)), none, none]) (s2 := [eI (1), eI (v18), eR v38]) rfl rfl rfl ?_
              refine w_go (t1 := 81) rfl rfl ?_
              refine j_sb3 (np := 82) rfl rfl I35 b40 (by decide) (n := 512) rfl rfl (lo := 0) (hi := 1) (fun _ => rfl) (by omega) (by omega) (by decide) (by decide) ?_
              intro m47 I48 W49
              have F50 : Fr l_3 0 0 g μ m47 := F37.v W49 b40 rfl rfl
              obtain ⟨v51, e52⟩ : ∃ zz : Int, zz = (i9) + (1) := ⟨_, rfl⟩
              have b53 : 2 ≤ v51 ∧ v51 ≤ 3 := by omega
              refine w_t (np := 85) (l2 := [some (eR a0), some (eI (a1)), some (eI (a2)), some (eI (v5)), some (eI (v51)), some (eI (v18)), none, none]) (s2 := []) rfl (b_iinc rfl (by rw [← e52]; exact ev_w_in (by omega) (by omega)) rfl) rfl ?_
              refine w_go (t1 := 12) rfl rfl ?_
              exact ih8 (3 - (v51)).toNat (by omega) m47 (v51) (some (eI (v18))) I48 F50 (by omega) (W49.addr (W36.addr k15 b22 gA0 (by decide)) b40 gA0 (by decide))    rfl
        · have b28 : 0 ≤ i9 ∧ i9 ≤ 0 := by omega
          refine w_t (np := 44) (l2 := [some (eR a0), some (eI (a1)), some (eI (a2)), some (eI (v5)), some (eI (i9)), some (eI (v18)), none, none]) (s2 := [eI (1), eI (v24), eI (v18), eR v20]) rfl rfl rfl ?_
          refine w_t (np := 45) (l2 := [some (eR a0), some (eI (a1)), some (eI (a2)), some (eI (v5)), some (eI (i9)), some (eI (v18)), none, none]) (s2 := [eI (2), eI (1), eI (v24), eI (v18), eR v20]) rfl rfl rfl ?_
          refine w_t (np := 46) (l2 := [some (eR a0), some (eI (a1)), some (eI (a2)), some (eI (v5)), some (eI (i9)), some (eI (v18)), none, none]) (s2 := [eI (v5), eI (2), eI (1), eI (v24), eI (v18), eR v20]) rfl rfl rfl ?_
          obtain ⟨v28, e29⟩ : ∃ zz : Int, zz = (2) * (v5) := ⟨_, rfl⟩
          have b30 : 0 ≤ v28 ∧ v28 ≤ 2 := by omega
          refine w_t (np := 47) (l2 := [some (eR a0), some (eI (a1)), some (eI (a2)), some (eI (v5)), some (eI (i9)), some (eI (v18)), none, none]) (s2 := [eI (v28), eI (1), eI (v24), eI (v18), eR v20]) rfl (b_imul (by rw [← e29]; exact ev_w_in (by omega) (by omega))) rfl ?_
          obtain ⟨v31, e32⟩ : ∃ zz : Int, zz = (1) + (v28) := ⟨_, rfl⟩
          have b33 : 1 ≤ v31 ∧ v31 ≤ 3 := by omega
          refine w_t (np := 48) (l2 := [some (eR a0), some (eI (a1)), some (eI (a2)), some (eI (v5)), some (eI (i9)), some (eI (v18)), none, none]) (s2 := [eI (v31), eI (v24), eI (v18), eR v20]) rfl (b_iadd (by rw [← e32]; exact ev_w_in (by omega) (by omega))) rfl ?_
          refine w_go (t1 := 54) rfl rfl ?_
          obtain ⟨v34, e35, b36⟩ : ∃ zz : Int, ev_w ((v24) + (v31)) = zz ∧ (-2147483648 ≤ zz ∧ zz ≤ 2147483647) := ⟨_, rfl, hw_bd _⟩
          refine w_t (np := 55) (l2 := [some (eR a0), some (eI (a1)), some (eI (a2)), some (eI (v5)), some (eI (i9)), some (eI (v18)), none, none]) (s2 := [eI (v34), eI (v18), eR v20]) rfl (b_iadd e35) rfl ?_
          refine j_as (np := 56) rfl rfl I13 b22 (by decide) (n := 512) rfl rfl (lo := -2147483648) (hi := 2147483647) (fun _ => rfl) (by omega) (by omega) (by omega) ?_
          intro m37 I38 W39
          have F40 : Fr l_3 0 0 g μ m37 := F14.v W39 b22 rfl rfl
          refine w_t (np := 57) (l2 := [some (eR a0), some (eI (a1)), some (eI (a2)), some (eI (v5)), some (eI (i9)), some (eI (v18)), none, none]) (s2 := [eR a0]) rfl (s_an rfl (pos_g I38 gA0 (by decide))) rfl ?_
          refine j_gr (np := 60) rfl rfl I38 gA0 (by decide) (n := 10) rfl rfl rfl ?_
          intro v41 e42 b43 z44
          have b43 : g v41 = 45 := Nat.eq_of_beq_eq_true b43
          refine w_t (np := 62) (l2 := [some (eR a0), some (eI (a1)), some (eI (a2)), some (eI (v5)), some (eI (i9)), some (eI (v18)), none, none]) (s2 := [eI (v18), eR v41]) rfl rfl rfl ?_
          refine w_t (np := 63) (l2 := [some (eR a0), some (eI (a1)), some (eI (a2)), some (eI (v5)), some (eI (i9)), some (eI (v18)), none, none]) (s2 := [eR a0, eI (v18), eR v41]) rfl (s_an rfl (pos_g I38 gA0 (by decide))) rfl ?_
          refine w_gf (np := 66) (v := eR v41) rfl rfl (I38.kd gA0 (by decide) (n := 10) rfl) (by rw [e42]; rfl) ?_
          refine w_t (np := 68) (l2 := [some (eR a0), some (eI (a1)), some (eI (a2)), some (eI (v5)), some (eI (i9)), some (eI (v18)), none, none]) (s2 := [eI (v18), eR v41, eI (v18), eR v41]) rfl rfl rfl ?_
          refine j_b3 (np := 69) rfl rfl I38 b43 (by decide) (n := 512) rfl rfl (lo := 0) (hi := 1) (fun _ => rfl) (by omega) (by omega) ?_
          intro v45 e46 b47
          refine b_ine (t1 := 76) (t2 := 72) rfl rfl rfl (ev_w_in (by omega) (by omega)) (fun g48 => ?_) (fun g48 => ?_)
          · have b49 : 1 ≤ v45 ∧ v45 ≤ 1 := by omega
            refine w_t (np := 77) (l2 := [some (eR a0), some (eI (a1)), some (eI (a2)), some (eI (v5)), some (eI (i9)), some (eI (v18)), none, none]) (s2 := [eI (1), eI (v18), eR v41]) rfl rfl rfl ?_
            refine w_go (t1 := 81) rfl rfl ?_
            refine j_sb3 (np := 82) rfl rfl I38 b43 (by decide) (n := 512) rfl rfl (lo := 0) (hi := 1) (fun _ => rfl) (by omega) (by omega) (by decide) (by decide) ?_
            intro m49 I50 W51
            have F52 : Fr l_3 0 0 g μ m49 := F40.v W51 b43 rfl rfl
            obtain ⟨v53, e54⟩ : ∃ zz : Int, zz = (i9) + (1) := ⟨_, rfl⟩
            have b55 : 1 ≤ v53 ∧ v53 ≤ 1 := by omega
            refine w_t (np := 85) (l2 := [some (eR a0), some (eI (a1)), some (eI (a2)), some (eI (v5)), some (eI (v53)), some (eI (v18)), none, none]) (s2 := []) rfl (b_iinc rfl (by rw [← e54]; exact ev_w_in (by omega) (by omega)) rfl) rfl ?_
            refine w_go (t1 := 12) rfl rfl ?_
            exact ih8 (3 - (v53)).toNat (by omega) m49 (v53) (some (eI (v18))) I50 F52 (by omega) (W51.addr (W39.addr k15 b22 gA0 (by decide)) b43 gA0 (by decide))    rfl
          · have b49 : 0 ≤ v45 ∧ v45 ≤ 0 := by omega
            refine w_t (np := 73) (l2 := [some (eR a0), some (eI (a1)), some (eI (a2)), some (eI (v5)), some (eI (i9)), some (eI (v18)), none, none]) (s2 := [eI (a2), eI (v18), eR v41]) rfl rfl rfl ?_
            refine b_ige (t1 := 80) (t2 := 76) rfl rfl rfl (ev_w_in (by omega) (by omega)) (fun g49 => ?_) (fun g49 => ?_)
            · have b50 : 0 ≤ a2 ∧ a2 ≤ 889 := by omega
              refine w_t (np := 81) (l2 := [some (eR a0), some (eI (a1)), some (eI (a2)), some (eI (v5)), some (eI (i9)), some (eI (v18)), none, none]) (s2 := [eI (0), eI (v18), eR v41]) rfl rfl rfl ?_
              refine j_sb3 (np := 82) rfl rfl I38 b43 (by decide) (n := 512) rfl rfl (lo := 0) (hi := 1) (fun _ => rfl) (by omega) (by omega) (by decide) (by decide) ?_
              intro m50 I51 W52
              have F53 : Fr l_3 0 0 g μ m50 := F40.v W52 b43 rfl rfl
              obtain ⟨v54, e55⟩ : ∃ zz : Int, zz = (i9) + (1) := ⟨_, rfl⟩
              have b56 : 1 ≤ v54 ∧ v54 ≤ 1 := by omega
              refine w_t (np := 85) (l2 := [some (eR a0), some (eI (a1)), some (eI (a2)), some (eI (v5)), some (eI (v54)), some (eI (v18)), none, none]) (s2 := []) rfl (b_iinc rfl (by rw [← e55]; exact ev_w_in (by omega) (by omega)) rfl) rfl ?_
              refine w_go (t1 := 12) rfl rfl ?_
              exact ih8 (3 - (v54)).toNat (by omega) m50 (v54) (some (eI (v18))) I51 F53 (by omega) (W52.addr (W39.addr k15 b22 gA0 (by decide)) b43 gA0 (by decide))    rfl
            · have b50 : -1 ≤ a2 ∧ a2 ≤ -1 := by omega
              refine w_t (np := 77) (l2 := [some (eR a0), some (eI (a1)), some (eI (a2)), some (eI (v5)), some (eI (i9)), some (eI (v18)), none, none]) (s2 := [eI (1), eI (v18), eR v41]) rfl rfl rfl ?_
              refine w_go (t1 := 81) rfl rfl ?_
              refine j_sb3 (np := 82) rfl rfl I38 b43 (by decide) (n := 512) rfl rfl (lo := 0) (hi := 1) (fun _ => rfl) (by omega) (by omega) (by decide) (by decide) ?_
              intro m50 I51 W52
              have F53 : Fr l_3 0 0 g μ m50 := F40.v W52 b43 rfl rfl
              obtain ⟨v54, e55⟩ : ∃ zz : Int, zz = (i9) + (1) := ⟨_, rfl⟩
              have b56 : 1 ≤ v54 ∧ v54 ≤ 1 := by omega
              refine w_t (np := 85) (l2 := [some (eR a0), some (eI (a1)), some (eI (a2)), some (eI (v5)), some (eI (v54)), some (eI (v18)), none, none]) (s2 := []) rfl (b_iinc rfl (by rw [← e55]; exact ev_w_in (by omega) (by omega)) rfl) rfl ?_
              refine w_go (t1 := 12) rfl rfl ?_
              exact ih8 (3 - (v54)).toNat (by omega) m50 (v54) (some (eI (v18))) I51 F53 (by omega) (W52.addr (W39.addr k15 b22 gA0 (by decide)) b43 gA0 (by decide))    rfl
    exact hL12 _ μ (0) (none) hI F0 (by decide) e2    rfl
theorem s_22 {L : Nat} {ρ : Nat → Int} {rc : eQ} {d : Nat} {f : eFr} {F : List eFr} {μ : eM} {g : Nat → Nat} {a0 : Nat} {a1 : Int} {a2 : Int} (hI : SI g μ) (gA0 : g a0 = 2) (bA1 : -2147483648 ≤ a1 ∧ a1 ≤ 2147483647) (bA2 : -2147483648 ≤ a2 ∧ a2 ≤ 2147483647) (K : ∀ (v : Int), (-9223372036854775808 ≤ v ∧ v ≤ 9223372036854775807) → ex_q (dt_fg L ρ) rc (d + 2, (f.1, f.2.1, f.2.2.1, eJ v :: f.2.2.2), F, μ)) : ex_q (dt_fg L ρ) rc (d + 1, (22, 0, [some (eR a0), some (eI (a1)), some (eI (a2))], []), f :: F, μ) := by
  refine w_t (np := 1) (l2 := [some (eR a0), some (eI (a1)), some (eI (a2))]) (s2 := [eR a0]) rfl (s_an rfl (pos_g hI gA0 (by decide))) rfl ?_
  refine j_gr (np := 4) rfl rfl hI gA0 (by decide) (n := 8) rfl rfl rfl ?_
  intro v1 e2 b3 z4
  rcases hor2 b3 with b3 | b3
  · refine w_t (np := 5) (l2 := [some (eR a0), some (eI (a1)), some (eI (a2))]) (s2 := [eR a0, eR v1]) rfl (s_an rfl (pos_g hI gA0 (by decide))) rfl ?_
    refine w_t (np := 6) (l2 := [some (eR a0), some (eI (a1)), some (eI (a2))]) (s2 := [eI (a1), eR a0, eR v1]) rfl rfl rfl ?_
    refine w_t (np := 7) (l2 := [some (eR a0), some (eI (a1)), some (eI (a2))]) (s2 := [eI (a2), eI (a1), eR a0, eR v1]) rfl rfl rfl ?_
    refine w_cw (np := 10) (as := [eI (a1), eI (a2)]) (l2 := [some (eR a0), some (eI (a1)), some (eI (a2))]) (rest := [eR v1]) rfl rfl rfl (Nat.ble_eq.mp rfl) rfl rfl rfl (hI.kd gA0 (by decide) (n := 8) rfl) rfl ?_
    refine s_21 (a1 := a1) (a2 := a2) hI gA0 (by omega) (by omega) ?_
    intro v5 b6
    show ex_q (dt_fg L ρ) rc (d + 1, (22, 10, [some (eR a0), some (eI (a1)), some (eI (a2))], [eI (v5), eR v1]), f :: F, μ)
    refine w_cw (np := 13) (as := [eI (v5)]) (l2 := [some (eR v1), some (eI (v5))]) (rest := []) rfl rfl rfl (Nat.ble_eq.mp rfl) rfl rfl rfl (hI.kd b3 (by decide) (n := 3) rfl) rfl ?_
    refine s_44 (a1 := v5) hI b3 (by omega) ?_
    intro v7 b8
    show ex_q (dt_fg L ρ) rc (d + 1, (22, 13, [some (eR a0), some (eI (a1)), some (eI (a2))], [eJ (v7)]), f :: F, μ)
    exact b_rl rfl rfl (K (v7) (by omega))
  · refine w_t (np := 5) (l2 := [some (eR a0), some (eI (a1)), some (eI (a2))]) (s2 := [eR a0, eR v1]) rfl (s_an rfl (pos_g hI gA0 (by decide))) rfl ?_
    refine w_t (np := 6) (l2 := [some (eR a0), some (eI (a1)), some (eI (a2))]) (s2 := [eI (a1), eR a0, eR v1]) rfl rfl rfl ?_
    refine w_t (np := 7) (l2 := [some (eR a0), some (eI (a1)), some (eI (a2))]) (s2 := [eI (a2), eI (a1), eR a0, eR v1]) rfl rfl rfl ?_
    refine w_cw (np := 10) (as := [eI (a1), eI (a2)]) (l2 := [some (eR a0), some (eI (a1)), some (eI (a2))]) (rest := [eR v1]) rfl rfl rfl (Nat.ble_eq.mp rfl) rfl rfl rfl (hI.kd gA0 (by decide) (n := 8) rfl) rfl ?_
    refine s_21 (a1 := a1) (a2 := a2) hI gA0 (by omega) (by omega) ?_
    intro v5 b6
    show ex_q (dt_fg L ρ) rc (d + 1, (22, 10, [some (eR a0), some (eI (a1)), some (eI (a2))], [eI (v5), eR v1]), f :: F, μ)
    refine w_cw (np := 13) (as := [eI (v5)]) (l2 := [some (eR v1), some (eI (v5))]) (rest := []) rfl rfl rfl (Nat.ble_eq.mp rfl) rfl rfl rfl (hI.kd b3 (by decide) (n := 3) rfl) rfl ?_
    refine s_44_2 (a1 := v5) hI b3 (by omega) ?_
    intro v7 b8
    show ex_q (dt_fg L ρ) rc (d + 1, (22, 13, [some (eR a0), some (eI (a1)), some (eI (a2))], [eJ (v7)]), f :: F, μ)
    exact b_rl rfl rfl (K (v7) (by omega))
theorem s_22_2 {L : Nat} {ρ : Nat → Int} {rc : eQ} {d : Nat} {f : eFr} {F : List eFr} {μ : eM} {g : Nat → Nat} {a0 : Nat} {a1 : Int} {a2 : Int} (hI : SI g μ) (gA0 : g a0 = 7) (bA1 : -2147483648 ≤ a1 ∧ a1 ≤ 2147483647) (bA2 : -2147483648 ≤ a2 ∧ a2 ≤ 2147483647) (K : ∀ (v : Int), (-9223372036854775808 ≤ v ∧ v ≤ 9223372036854775807) → ex_q (dt_fg L ρ) rc (d + 2, (f.1, f.2.1, f.2.2.1, eJ v :: f.2.2.2), F, μ)) : ex_q (dt_fg L ρ) rc (d + 1, (22, 0, [some (eR a0), some (eI (a1)), some (eI (a2))], []), f :: F, μ) := by
  refine w_t (np := 1) (l2 := [some (eR a0), some (eI (a1)), some (eI (a2))]) (s2 := [eR a0]) rfl (s_an rfl (pos_g hI gA0 (by decide))) rfl ?_
  refine j_gr (np := 4) rfl rfl hI gA0 (by decide) (n := 8) rfl rfl rfl ?_
  intro v1 e2 b3 z4
  rcases hor2 b3 with b3 | b3
  · refine w_t (np := 5) (l2 := [some (eR a0), some (eI (a1)), some (eI (a2))]) (s2 := [eR a0, eR v1]) rfl (s_an rfl (pos_g hI gA0 (by decide))) rfl ?_
    refine w_t (np := 6) (l2 := [some (eR a0), some (eI (a1)), some (eI (a2))]) (s2 := [eI (a1), eR a0, eR v1]) rfl rfl rfl ?_
    refine w_t (np := 7) (l2 := [some (eR a0), some (eI (a1)), some (eI (a2))]) (s2 := [eI (a2), eI (a1), eR a0, eR v1]) rfl rfl rfl ?_
    refine w_cw (np := 10) (as := [eI (a1), eI (a2)]) (l2 := [some (eR a0), some (eI (a1)), some (eI (a2))]) (rest := [eR v1]) rfl rfl rfl (Nat.ble_eq.mp rfl) rfl rfl rfl (hI.kd gA0 (by decide) (n := 8) rfl) rfl ?_
    refine s_21_2 (a1 := a1) (a2 := a2) hI gA0 (by omega) (by omega) ?_
    intro v5 b6
    show ex_q (dt_fg L ρ) rc (d + 1, (22, 10, [some (eR a0), some (eI (a1)), some (eI (a2))], [eI (v5), eR v1]), f :: F, μ)
    refine w_cw (np := 13) (as := [eI (v5)]) (l2 := [some (eR v1), some (eI (v5))]) (rest := []) rfl rfl rfl (Nat.ble_eq.mp rfl) rfl rfl rfl (hI.kd b3 (by decide) (n := 3) rfl) rfl ?_
    refine s_44 (a1 := v5) hI b3 (by omega) ?_
    intro v7 b8
    show ex_q (dt_fg L ρ) rc (d + 1, (22, 13, [some (eR a0), some (eI (a1)), some (eI (a2))], [eJ (v7)]), f :: F, μ)
    exact b_rl rfl rfl (K (v7) (by omega))
  · refine w_t (np := 5) (l2 := [some (eR a0), some (eI (a1)), some (eI (a2))]) (s2 := [eR a0, eR v1]) rfl (s_an rfl (pos_g hI gA0 (by decide))) rfl ?_
    refine w_t (np := 6) (l2 := [some (eR a0), some (eI (a1)), some (eI (a2))]) (s2 := [eI (a1), eR a0, eR v1]) rfl rfl rfl ?_
    refine w_t (np := 7) (l2 := [some (eR a0), some (eI (a1)), some (eI (a2))]) (s2 := [eI (a2), eI (a1), eR a0, eR v1]) rfl rfl rfl ?_
    refine w_cw (np := 10) (as := [eI (a1), eI (a2)]) (l2 := [some (eR a0), some (eI (a1)), some (eI (a2))]) (rest := [eR v1]) rfl rfl rfl (Nat.ble_eq.mp rfl) rfl rfl rfl (hI.kd gA0 (by decide) (n := 8) rfl) rfl ?_
    refine s_21_2 (a1 := a1) (a2 := a2) hI gA0 (by omega) (by omega) ?_
    intro v5 b6
    show ex_q (dt_fg L ρ) rc (d + 1, (22, 10, [some (eR a0), some (eI (a1)), some (eI (a2))], [eI (v5), eR v1]), f :: F, μ)
    refine w_cw (np := 13) (as := [eI (v5)]) (l2 := [some (eR v1), some (eI (v5))]) (rest := []) rfl rfl rfl (Nat.ble_eq.mp rfl) rfl rfl rfl (hI.kd b3 (by decide) (n := 3) rfl) rfl ?_
    refine s_44_2 (a1 := v5) hI b3 (by omega) ?_
    intro v7 b8
    show ex_q (dt_fg L ρ) rc (d + 1, (22, 13, [some (eR a0), some (eI (a1)), some (eI (a2))], [eJ (v7)]), f :: F, μ)
    exact b_rl rfl rfl (K (v7) (by omega))
