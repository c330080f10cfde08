/-! methods, walked -/
def l_174 : List Nat := [268, 270, 265, 8971, 8972, 8973, 8968, 8969, 8970, 9216, 9472, 9728, 9984, 10240]
theorem s_174 {L : Nat} {ρ : Nat → Int} {rc : eQ} {d : Nat} {f : eFr} {F : List eFr} {μ : eM} {g : Nat → Nat} {a0 : Nat} {a1 : Int} {a2 : Int} (hI : SI g μ) (gA0 : g a0 = 1) (bA1 : -2147483648 ≤ a1 ∧ a1 ≤ 2147483647) (bA2 : -2147483648 ≤ a2 ∧ a2 ≤ 2147483647) (K : ∀ (g2 : Nat → Nat) (μ2 : eM) (v : Int), GE g g2 → SI g2 μ2 → Fr l_174 7 8159 g μ μ2 → (-2147483648 ≤ v ∧ v ≤ 2147483647) → ex_q (dt_fg L ρ) rc (d + 7, (f.1, f.2.1, f.2.2.1, eI v :: f.2.2.2), F, μ2)) : ex_q (dt_fg L ρ) rc (d + 6, (174, 0, [some (eR a0), some (eI (a1)), some (eI (a2)), none], []), f :: F, μ) := by
  have F0 : Fr l_174 0 0 g μ μ := Fr.r
  refine w_t (np := 1) (l2 := [some (eR a0), some (eI (a1)), some (eI (a2)), none]) (s2 := [eR a0]) rfl (s_an rfl (pos_g hI gA0 (by decide))) rfl ?_
  refine j_gr (np := 4) rfl rfl hI gA0 (by decide) (n := 14) rfl rfl rfl ?_
  intro v1 e2 b3 z4
  rcases hor2 b3 with b3 | b3
  · refine w_t (np := 5) (l2 := [some (eR a0), some (eI (a1)), some (eI (a2)), none]) (s2 := [eI (a1), eR v1]) rfl rfl rfl ?_
    refine w_cw (np := 8) (as := [eI (a1)]) (l2 := [some (eR v1), some (eI (a1))]) (rest := []) rfl rfl rfl (Nat.ble_eq.mp rfl) rfl rfl rfl (hI.kd b3 (by decide) (n := 8) rfl) rfl ?_
    refine w_t (np := 1) (l2 := [some (eR v1), some (eI (a1))]) (s2 := [eI (a1)]) rfl rfl rfl ?_
    refine b_ilt (t1 := 12) (t2 := 4) rfl rfl rfl (ev_w_in (by omega) (by omega)) (fun g5 => ?_) (fun g5 => ?_)
    · have b6 : -2147483648 ≤ a1 ∧ a1 ≤ -1 := by omega
      refine w_t (np := 13) (l2 := [some (eR v1), some (eI (a1))]) (s2 := [eI (1)]) rfl rfl rfl ?_
      refine w_go (t1 := 17) rfl rfl ?_
      refine b_rz rfl rfl (Or.inr rfl) ?_
      show ex_q (dt_fg L ρ) rc (d + 6, (174, 8, [some (eR a0), some (eI (a1)), some (eI (a2)), none], [eI (1)]), f :: F, μ)
      refine b_ine (t1 := 22) (t2 := 11) rfl rfl rfl rfl (fun g6 => ?_) (fun g6 => absurd g6 (by decide))
      refine w_t (np := 23) (l2 := [some (eR a0), some (eI (a1)), some (eI (a2)), none]) (s2 := [eR a0]) rfl (s_an rfl (pos_g hI gA0 (by decide))) rfl ?_
      refine w_t (np := 24) (l2 := [some (eR a0), some (eI (a1)), some (eI (a2)), none]) (s2 := [eI (2), eR a0]) rfl rfl rfl ?_
      refine w_cw (np := 27) (as := [eI (2)]) (l2 := [some (eR a0), some (eI (2))]) (rest := []) rfl rfl rfl (Nat.ble_eq.mp rfl) rfl rfl rfl (hI.kd gA0 (by decide) (n := 14) rfl) rfl ?_
      refine w_t (np := 1) (l2 := [some (eR a0), some (eI (2))]) (s2 := [eR a0]) rfl (s_an rfl (pos_g hI gA0 (by decide))) rfl ?_
      refine w_t (np := 2) (l2 := [some (eR a0), some (eI (2))]) (s2 := [eI (2), eR a0]) rfl rfl rfl ?_
      refine j_pf (np := 5) (w := 2) rfl rfl hI gA0 (by decide) (n := 14) rfl rfl (hO_i (lo := -2147483648) (hi := 2147483647) rfl (by decide)) ?_
      intro m7 I8 W9
      have F10 : Fr l_174 0 0 g μ m7 := F0.w W9 gA0 rfl
      refine w_t (np := 6) (l2 := [some (eR a0), some (eI (2))]) (s2 := [eI (-1)]) rfl rfl rfl ?_
      refine b_ri rfl rfl ?_
      show ex_q (dt_fg L ρ) rc (d + 6, (174, 27, [some (eR a0), some (eI (a1)), some (eI (a2)), none], [eI (-1)]), f :: F, m7)
      exact b_ri rfl rfl (K g m7 (-1) I8.re I8 (F10.up rfl rfl) (by decide))
    · have b6 : 0 ≤ a1 ∧ a1 ≤ 2147483647 := by omega
      refine w_t (np := 5) (l2 := [some (eR v1), some (eI (a1))]) (s2 := [eI (a1)]) rfl rfl rfl ?_
      refine w_t (np := 6) (l2 := [some (eR v1), some (eI (a1))]) (s2 := [eR v1, eI (a1)]) rfl (s_an rfl (pos_g hI b3 (by decide))) rfl ?_
      refine j_gi (np := 9) rfl rfl rfl hI b3 (by decide) (n := 8) rfl rfl (lo := 0) (hi := 50) rfl ?_
      intro v6 e7 b8
      refine b_clt (t1 := 16) (t2 := 12) rfl rfl rfl (ev_w_in (by omega) (by omega)) (ev_w_in (by omega) (by omega)) (fun g9 => ?_) (fun g9 => ?_)
      · have b10 : 0 ≤ a1 ∧ a1 ≤ 49 := by omega
        have b11 : 1 ≤ v6 ∧ v6 ≤ 50 := by omega
        refine w_t (np := 17) (l2 := [some (eR v1), some (eI (a1))]) (s2 := [eI (0)]) rfl rfl rfl ?_
        refine b_rz rfl rfl (Or.inl rfl) ?_
        show ex_q (dt_fg L ρ) rc (d + 6, (174, 8, [some (eR a0), some (eI (a1)), some (eI (a2)), none], [eI (0)]), f :: F, μ)
        refine b_ine (t1 := 22) (t2 := 11) rfl rfl rfl rfl (fun g10 => absurd g10 (by decide)) (fun g10 => ?_)
        refine w_t (np := 12) (l2 := [some (eR a0), some (eI (a1)), some (eI (a2)), none]) (s2 := [eR a0]) rfl (s_an rfl (pos_g hI gA0 (by decide))) rfl ?_
        refine w_gf (np := 15) (v := eR v1) rfl rfl (hI.kd gA0 (by decide) (n := 14) rfl) (by rw [e2]; rfl) ?_
        refine w_t (np := 16) (l2 := [some (eR a0), some (eI (a1)), some (eI (a2)), none]) (s2 := [eI (a2), eR v1]) rfl rfl rfl ?_
        refine w_cw (np := 19) (as := [eI (a2)]) (l2 := [some (eR v1), some (eI (a2))]) (rest := []) rfl rfl rfl (Nat.ble_eq.mp rfl) rfl rfl rfl (hI.kd b3 (by decide) (n := 8) rfl) rfl ?_
        refine w_t (np := 1) (l2 := [some (eR v1), some (eI (a2))]) (s2 := [eI (a2)]) rfl rfl rfl ?_
        refine b_ilt (t1 := 12) (t2 := 4) rfl rfl rfl (ev_w_in (by omega) (by omega)) (fun g11 => ?_) (fun g11 => ?_)
        · have b12 : -2147483648 ≤ a2 ∧ a2 ≤ -1 := by omega
          refine w_t (np := 13) (l2 := [some (eR v1), some (eI (a2))]) (s2 := [eI (1)]) rfl rfl rfl ?_
          refine w_go (t1 := 17) rfl rfl ?_
          refine b_rz rfl rfl (Or.inr rfl) ?_
          show ex_q (dt_fg L ρ) rc (d + 6, (174, 19, [some (eR a0), some (eI (a1)), some (eI (a2)), none], [eI (1)]), f :: F, μ)
          refine b_ieq (t1 := 28) (t2 := 22) rfl rfl rfl rfl (fun g12 => absurd g12 (by decide)) (fun g12 => ?_)
          refine w_t (np := 23) (l2 := [some (eR a0), some (eI (a1)), some (eI (a2)), none]) (s2 := [eR a0]) rfl (s_an rfl (pos_g hI gA0 (by decide))) rfl ?_
          refine w_t (np := 24) (l2 := [some (eR a0), some (eI (a1)), some (eI (a2)), none]) (s2 := [eI (2), eR a0]) rfl rfl rfl ?_
          refine w_cw (np := 27) (as := [eI (2)]) (l2 := [some (eR a0), some (eI (2))]) (rest := []) rfl rfl rfl (Nat.ble_eq.mp rfl) rfl rfl rfl (hI.kd gA0 (by decide) (n := 14) rfl) rfl ?_
          refine w_t (np := 1) (l2 := [some (eR a0), some (eI (2))]) (s2 := [eR a0]) rfl (s_an rfl (pos_g hI gA0 (by decide))) rfl ?_
          refine w_t (np := 2) (l2 := [some (eR a0), some (eI (2))]) (s2 := [eI (2), eR a0]) rfl rfl rfl ?_
          refine j_pf (np := 5) (w := 2) rfl rfl hI gA0 (by decide) (n := 14) rfl rfl (hO_i (lo := -2147483648) (hi := 2147483647) rfl (by decide)) ?_
          intro m13 I14 W15
          have F16 : Fr l_174 0 0 g μ m13 := F0.w W15 gA0 rfl
          refine w_t (np := 6) (l2 := [some (eR a0), some (eI (2))]) (s2 := [eI (-1)]) rfl rfl rfl ?_
          refine b_ri rfl rfl ?_
          show ex_q (dt_fg L ρ) rc (d + 6, (174, 27, [some (eR a0), some (eI (a1)), some (eI (a2)), none], [eI (-1)]), f :: F, m13)
          exact b_ri rfl rfl (K g m13 (-1) I14.re I14 (F16.up rfl rfl) (by decide))
        · have b12 : 0 ≤ a2 ∧ a2 ≤ 2147483647 := by omega
          refine w_t (np := 5) (l2 := [some (eR v1), some (eI (a2))]) (s2 := [eI (a2)]) rfl rfl rfl ?_
          refine w_t (np := 6) (l2 := [some (eR v1), some (eI (a2))]) (s2 := [eR v1, eI (a2)]) rfl (s_an rfl (pos_g hI b3 (by decide))) rfl ?_
          refine w_gf (np := 9) (v := eI (v6)) rfl rfl (hI.kd b3 (by decide) (n := 8) rfl) (by rw [e7]; rfl) ?_
          refine b_clt (t1 := 16) (t2 := 12) rfl rfl rfl (ev_w_in (by omega) (by omega)) (ev_w_in (by omega) (by omega)) (fun g12 => ?_) (fun g12 => ?_)
          · have b13 : 0 ≤ a2 ∧ a2 ≤ 49 := by omega
            refine w_t (np := 17) (l2 := [some (eR v1), some (eI (a2))]) (s2 := [eI (0)]) rfl rfl rfl ?_
            refine b_rz rfl rfl (Or.inl rfl) ?_
            show ex_q (dt_fg L ρ) rc (d + 6, (174, 19, [some (eR a0), some (eI (a1)), some (eI (a2)), none], [eI (0)]), f :: F, μ)
            refine b_ieq (t1 := 28) (t2 := 22) rfl rfl rfl rfl (fun g13 => ?_) (fun g13 => absurd g13 (by decide))
            refine w_t (np := 29) (l2 := [some (eR a0), some (eI (a1)), some (eI (a2)), none]) (s2 := [eR a0]) rfl (s_an rfl (pos_g hI gA0 (by decide))) rfl ?_
            refine w_cw (np := 32) (as := []) (l2 := [some (eR a0)]) (rest := []) rfl rfl rfl (Nat.ble_eq.mp rfl) rfl rfl rfl (hI.kd gA0 (by decide) (n := 14) rfl) rfl ?_
            refine s_209 hI gA0 ?_
            intro g14 m15 v19 E16 I17 F18 b20
            have F21 : Fr l_174 7 8159 g μ m15 := F0.t F18 rfl
            show ex_q (dt_fg L ρ) rc (d + 6, (174, 32, [some (eR a0), some (eI (a1)), some (eI (a2)), none], [eR v19]), f :: F, m15)
            refine w_t (np := 33) (l2 := [some (eR a0), some (eI (a1)), some (eI (a2)), some (eR v19)]) (s2 := []) rfl (s_sn (Nat.ble_eq.mp rfl) (pos_g I17 b20 (by decide)) rfl) rfl ?_
            refine w_t (np := 34) (l2 := [some (eR a0), some (eI (a1)), some (eI (a2)), some (eR v19)]) (s2 := [eR v19]) rfl (s_an rfl (pos_g I17 b20 (by decide))) rfl ?_
            refine w_t (np := 35) (l2 := [some (eR a0), some (eI (a1)), some (eI (a2)), some (eR v19)]) (s2 := [eI (a1), eR v19]) rfl rfl rfl ?_
            refine w_t (np := 38) (l2 := [some (eR a0), some (eI (a1)), some (eI (a2)), some (eR v19)]) (s2 := [eI (890), eI (a1), eR v19]) rfl rfl rfl ?_
            refine w_cw (np := 41) (as := [eI (a1), eI (890)]) (l2 := [some (eR v19), some (eI (a1)), some (eI (890)), none, none, none, none, none]) (rest := []) rfl rfl rfl (Nat.ble_eq.mp rfl) rfl rfl rfl (I17.kd b20 (by decide) (n := 15) rfl) rfl ?_
            refine s_119 (a1 := a1) (a2 := 890) I17 b20 (by omega) (by decide) ?_
            intro m22 v25 I23 F24 b26
            have F27 : Fr l_174 7 8159 g μ m22 := F21.t3 E16 F24 rfl
            show ex_q (dt_fg L ρ) rc (d + 6, (174, 41, [some (eR a0), some (eI (a1)), some (eI (a2)), some (eR v19)], [eI (v25)]), f :: F, m22)
            refine w_t (np := 42) (l2 := [some (eR a0), some (eI (a1)), some (eI (a2)), some (eR v19)]) (s2 := []) rfl rfl rfl ?_
            refine w_t (np := 43) (l2 := [some (eR a0), some (eI (a1)), some (eI (a2)), some (eR v19)]) (s2 := [eR a0]) rfl (s_an rfl (pos_g I23 (E16.g gA0 (by decide)) (by decide))) rfl ?_
            refine w_t (np := 44) (l2 := [some (eR a0), some (eI (a1)), some (eI (a2)), some (eR v19)]) (s2 := [eR v19, eR a0]) rfl (s_an rfl (pos_g I23 b20 (by decide))) rfl ?_
            refine w_t (np := 45) (l2 := [some (eR a0), some (eI (a1)), some (eI (a2)), some (eR v19)]) (s2 := [eI (a2), eR v19, eR a0]) rfl rfl rfl ?_
            refine w_cw (np := 48) (as := [eI (a2)]) (l2 := [some (eR v19), some (eI (a2))]) (rest := [eR a0]) rfl rfl rfl (Nat.ble_eq.mp rfl) rfl rfl rfl (I23.kd b20 (by decide) (n := 15) rfl) rfl ?_
            refine s_118 (a1 := a2) I23 b20 (by omega) ?_
            intro v28 b29
            show ex_q (dt_fg L ρ) rc (d + 6, (174, 48, [some (eR a0), some (eI (a1)), some (eI (a2)), some (eR v19)], [eI (v28), eR a0]), f :: F, m22)
            refine w_cw (np := 51) (as := [eI (v28)]) (l2 := [some (eR a0), some (eI (v28))]) (rest := []) rfl rfl rfl (Nat.ble_eq.mp rfl) rfl rfl rfl (I23.kd (E16.g gA0 (by decide)) (by decide) (n := 14) rfl) rfl ?_
            refine w_t (np := 1) (l2 := [some (eR a0), some (eI (v28))]) (s2 := [eR a0]) rfl (s_an rfl (pos_g I23 (E16.g gA0 (by decide)) (by decide))) rfl ?_
            refine w_t (np := 2) (l2 := [some (eR a0), some (eI (v28))]) (s2 := [eI (0), eR a0]) rfl rfl rfl ?_
            refine j_pf (np := 5) (w := 0) rfl rfl I23 (E16.g gA0 (by decide)) (by decide) (n := 14) rfl rfl (hO_i (lo := -2147483648) (hi := 2147483647) rfl (by decide)) ?_
            intro m30 I31 W32
            have F33 : Fr l_174 7 8159 g μ m30 := F27.w3 E16 W32 (E16.g gA0 (by decide)) rfl
            refine w_t (np := 6) (l2 := [some (eR a0), some (eI (v28))]) (s2 := [eI (v28)]) rfl rfl rfl ?_
            refine b_ri rfl rfl ?_
            show ex_q (dt_fg L ρ) rc (d + 6, (174, 51, [some (eR a0), some (eI (a1)), some (eI (a2)), some (eR v19)], [eI (v28)]), f :: F, m30)
            exact b_ri rfl rfl (K g14 m30 (v28) E16 I31 F33 (by omega))
          · have b13 : 1 ≤ a2 ∧ a2 ≤ 2147483647 := by omega
            refine w_t (np := 13) (l2 := [some (eR v1), some (eI (a2))]) (s2 := [eI (1)]) rfl rfl rfl ?_
            refine w_go (t1 := 17) rfl rfl ?_
            refine b_rz rfl rfl (Or.inr rfl) ?_
            show ex_q (dt_fg L ρ) rc (d + 6, (174, 19, [some (eR a0), some (eI (a1)), some (eI (a2)), none], [eI (1)]), f :: F, μ)
            refine b_ieq (t1 := 28) (t2 := 22) rfl rfl rfl rfl (fun g13 => absurd g13 (by decide)) (fun g13 => ?_)
            refine w_t (np := 23) (l2 := [some (eR a0), some (eI (a1)), some (eI (a2)), none]) (s2 := [eR a0]) rfl (s_an rfl (pos_g hI gA0 (by decide))) rfl ?_
            refine w_t (np := 24) (l2 := [some (eR a0), some (eI (a1)), some (eI (a2)), none]) (s2 := [eI (2), eR a0]) rfl rfl rfl ?_
            refine w_cw (np := 27) (as := [eI (2)]) (l2 := [some (eR a0), some (eI (2))]) (rest := []) rfl rfl rfl (Nat.ble_eq.mp rfl) rfl rfl rfl (hI.kd gA0 (by decide) (n := 14) rfl) rfl ?_
            refine w_t (np := 1) (l2 := [some (eR a0), some (eI (2))]) (s2 := [eR a0]) rfl (s_an rfl (pos_g hI gA0 (by decide))) rfl ?_
            refine w_t (np := 2) (l2 := [some (eR a0), some (eI (2))]) (s2 := [eI (2), eR a0]) rfl rfl rfl ?_
            refine j_pf (np := 5) (w := 2) rfl rfl hI gA0 (by decide) (n := 14) rfl rfl (hO_i (lo := -2147483648) (hi := 2147483647) rfl (by decide)) ?_
            intro m14 I15 W16
            have F17 : Fr l_174 0 0 g μ m14 := F0.w W16 gA0 rfl
            refine w_t (np := 6) (l2 := [some (eR a0), some (eI (2))]) (s2 := [eI (-1)]) rfl rfl rfl ?_
            refine b_ri rfl rfl ?_
            show ex_q (dt_fg L ρ) rc (d + 6, (174, 27, [some (eR a0), some (eI (a1)), some (eI (a2)), none], [eI (-1)]), f :: F, m14)
            exact b_ri rfl rfl (K g m14 (-1) I15.re I15 (F17.up rfl rfl) (by decide))
      · refine w_t (np := 13) (l2 := [some (eR v1), some (eI (a1))]) (s2 := [eI (1)]) rfl rfl rfl ?_
        refine w_go (t1 := 17) rfl rfl ?_
        refine b_rz rfl rfl (Or.inr rfl) ?_
        show ex_q (dt_fg L ρ) rc (d + 6, (174, 8, [some (eR a0), some (eI (a1)), some (eI (a2)), none], [eI (1)]), f :: F, μ)
        refine b_ine (t1 := 22) (t2 := 11) rfl rfl rfl rfl (fun g10 => ?_) (fun g10 => absurd g10 (by decide))
        refine w_t (np := 23) (l2 := [some (eR a0), some (eI (a1)), some (eI (a2)), none]) (s2 := [eR a0]) rfl (s_an rfl (pos_g hI gA0 (by decide))) rfl ?_
        refine w_t (np := 24) (l2 := [some (eR a0), some (eI (a1)), some (eI (a2)), none]) (s2 := [eI (2), eR a0]) rfl rfl rfl ?_
        refine w_cw (np := 27) (as := [eI (2)]) (l2 := [some (eR a0), some (eI (2))]) (rest := []) rfl rfl rfl (Nat.ble_eq.mp rfl) rfl rfl rfl (hI.kd gA0 (by decide) (n := 14) rfl) rfl ?_
        refine w_t (np := 1) (l2 := [some (eR a0), some (eI (2))]) (s2 := [eR a0]) rfl (s_an rfl (pos_g hI gA0 (by decide))) rfl ?_
        refine w_t (np := 2) (l2 := [some (eR a0), some (eI (2))]) (s2 := [eI (2), eR a0]) rfl rfl rfl ?_
        refine j_pf (np := 5) (w := 2) rfl rfl hI gA0 (by decide) (n := 14) rfl rfl (hO_i (lo := -2147483648) (hi := 2147483647) rfl (by decide)) ?_
        intro m11 I12 W13
        have F14 : Fr l_174 0 0 g μ m11 := F0.w W13 gA0 rfl
        refine w_t (np := 6) (l2 := [some (eR a0), some (eI (2))]) (s2 := [eI (-1)]) rfl rfl rfl ?_
        refine b_ri rfl rfl ?_
        show ex_q (dt_fg L ρ) rc (d + 6, (174, 27, [some (eR a0), some (eI (a1)), some (eI (a2)), none], [eI (-1)]), f :: F, m11)
        exact b_ri rfl rfl (K g m11 (-1) I12.re I12 (F14.up rfl rfl) (by decide))
  · refine w_t (np := 5) (l2 := [some (eR a0), some (eI (a1)), some (eI (a2)), none]) (s2 := [eI (a1), eR v1]) rfl rfl rfl ?_
    refine w_cw (np := 8) (as := [eI (a1)]) (l2 := [some (eR v1), some (eI (a1))]) (rest := []) rfl rfl rfl (Nat.ble_eq.mp rfl) rfl rfl rfl (hI.kd b3 (by decide) (n := 8) rfl) rfl ?_
    refine w_t (np := 1) (l2 := [some (eR v1), some (eI (a1))]) (s2 := [eI (a1)]) rfl rfl rfl ?_
    refine b_ilt (t1 := 12) (t2 := 4) rfl rfl rfl (ev_w_in (by omega) (by omega)) (fun g5 => ?_) (fun g5 => ?_)
    · have b6 : -2147483648 ≤ a1 ∧ a1 ≤ -1 := by omega
      refine w_t (np := 13) (l2 := [some (eR v1), some (eI (a1))]) (s2 := [eI (1)]) rfl rfl rfl ?_
      refine w_go (t1 := 17) rfl rfl ?_
      refine b_rz rfl rfl (Or.inr rfl) ?_
      show ex_q (dt_fg L ρ) rc (d + 6, (174, 8, [some (eR a0), some (eI (a1)), some (eI (a2)), none], [eI (1)]), f :: F, μ)
      refine b_ine (t1 := 22) (t2 := 11) rfl rfl rfl rfl (fun g6 => ?_) (fun g6 => absurd g6 (by decide))
      refine w_t (np := 23) (l2 := [some (eR a0), some (eI (a1)), some (eI (a2)), none]) (s2 := [eR a0]) rfl (s_an rfl (pos_g hI gA0 (by decide))) rfl ?_
      refine w_t (np := 24) (l2 := [some (eR a0), some (eI (a1)), some (eI (a2)), none]) (s2 := [eI (2), eR a0]) rfl rfl rfl ?_
      refine w_cw (np := 27) (as := [eI (2)]) (l2 := [some (eR a0), some (eI (2))]) (rest := []) rfl rfl rfl (Nat.ble_eq.mp rfl) rfl rfl rfl (hI.kd gA0 (by decide) (n := 14) rfl) rfl ?_
      refine w_t (np := 1) (l2 := [some (eR a0), some (eI (2))]) (s2 := [eR a0]) rfl (s_an rfl (pos_g hI gA0 (by decide))) rfl ?_
      refine w_t (np := 2) (l2 := [some (eR a0), some (eI (2))]) (s2 := [eI (2), eR a0]) rfl rfl rfl ?_
      refine j_pf (np := 5) (w := 2) rfl rfl hI gA0 (by decide) (n := 14) rfl rfl (hO_i (lo := -2147483648) (hi := 2147483647) rfl (by decide)) ?_
      intro m7 I8 W9
      have F10 : Fr l_174 0 0 g μ m7 := F0.w W9 gA0 rfl
      refine w_t (np := 6) (l2 := [some (eR a0), some (eI (2))]) (s2 := [eI (-1)]) rfl rfl rfl ?_
      refine b_ri rfl rfl ?_
      show ex_q (dt_fg L ρ) rc (d + 6, (174, 27, [some (eR a0), some (eI (a1)), some (eI (a2)), none], [eI (-1)]), f :: F, m7)
      exact b_ri rfl rfl (K g m7 (-1) I8.re I8 (F10.up rfl rfl) (by decide))
    · have b6 : 0 ≤ a1 ∧ a1 ≤ 2147483647 := by omega
      refine w_t (np := 5) (l2 := [some (eR v1), some (eI (a1))]) (s2 := [eI (a1)]) rfl rfl rfl ?_
      refine w_t (np := 6) (l2 := [some (eR v1), some (eI (a1))]) (s2 := [eR v1, eI (a1)]) rfl (s_an rfl (pos_g hI b3 (by decide))) rfl ?_
      refine j_gi (np := 9) rfl rfl rfl hI b3 (by decide) (n := 8) rfl rfl (lo := 0) (hi := 890) rfl ?_
      intro v6 e7 b8
      refine b_clt (t1 := 16) (t2 := 12) rfl rfl rfl (ev_w_in (by omega) (by omega)) (ev_w_in (by omega) (by omega)) (fun g9 => ?_) (fun g9 => ?_)
      · have b10 : 0 ≤ a1 ∧ a1 ≤ 889 := by omega
        have b11 : 1 ≤ v6 ∧ v6 ≤ 890 := by omega
        refine w_t (np := 17) (l2 := [some (eR v1), some (eI (a1))]) (s2 := [eI (0)]) rfl rfl rfl ?_
        refine b_rz rfl rfl (Or.inl rfl) ?_
        show ex_q (dt_fg L ρ) rc (d + 6, (174, 8, [some (eR a0), some (eI (a1)), some (eI (a2)), none], [eI (0)]), f :: F, μ)
        refine b_ine (t1 := 22) (t2 := 11) rfl rfl rfl rfl (fun g10 => absurd g10 (by decide)) (fun g10 => ?_)
        refine w_t (np := 12) (l2 := [some (eR a0), some (eI (a1)), some (eI (a2)), none]) (s2 := [eR a0]) rfl (s_an rfl (pos_g hI gA0 (by decide))) rfl ?_
        refine w_gf (np := 15) (v := eR v1) rfl rfl (hI.kd gA0 (by decide) (n := 14) rfl) (by rw [e2]; rfl) ?_
        refine w_t (np := 16) (l2 := [some (eR a0), some (eI (a1)), some (eI (a2)), none]) (s2 := [eI (a2), eR v1]) rfl rfl rfl ?_
        refine w_cw (np := 19) (as := [eI (a2)]) (l2 := [some (eR v1), some (eI (a2))]) (rest := []) rfl rfl rfl (Nat.ble_eq.mp rfl) rfl rfl rfl (hI.kd b3 (by decide) (n := 8) rfl) rfl ?_
        refine w_t (np := 1) (l2 := [some (eR v1), some (eI (a2))]) (s2 := [eI (a2)]) rfl rfl rfl ?_
        refine b_ilt (t1 := 12) (t2 := 4) rfl rfl rfl (ev_w_in (by omega) (by omega)) (fun g11 => ?_) (fun g11 => ?_)
        · have b12 : -2147483648 ≤ a2 ∧ a2 ≤ -1 := by omega
          refine w_t (np := 13) (l2 := [some (eR v1), some (eI (a2))]) (s2 := [eI (1)]) rfl rfl rfl ?_
          refine w_go (t1 := 17) rfl rfl ?_
          refine b_rz rfl rfl (Or.inr rfl) ?_
          show ex_q (dt_fg L ρ) rc (d + 6, (174, 19, [some (eR a0), some (eI (a1)), some (eI (a2)), none], [eI (1)]), f :: F, μ)
          refine b_ieq (t1 := 28) (t2 := 22) rfl rfl rfl rfl (fun g12 => absurd g12 (by decide)) (fun g12 => ?_)
          refine w_t (np := 23) (l2 := [some (eR a0), some (eI (a1)), some (eI (a2)), none]) (s2 := [eR a0]) rfl (s_an rfl (pos_g hI gA0 (by decide))) rfl ?_
          refine w_t (np := 24) (l2 := [some (eR a0), some (eI (a1)), some (eI (a2)), none]) (s2 := [eI (2), eR a0]) rfl rfl rfl ?_
          refine w_cw (np := 27) (as := [eI (2)]) (l2 := [some (eR a0), some (eI (2))]) (rest := []) rfl rfl rfl (Nat.ble_eq.mp rfl) rfl rfl rfl (hI.kd gA0 (by decide) (n := 14) rfl) rfl ?_
          refine w_t (np := 1) (l2 := [some (eR a0), some (eI (2))]) (s2 := [eR a0]) rfl (s_an rfl (pos_g hI gA0 (by decide))) rfl ?_
          refine w_t (np := 2) (l2 := [some (eR a0), some (eI (2))]) (s2 := [eI (2), eR a0]) rfl rfl rfl ?_
          refine j_pf (np := 5) (w := 2) rfl rfl hI gA0 (by decide) (n := 14) rfl rfl (hO_i (lo := -2147483648) (hi := 2147483647) rfl (by decide)) ?_
          intro m13 I14 W15
          have F16 : Fr l_174 0 0 g μ m13 := F0.w W15 gA0 rfl
          refine w_t (np := 6) (l2 := [some (eR a0), some (eI (2))]) (s2 := [eI (-1)]) rfl rfl rfl ?_
          refine b_ri rfl rfl ?_
          show ex_q (dt_fg L ρ) rc (d + 6, (174, 27, [some (eR a0), some (eI (a1)), some (eI (a2)), none], [eI (-1)]), f :: F, m13)
          exact b_ri rfl rfl (K g m13 (-1) I14.re I14 (F16.up rfl rfl) (by decide))
        · have b12 : 0 ≤ a2 ∧ a2 ≤ 2147483647 := by omega
          refine w_t (np := 5) (l2 := [some (eR v1), some (eI (a2))]) (s2 := [eI (a2)]) rfl rfl rfl ?_
          refine w_t (np := 6) (l2 := [some (eR v1), some (eI (a2))]) (s2 := [eR v1, eI (a2)]) rfl (s_an rfl (pos_g hI b3 (by decide))) rfl ?_
          refine w_gf (np := 9) (v := eI (v6)) rfl rfl (hI.kd b3 (by decide) (n := 8) rfl) (by rw [e7]; rfl) ?_
          refine b_clt (t1 := 16) (t2 := 12) rfl rfl rfl (ev_w_in (by omega) (by omega)) (ev_w_in (by omega) (by omega)) (fun g12 => ?_) (fun g12 => ?_)
          · have b13 : 0 ≤ a2 ∧ a2 ≤ 889 := by omega
            refine w_t (np := 17) (l2 := [some (eR v1), some (eI (a2))]) (s2 := [eI (0)]) rfl rfl rfl ?_
            refine b_rz rfl rfl (Or.inl rfl) ?_
            show ex_q (dt_fg L ρ) rc (d + 6, (174, 19, [some (eR a0), some (eI (a1)), some (eI (a2)), none], [eI (0)]), f :: F, μ)
            refine b_ieq (t1 := 28) (t2 := 22) rfl rfl rfl rfl (fun g13 => ?_) (fun g13 => absurd g13 (by decide))
            refine w_t (np := 29) (l2 := [some (eR a0), some (eI (a1)), some (eI (a2)), none]) (s2 := [eR a0]) rfl (s_an rfl (pos_g hI gA0 (by decide))) rfl ?_
            refine w_cw (np := 32) (as := []) (l2 := [some (eR a0)]) (rest := []) rfl rfl rfl (Nat.ble_eq.mp rfl) rfl rfl rfl (hI.kd gA0 (by decide) (n := 14) rfl) rfl ?_
            refine s_209 hI gA0 ?_
            intro g14 m15 v19 E16 I17 F18 b20
            have F21 : Fr l_174 7 8159 g μ m15 := F0.t F18 rfl
            show ex_q (dt_fg L ρ) rc (d + 6, (174, 32, [some (eR a0), some (eI (a1)), some (eI (a2)), none], [eR v19]), f :: F, m15)
            refine w_t (np := 33) (l2 := [some (eR a0), some (eI (a1)), some (eI (a2)), some (eR v19)]) (s2 := []) rfl (s_sn (Nat.ble_eq.mp rfl) (pos_g I17 b20 (by decide)) rfl) rfl ?_
            refine w_t (np := 34) (l2 := [some (eR a0), some (eI (a1)), some (eI (a2)), some (eR v19)]) (s2 := [eR v19]) rfl (s_an rfl (pos_g I17 b20 (by decide))) rfl ?_
            refine w_t (np := 35) (l2 := [some (eR a0), some (eI (a1)), some (eI (a2)), some (eR v19)]) (s2 := [eI (a1), eR v19]) rfl rfl rfl ?_
            refine w_t (np := 38) (l2 := [some (eR a0), some (eI (a1)), some (eI (a2)), some (eR v19)]) (s2 := [eI (890), eI (a1), eR v19]) rfl rfl rfl ?_
            refine w_cw (np := 41) (as := [eI (a1), eI (890)]) (l2 := [some (eR v19), some (eI (a1)), some (eI (890)), none, none, none, none, none]) (rest := []) rfl rfl rfl (Nat.ble_eq.mp rfl) rfl rfl rfl (I17.kd b20 (by decide) (n := 15) rfl) rfl ?_
            refine s_119 (a1 := a1) (a2 := 890) I17 b20 (by omega) (by decide) ?_
            intro m22 v25 I23 F24 b26
            have F27 : Fr l_174 7 8159 g μ m22 := F21.t3 E16 F24 rfl
            show ex_q (dt_fg L ρ) rc (d + 6, (174, 41, [some (eR a0), some (eI (a1)), some (eI (a2)), some (eR v19)], [eI (v25)]), f :: F, m22)
            refine w_t (np := 42) (l2 := [some (eR a0), some (eI (a1)), some (eI (a2)), some (eR v19)]) (s2 := []) rfl rfl rfl ?_
            refine w_t (np := 43) (l2 := [some (eR a0), some (eI (a1)), some (eI (a2)), some (eR v19)]) (s2 := [eR a0]) rfl (s_an rfl (pos_g I23 (E16.g gA0 (by decide)) (by decide))) rfl ?_
            refine w_t (np := 44) (l2 := [some (eR a0), some (eI (a1)), some (eI (a2)), some (eR v19)]) (s2 := [eR v19, eR a0]) rfl (s_an rfl (pos_g I23 b20 (by decide))) rfl ?_
            refine w_t (np := 45) (l2 := [some (eR a0), some (eI (a1)), some (eI (a2)), some (eR v19)]) (s2 := [eI (a2), eR v19, eR a0]) rfl rfl rfl ?_
            refine w_cw (np := 48) (as := [eI (a2)]) (l2 := [some (eR v19), some (eI (a2))]) (rest := [eR a0]) rfl rfl rfl (Nat.ble_eq.mp rfl) rfl rfl rfl (I23.kd b20 (by decide) (n := 15) rfl) rfl ?_
            refine s_118 (a1 := a2) I23 b20 (by omega) ?_
            intro v28 b29
            show ex_q (dt_fg L ρ) rc (d + 6, (174, 48, [some (eR a0), some (eI (a1)), some (eI (a2)), some (eR v19)], [eI (v28), eR a0]), f :: F, m22)
            refine w_cw (np := 51) (as := [eI (v28)]) (l2 := [some (eR a0), some (eI (v28))]) (rest := []) rfl rfl rfl (Nat.ble_eq.mp rfl) rfl rfl rfl (I23.kd (E16.g gA0 (by decide)) (by decide) (n := 14) rfl) rfl ?_
            refine w_t (np := 1) (l2 := [some (eR a0), some (eI (v28))]) (s2 := [eR a0]) rfl (s_an rfl (pos_g I23 (E16.g gA0 (by decide)) (by decide))) rfl ?_
            refine w_t (np := 2) (l2 := [some (eR a0), some (eI (v28))]) (s2 := [eI (0), eR a0]) rfl rfl rfl ?_
            refine j_pf (np := 5) (w := 0) rfl rfl I23 (E16.g gA0 (by decide)) (by decide) (n := 14) rfl rfl (hO_i (lo := -2147483648) (hi := 2147483647) rfl (by decide)) ?_
            intro m30 I31 W32
            have F33 : Fr l_174 7 8159 g μ m30 := F27.w3 E16 W32 (E16.g gA0 (by decide)) rfl
            refine w_t (np := 6) (l2 := [some (eR a0), some (eI (v28))]) (s2 := [eI (v28)]) rfl rfl rfl ?_
            refine b_ri rfl rfl ?_
            show ex_q (dt_fg L ρ) rc (d + 6, (174, 51, [some (eR a0), some (eI (a1)), some (eI (a2)), some (eR v19)], [eI (v28)]), f :: F, m30)
            exact b_ri rfl rfl (K g14 m30 (v28) E16 I31 F33 (by omega))
          · have b13 : 1 ≤ a2 ∧ a2 ≤ 2147483647 := by omega
            refine w_t (np := 13) (l2 := [some (eR v1), some (eI (a2))]) (s2 := [eI (1)]) rfl rfl rfl ?_
            refine w_go (t1 := 17) rfl rfl ?_
            refine b_rz rfl rfl (Or.inr rfl) ?_
            show ex_q (dt_fg L ρ) rc (d + 6, (174, 19, [some (eR a0), some (eI (a1)), some (eI (a2)), none], [eI (1)]), f :: F, μ)
            refine b_ieq (t1 := 28) (t2 := 22) rfl rfl rfl rfl (fun g13 => absurd g13 (by decide)) (fun g13 => ?_)
            refine w_t (np := 23) (l2 := [some (eR a0), some (eI (a1)), some (eI (a2)), none]) (s2 := [eR a0]) rfl (s_an rfl (pos_g hI gA0 (by decide))) rfl ?_
            refine w_t (np := 24) (l2 := [some (eR a0), some (eI (a1)), some (eI (a2)), none]) (s2 := [eI (2), eR a0]) rfl rfl rfl ?_
            refine w_cw (np := 27) (as := [eI (2)]) (l2 := [some (eR a0), some (eI (2))]) (rest := []) rfl rfl rfl (Nat.ble_eq.mp rfl) rfl rfl rfl (hI.kd gA0 (by decide) (n := 14) rfl) rfl ?_
            refine w_t (np := 1) (l2 := [some (eR a0), some (eI (2))]) (s2 := [eR a0]) rfl (s_an rfl (pos_g hI gA0 (by decide))) rfl ?_
            refine w_t (np := 2) (l2 := [some (eR a0), some (eI (2))]) (s2 := [eI (2), eR a0]) rfl rfl rfl ?_
            refine j_pf (np := 5) (w := 2) rfl rfl hI gA0 (by decide) (n := 14) rfl rfl (hO_i (lo := -2147483648) (hi := 2147483647) rfl (by decide)) ?_
            intro m14 I15 W16
            have F17 : Fr l_174 0 0 g μ m14 := F0.w W16 gA0 rfl
            refine w_t (np := 6) (l2 := [some (eR a0), some (eI (2))]) (s2 := [eI (-1)]) rfl rfl rfl ?_
            refine b_ri rfl rfl ?_
            show ex_q (dt_fg L ρ) rc (d + 6, (174, 27, [some (eR a0), some (eI (a1)), some (eI (a2)), none], [eI (-1)]), f :: F, m14)
            exact b_ri rfl rfl (K g m14 (-1) I15.re I15 (F17.up rfl rfl) (by decide))
      · refine w_t (np := 13) (l2 := [some (eR v1), some (eI (a1))]) (s2 := [eI (1)]) rfl rfl rfl ?_
        refine w_go (t1 := 17) rfl rfl ?_
        refine b_rz rfl rfl (Or.inr rfl) ?_
        show ex_q (dt_fg L ρ) rc (d + 6, (174, 8, [some (eR a0), some (eI (a1)), some (eI (a2)), none], [eI (1)]), f :: F, μ)
        refine b_ine (t1 := 22) (t2 := 11) rfl rfl rfl rfl (fun g10 => ?_) (fun g10 => absurd g10 (by decide))
        refine w_t (np := 23) (l2 := [some (eR a0), some (eI (a1)), some (eI (a2)), none]) (s2 := [eR a0]) rfl (s_an rfl (pos_g hI gA0 (by decide))) rfl ?_
        refine w_t (np := 24) (l2 := [some (eR a0), some (eI (a1)), some (eI (a2)), none]) (s2 := [eI (2), eR a0]) rfl rfl rfl ?_
        refine w_cw (np := 27) (as := [eI (2)]) (l2 := [some (eR a0), some (eI (2))]) (rest := []) rfl rfl rfl (Nat.ble_eq.mp rfl) rfl rfl rfl (hI.kd gA0 (by decide) (n := 14) rfl) rfl ?_
        refine w_t (np := 1) (l2 := [some (eR a0), some (eI (2))]) (s2 := [eR a0]) rfl (s_an rfl (pos_g hI gA0 (by decide))) rfl ?_
        refine w_t (np := 2) (l2 := [some (eR a0), some (eI (2))]) (s2 := [eI (2), eR a0]) rfl rfl rfl ?_
        refine j_pf (np := 5) (w := 2) rfl rfl hI gA0 (by decide) (n := 14) rfl rfl (hO_i (lo := -2147483648) (hi := 2147483647) rfl (by decide)) ?_
        intro m11 I12 W13
        have F14 : Fr l_174 0 0 g μ m11 := F0.w W13 gA0 rfl
        refine w_t (np := 6) (l2 := [some (eR a0), some (eI (2))]) (s2 := [eI (-1)]) rfl rfl rfl ?_
        refine b_ri rfl rfl ?_
        show ex_q (dt_fg L ρ) rc (d + 6, (174, 27, [some (eR a0), some (eI (a1)), some (eI (a2)), none], [eI (-1)]), f :: F, m11)
        exact b_ri rfl rfl (K g m11 (-1) I12.re I12 (F14.up rfl rfl) (by decide))
def l_175 : List Nat := [268, 270, 265, 8971, 8972, 8973, 8968, 8969, 8970, 9216, 9472, 9728, 9984, 10240]
theorem s_175 {L : Nat} {ρ : Nat → Int} {rc : eQ} {d : Nat} {f : eFr} {F : List eFr} {μ : eM} {g : Nat → Nat} {a0 : Nat} {a1 : Int} {a2 : Int} (hI : SI g μ) (gA0 : g a0 = 1) (bA1 : -2147483648 ≤ a1 ∧ a1 ≤ 2147483647) (bA2 : -2147483648 ≤ a2 ∧ a2 ≤ 2147483647) (K : ∀ (g2 : Nat → Nat) (μ2 : eM) (v : Int), GE g g2 → SI g2 μ2 → Fr l_175 7 8159 g μ μ2 → (-2147483648 ≤ v ∧ v ≤ 2147483647) → ex_q (dt_fg L ρ) rc (d + 7, (f.1, f.2.1, f.2.2.1, eI v :: f.2.2.2), F, μ2)) : ex_q (dt_fg L ρ) rc (d + 6, (175, 0, [some (eR a0), some (eI (a1)), some (eI (a2))], []), f :: F, μ) := by
  have F0 : Fr l_175 0 0 g μ μ := Fr.r
  refine w_t (np := 1) (l2 := [some (eR a0), some (eI (a1)), some (eI (a2))]) (s2 := [eI (a2)]) rfl rfl rfl ?_
  refine b_ilt (t1 := 10) (t2 := 4) rfl rfl rfl (ev_w_in (by omega) (by omega)) (fun g1 => ?_) (fun g1 => ?_)
  · have b2 : -2147483648 ≤ a2 ∧ a2 ≤ -1 := by omega
    refine w_t (np := 11) (l2 := [some (eR a0), some (eI (a1)), some (eI (a2))]) (s2 := [eR a0]) rfl (s_an rfl (pos_g hI gA0 (by decide))) rfl ?_
    refine w_t (np := 12) (l2 := [some (eR a0), some (eI (a1)), some (eI (a2))]) (s2 := [eI (1), eR a0]) rfl rfl rfl ?_
    refine w_cw (np := 15) (as := [eI (1)]) (l2 := [some (eR a0), some (eI (1))]) (rest := []) rfl rfl rfl (Nat.ble_eq.mp rfl) rfl rfl rfl (hI.kd gA0 (by decide) (n := 14) rfl) rfl ?_
    refine w_t (np := 1) (l2 := [some (eR a0), some (eI (1))]) (s2 := [eR a0]) rfl (s_an rfl (pos_g hI gA0 (by decide))) rfl ?_
    refine w_t (np := 2) (l2 := [some (eR a0), some (eI (1))]) (s2 := [eI (1), eR a0]) rfl rfl rfl ?_
    refine j_pf (np := 5) (w := 1) rfl rfl hI gA0 (by decide) (n := 14) rfl rfl (hO_i (lo := -2147483648) (hi := 2147483647) rfl (by decide)) ?_
    intro m2 I3 W4
    have F5 : Fr l_175 0 0 g μ m2 := F0.w W4 gA0 rfl
    refine w_t (np := 6) (l2 := [some (eR a0), some (eI (1))]) (s2 := [eI (-1)]) rfl rfl rfl ?_
    refine b_ri rfl rfl ?_
    show ex_q (dt_fg L ρ) rc (d + 6, (175, 15, [some (eR a0), some (eI (a1)), some (eI (a2))], [eI (-1)]), f :: F, m2)
    exact b_ri rfl rfl (K g m2 (-1) I3.re I3 (F5.up rfl rfl) (by decide))
  · have b2 : 0 ≤ a2 ∧ a2 ≤ 2147483647 := by omega
    refine w_t (np := 5) (l2 := [some (eR a0), some (eI (a1)), some (eI (a2))]) (s2 := [eI (a2)]) rfl rfl rfl ?_
    refine w_t (np := 7) (l2 := [some (eR a0), some (eI (a1)), some (eI (a2))]) (s2 := [eI (40), eI (a2)]) rfl rfl rfl ?_
    refine b_cle (t1 := 16) (t2 := 10) rfl rfl rfl (ev_w_in (by omega) (by omega)) rfl (fun g2 => ?_) (fun g2 => ?_)
    · have b3 : 0 ≤ a2 ∧ a2 ≤ 40 := by omega
      refine w_t (np := 17) (l2 := [some (eR a0), some (eI (a1)), some (eI (a2))]) (s2 := [eR a0]) rfl (s_an rfl (pos_g hI gA0 (by decide))) rfl ?_
      refine j_gr (np := 20) rfl rfl hI gA0 (by decide) (n := 14) rfl rfl rfl ?_
      intro v3 e4 b5 z6
      rcases hor2 b5 with b5 | b5
      · refine w_t (np := 21) (l2 := [some (eR a0), some (eI (a1)), some (eI (a2))]) (s2 := [eI (a1), eR v3]) rfl rfl rfl ?_
        refine w_cw (np := 24) (as := [eI (a1)]) (l2 := [some (eR v3), some (eI (a1))]) (rest := []) rfl rfl rfl (Nat.ble_eq.mp rfl) rfl rfl rfl (hI.kd b5 (by decide) (n := 8) rfl) rfl ?_
        refine w_t (np := 1) (l2 := [some (eR v3), some (eI (a1))]) (s2 := [eI (a1)]) rfl rfl rfl ?_
        refine b_ilt (t1 := 12) (t2 := 4) rfl rfl rfl (ev_w_in (by omega) (by omega)) (fun g7 => ?_) (fun g7 => ?_)
        · have b8 : -2147483648 ≤ a1 ∧ a1 ≤ -1 := by omega
          refine w_t (np := 13) (l2 := [some (eR v3), some (eI (a1))]) (s2 := [eI (1)]) rfl rfl rfl ?_
          refine w_go (t1 := 17) rfl rfl ?_
          refine b_rz rfl rfl (Or.inr rfl) ?_
          show ex_q (dt_fg L ρ) rc (d + 6, (175, 24, [some (eR a0), some (eI (a1)), some (eI (a2))], [eI (1)]), f :: F, μ)
          refine b_ieq (t1 := 33) (t2 := 27) rfl rfl rfl rfl (fun g8 => absurd g8 (by decide)) (fun g8 => ?_)
          refine w_t (np := 28) (l2 := [some (eR a0), some (eI (a1)), some (eI (a2))]) (s2 := [eR a0]) rfl (s_an rfl (pos_g hI gA0 (by decide))) rfl ?_
          refine w_t (np := 29) (l2 := [some (eR a0), some (eI (a1)), some (eI (a2))]) (s2 := [eI (2), eR a0]) rfl rfl rfl ?_
          refine w_cw (np := 32) (as := [eI (2)]) (l2 := [some (eR a0), some (eI (2))]) (rest := []) rfl rfl rfl (Nat.ble_eq.mp rfl) rfl rfl rfl (hI.kd gA0 (by decide) (n := 14) rfl) rfl ?_
          refine w_t (np := 1) (l2 := [some (eR a0), some (eI (2))]) (s2 := [eR a0]) rfl (s_an rfl (pos_g hI gA0 (by decide))) rfl ?_
          refine w_t (np := 2) (l2 := [some (eR a0), some (eI (2))]) (s2 := [eI (2), eR a0]) rfl rfl rfl ?_
          refine j_pf (np := 5) (w := 2) rfl rfl hI gA0 (by decide) (n := 14) rfl rfl (hO_i (lo := -2147483648) (hi := 2147483647) rfl (by decide)) ?_
          intro m9 I10 W11
          have F12 : Fr l_175 0 0 g μ m9 := F0.w W11 gA0 rfl
          refine w_t (np := 6) (l2 := [some (eR a0), some (eI (2))]) (s2 := [eI (-1)]) rfl rfl rfl ?_
          refine b_ri rfl rfl ?_
          show ex_q (dt_fg L ρ) rc (d + 6, (175, 32, [some (eR a0), some (eI (a1)), some (eI (a2))], [eI (-1)]), f :: F, m9)
          exact b_ri rfl rfl (K g m9 (-1) I10.re I10 (F12.up rfl rfl) (by decide))
        · have b8 : 0 ≤ a1 ∧ a1 ≤ 2147483647 := by omega
          refine w_t (np := 5) (l2 := [some (eR v3), some (eI (a1))]) (s2 := [eI (a1)]) rfl rfl rfl ?_
          refine w_t (np := 6) (l2 := [some (eR v3), some (eI (a1))]) (s2 := [eR v3, eI (a1)]) rfl (s_an rfl (pos_g hI b5 (by decide))) rfl ?_
          refine j_gi (np := 9) rfl rfl rfl hI b5 (by decide) (n := 8) rfl rfl (lo := 0) (hi := 50) rfl ?_
          intro v8 e9 b10
          refine b_clt (t1 := 16) (t2 := 12) rfl rfl rfl (ev_w_in (by omega) (by omega)) (ev_w_in (by omega) (by omega)) (fun g11 => ?_) (fun g11 => ?_)
          · have b12 : 0 ≤ a1 ∧ a1 ≤ 49 := by omega
            have b13 : 1 ≤ v8 ∧ v8 ≤ 50 := by omega
            refine w_t (np := 17) (l2 := [some (eR v3), some (eI (a1))]) (s2 := [eI (0)]) rfl rfl rfl ?_
            refine b_rz rfl rfl (Or.inl rfl) ?_
            show ex_q (dt_fg L ρ) rc (d + 6, (175, 24, [some (eR a0), some (eI (a1)), some (eI (a2))], [eI (0)]), f :: F, μ)
            refine b_ieq (t1 := 33) (t2 := 27) rfl rfl rfl rfl (fun g12 => ?_) (fun g12 => absurd g12 (by decide))
            refine w_t (np := 34) (l2 := [some (eR a0), some (eI (a1)), some (eI (a2))]) (s2 := [eR a0]) rfl (s_an rfl (pos_g hI gA0 (by decide))) rfl ?_
            refine w_t (np := 35) (l2 := [some (eR a0), some (eI (a1)), some (eI (a2))]) (s2 := [eR a0, eR a0]) rfl (s_an rfl (pos_g hI gA0 (by decide))) rfl ?_
            refine w_cw (np := 38) (as := []) (l2 := [some (eR a0)]) (rest := [eR a0]) rfl rfl rfl (Nat.ble_eq.mp rfl) rfl rfl rfl (hI.kd gA0 (by decide) (n := 14) rfl) rfl ?_
            refine s_209 hI gA0 ?_
            intro g13 m14 v18 E15 I16 F17 b19
            have F20 : Fr l_175 7 8159 g μ m14 := F0.t F17 rfl
            show ex_q (dt_fg L ρ) rc (d + 6, (175, 38, [some (eR a0), some (eI (a1)), some (eI (a2))], [eR v18, eR a0]), f :: F, m14)
            refine w_t (np := 39) (l2 := [some (eR a0), some (eI (a1)), some (eI (a2))]) (s2 := [eI (a1), eR v18, eR a0]) rfl rfl rfl ?_
            refine w_t (np := 40) (l2 := [some (eR a0), some (eI (a1)), some (eI (a2))]) (s2 := [eI (a2), eI (a1), eR v18, eR a0]) rfl rfl rfl ?_
            refine w_cw (np := 43) (as := [eI (a1), eI (a2)]) (l2 := [some (eR v18), some (eI (a1)), some (eI (a2)), none, none, none, none, none]) (rest := [eR a0]) rfl rfl rfl (Nat.ble_eq.mp rfl) rfl rfl rfl (I16.kd b19 (by decide) (n := 15) rfl) rfl ?_
            refine s_119 (a1 := a1) (a2 := a2) I16 b19 (by omega) (by omega) ?_
            intro m21 v24 I22 F23 b25
            have F26 : Fr l_175 7 8159 g μ m21 := F20.t3 E15 F23 rfl
            show ex_q (dt_fg L ρ) rc (d + 6, (175, 43, [some (eR a0), some (eI (a1)), some (eI (a2))], [eI (v24), eR a0]), f :: F, m21)
            refine w_cw (np := 46) (as := [eI (v24)]) (l2 := [some (eR a0), some (eI (v24))]) (rest := []) rfl rfl rfl (Nat.ble_eq.mp rfl) rfl rfl rfl (I22.kd (E15.g gA0 (by decide)) (by decide) (n := 14) rfl) rfl ?_
            refine w_t (np := 1) (l2 := [some (eR a0), some (eI (v24))]) (s2 := [eR a0]) rfl (s_an rfl (pos_g I22 (E15.g gA0 (by decide)) (by decide))) rfl ?_
            refine w_t (np := 2) (l2 := [some (eR a0), some (eI (v24))]) (s2 := [eI (0), eR a0]) rfl rfl rfl ?_
            refine j_pf (np := 5) (w := 0) rfl rfl I22 (E15.g gA0 (by decide)) (by decide) (n := 14) rfl rfl (hO_i (lo := -2147483648) (hi := 2147483647) rfl (by decide)) ?_
            intro m27 I28 W29
            have F30 : Fr l_175 7 8159 g μ m27 := F26.w3 E15 W29 (E15.g gA0 (by decide)) rfl
            refine w_t (np := 6) (l2 := [some (eR a0), some (eI (v24))]) (s2 := [eI (v24)]) rfl rfl rfl ?_
            refine b_ri rfl rfl ?_
            show ex_q (dt_fg L ρ) rc (d + 6, (175, 46, [some (eR a0), some (eI (a1)), some (eI (a2))], [eI (v24)]), f :: F, m27)
            exact b_ri rfl rfl (K g13 m27 (v24) E15 I28 F30 (by omega))
          · refine w_t (np := 13) (l2 := [some (eR v3), some (eI (a1))]) (s2 := [eI (1)]) rfl rfl rfl ?_
            refine w_go (t1 := 17) rfl rfl ?_
            refine b_rz rfl rfl (Or.inr rfl) ?_
            show ex_q (dt_fg L ρ) rc (d + 6, (175, 24, [some (eR a0), some (eI (a1)), some (eI (a2))], [eI (1)]), f :: F, μ)
            refine b_ieq (t1 := 33) (t2 := 27) rfl rfl rfl rfl (fun g12 => absurd g12 (by decide)) (fun g12 => ?_)
            refine w_t (np := 28) (l2 := [some (eR a0), some (eI (a1)), some (eI (a2))]) (s2 := [eR a0]) rfl (s_an rfl (pos_g hI gA0 (by decide))) rfl ?_
            refine w_t (np := 29) (l2 := [some (eR a0), some (eI (a1)), some (eI (a2))]) (s2 := [eI (2), eR a0]) rfl rfl rfl ?_
            refine w_cw (np := 32) (as := [eI (2)]) (l2 := [some (eR a0), some (eI (2))]) (rest := []) rfl rfl rfl (Nat.ble_eq.mp rfl) rfl rfl rfl (hI.kd gA0 (by decide) (n := 14) rfl) rfl ?_
            refine w_t (np := 1) (l2 := [some (eR a0), some (eI (2))]) (s2 := [eR a0]) rfl (s_an rfl (pos_g hI gA0 (by decide))) rfl ?_
            refine w_t (np := 2) (l2 := [some (eR a0), some (eI (2))]) (s2 := [eI (2), eR a0]) rfl rfl rfl ?_
            refine j_pf (np := 5) (w := 2) rfl rfl hI gA0 (by decide) (n := 14) rfl rfl (hO_i (lo := -2147483648) (hi := 2147483647) rfl (by decide)) ?_
            intro m13 I14 W15
            have F16 : Fr l_175 0 0 g μ m13 := F0.w W15 gA0 rfl
            refine w_t (np := 6) (l2 := [some (eR a0), some (eI (2))]) (s2 := [eI (-1)]) rfl rfl rfl ?_
            refine b_ri rfl rfl ?_
            show ex_q (dt_fg L ρ) rc (d + 6, (175, 32, [some (eR a0), some (eI (a1)), some (eI (a2))], [eI (-1)]), f :: F, m13)
            exact b_ri rfl rfl (K g m13 (-1) I14.re I14 (F16.up rfl rfl) (by decide))
      · refine w_t (np := 21) (l2 := [some (eR a0), some (eI (a1)), some (eI (a2))]) (s2 := [eI (a1), eR v3]) rfl rfl rfl ?_
        refine w_cw (np := 24) (as := [eI (a1)]) (l2 := [some (eR v3), some (eI (a1))]) (rest := []) rfl rfl rfl (Nat.ble_eq.mp rfl) rfl rfl rfl (hI.kd b5 (by decide) (n := 8) rfl) rfl ?_
        refine w_t (np := 1) (l2 := [some (eR v3), some (eI (a1))]) (s2 := [eI (a1)]) rfl rfl rfl ?_
        refine b_ilt (t1 := 12) (t2 := 4) rfl rfl rfl (ev_w_in (by omega) (by omega)) (fun g7 => ?_) (fun g7 => ?_)
        · have b8 : -2147483648 ≤ a1 ∧ a1 ≤ -1 := by omega
          refine w_t (np := 13) (l2 := [some (eR v3), some (eI (a1))]) (s2 := [eI (1)]) rfl rfl rfl ?_
          refine w_go (t1 := 17) rfl rfl ?_
          refine b_rz rfl rfl (Or.inr rfl) ?_
          show ex_q (dt_fg L ρ) rc (d + 6, (175, 24, [some (eR a0), some (eI (a1)), some (eI (a2))], [eI (1)]), f :: F, μ)
          refine b_ieq (t1 := 33) (t2 := 27) rfl rfl rfl rfl (fun g8 => absurd g8 (by decide)) (fun g8 => ?_)
          refine w_t (np := 28) (l2 := [some (eR a0), some (eI (a1)), some (eI (a2))]) (s2 := [eR a0]) rfl (s_an rfl (pos_g hI gA0 (by decide))) rfl ?_
          refine w_t (np := 29) (l2 := [some (eR a0), some (eI (a1)), some (eI (a2))]) (s2 := [eI (2), eR a0]) rfl rfl rfl ?_
          refine w_cw (np := 32) (as := [eI (2)]) (l2 := [some (eR a0), some (eI (2))]) (rest := []) rfl rfl rfl (Nat.ble_eq.mp rfl) rfl rfl rfl (hI.kd gA0 (by decide) (n := 14) rfl) rfl ?_
          refine w_t (np := 1) (l2 := [some (eR a0), some (eI (2))]) (s2 := [eR a0]) rfl (s_an rfl (pos_g hI gA0 (by decide))) rfl ?_
          refine w_t (np := 2) (l2 := [some (eR a0), some (eI (2))]) (s2 := [eI (2), eR a0]) rfl rfl rfl ?_
          refine j_pf (np := 5) (w := 2) rfl rfl hI gA0 (by decide) (n := 14) rfl rfl (hO_i (lo := -2147483648) (hi := 2147483647) rfl (by decide)) ?_
          intro m9 I10 W11
          have F12 : Fr l_175 0 0 g μ m9 := F0.w W11 gA0 rfl
          refine w_t (np := 6) (l2 := [some (eR a0), some (eI (2))]) (s2 := [eI (-1)]) rfl rfl rfl ?_
          refine b_ri rfl rfl ?_
          show ex_q (dt_fg L ρ) rc (d + 6, (175, 32, [some (eR a0), some (eI (a1)), some (eI (a2))], [eI (-1)]), f :: F, m9)
          exact b_ri rfl rfl (K g m9 (-1) I10.re I10 (F12.up rfl rfl) (by decide))
        · have b8 : 0 ≤ a1 ∧ a1 ≤ 2147483647 := by omega
          refine w_t (np := 5) (l2 := [some (eR v3), some (eI (a1))]) (s2 := [eI (a1)]) rfl rfl rfl ?_
          refine w_t (np := 6) (l2 := [some (eR v3), some (eI (a1))]) (s2 := [eR v3, eI (a1)]) rfl (s_an rfl (pos_g hI b5 (by decide))) rfl ?_
          refine j_gi (np := 9) rfl rfl rfl hI b5 (by decide) (n := 8) rfl rfl (lo := 0) (hi := 890) rfl ?_
          intro v8 e9 b10
          refine b_clt (t1 := 16) (t2 := 12) rfl rfl rfl (ev_w_in (by omega) (by omega)) (ev_w_in (by omega) (by omega)) (fun g11 => ?_) (fun g11 => ?_)
          · have b12 : 0 ≤ a1 ∧ a1 ≤ 889 := by omega
            have b13 : 1 ≤ v8 ∧ v8 ≤ 890 := by omega
            refine w_t (np := 17) (l2 := [some (eR v3), some (eI (a1))]) (s2 := [eI (0)]) rfl rfl rfl ?_
            refine b_rz rfl rfl (Or.inl rfl) ?_
            show ex_q (dt_fg L ρ) rc (d + 6, (175, 24, [some (eR a0), some (eI (a1)), some (eI (a2))], [eI (0)]), f :: F, μ)
            refine b_ieq (t1 := 33) (t2 := 27) rfl rfl rfl rfl (fun g12 => ?_) (fun g12 => absurd g12 (by decide))
            refine w_t (np := 34) (l2 := [some (eR a0), some (eI (a1)), some (eI (a2))]) (s2 := [eR a0]) rfl (s_an rfl (pos_g hI gA0 (by decide))) rfl ?_
            refine w_t (np := 35) (l2 := [some (eR a0), some (eI (a1)), some (eI (a2))]) (s2 := [eR a0, eR a0]) rfl (s_an rfl (pos_g hI gA0 (by decide))) rfl ?_
            refine w_cw (np := 38) (as := []) (l2 := [some (eR a0)]) (rest := [eR a0]) rfl rfl rfl (Nat.ble_eq.mp rfl) rfl rfl rfl (hI.kd gA0 (by decide) (n := 14) rfl) rfl ?_
            refine s_209 hI gA0 ?_
            intro g13 m14 v18 E15 I16 F17 b19
            have F20 : Fr l_175 7 8159 g μ m14 := F0.t F17 rfl
            show ex_q (dt_fg L ρ) rc (d + 6, (175, 38, [some (eR a0), some (eI (a1)), some (eI (a2))], [eR v18, eR a0]), f :: F, m14)
            refine w_t (np := 39) (l2 := [some (eR a0), some (eI (a1)), some (eI (a2))]) (s2 := [eI (a1), eR v18, eR a0]) rfl rfl rfl ?_
            refine w_t (np := 40) (l2 := [some (eR a0), some (eI (a1)), some (eI (a2))]) (s2 := [eI (a2), eI (a1), eR v18, eR a0]) rfl rfl rfl ?_
            refine w_cw (np := 43) (as := [eI (a1), eI (a2)]) (l2 := [some (eR v18), some (eI (a1)), some (eI (a2)), none, none, none, none, none]) (rest := [eR a0]) rfl rfl rfl (Nat.ble_eq.mp rfl) rfl rfl rfl (I16.kd b19 (by decide) (n := 15) rfl) rfl ?_
            refine s_119 (a1 := a1) (a2 := a2) I16 b19 (by omega) (by omega) ?_
            intro m21 v24 I22 F23 b25
            have F26 : Fr l_175 7 8159 g μ m21 := F20.t3 E15 F23 rfl
            show ex_q (dt_fg L ρ) rc (d + 6, (175, 43, [some (eR a0), some (eI (a1)), some (eI (a2))], [eI (v24), eR a0]), f :: F, m21)
            refine w_cw (np := 46) (as := [eI (v24)]) (l2 := [some (eR a0), some (eI (v24))]) (rest := []) rfl rfl rfl (Nat.ble_eq.mp rfl) rfl rfl rfl (I22.kd (E15.g gA0 (by decide)) (by decide) (n := 14) rfl) rfl ?_
            refine w_t (np := 1) (l2 := [some (eR a0), some (eI (v24))]) (s2 := [eR a0]) rfl (s_an rfl (pos_g I22 (E15.g gA0 (by decide)) (by decide))) rfl ?_
            refine w_t (np := 2) (l2 := [some (eR a0), some (eI (v24))]) (s2 := [eI (0), eR a0]) rfl rfl rfl ?_
            refine j_pf (np := 5) (w := 0) rfl rfl I22 (E15.g gA0 (by decide)) (by decide) (n := 14) rfl rfl (hO_i (lo := -2147483648) (hi := 2147483647) rfl (by decide)) ?_
            intro m27 I28 W29
            have F30 : Fr l_175 7 8159 g μ m27 := F26.w3 E15 W29 (E15.g gA0 (by decide)) rfl
            refine w_t (np := 6) (l2 := [some (eR a0), some (eI (v24))]) (s2 := [eI (v24)]) rfl rfl rfl ?_
            refine b_ri rfl rfl ?_
            show ex_q (dt_fg L ρ) rc (d + 6, (175, 46, [some (eR a0), some (eI (a1)), some (eI (a2))], [eI (v24)]), f :: F, m27)
            exact b_ri rfl rfl (K g13 m27 (v24) E15 I28 F30 (by omega))
          · refine w_t (np := 13) (l2 := [some (eR v3), some (eI (a1))]) (s2 := [eI (1)]) rfl rfl rfl ?_
            refine w_go (t1 := 17) rfl rfl ?_
            refine b_rz rfl rfl (Or.inr rfl) ?_
            show ex_q (dt_fg L ρ) rc (d + 6, (175, 24, [some (eR a0), some (eI (a1)), some (eI (a2))], [eI (1)]), f :: F, μ)
            refine b_ieq (t1 := 33) (t2 := 27) rfl rfl rfl rfl (fun g12 => absurd g12 (by decide)) (fun g12 => ?_)
            refine w_t (np := 28) (l2 := [some (eR a0), some (eI (a1)), some (eI (a2))]) (s2 := [eR a0]) rfl (s_an rfl (pos_g hI gA0 (by decide))) rfl ?_
            refine w_t (np := 29) (l2 := [some (eR a0), some (eI (a1)), some (eI (a2))]) (s2 := [eI (2), eR a0]) rfl rfl rfl ?_
            refine w_cw (np := 32) (as := [eI (2)]) (l2 := [some (eR a0), some (eI (2))]) (rest := []) rfl rfl rfl (Nat.ble_eq.mp rfl) rfl rfl rfl (hI.kd gA0 (by decide) (n := 14) rfl) rfl ?_
            refine w_t (np := 1) (l2 := [some (eR a0), some (eI (2))]) (s2 := [eR a0]) rfl (s_an rfl (pos_g hI gA0 (by decide))) rfl ?_
            refine w_t (np := 2) (l2 := [some (eR a0), some (eI (2))]) (s2 := [eI (2), eR a0]) rfl rfl rfl ?_
            refine j_pf (np := 5) (w := 2) rfl rfl hI gA0 (by decide) (n := 14) rfl rfl (hO_i (lo := -2147483648) (hi := 2147483647) rfl (by decide)) ?_
            intro m13 I14 W15
            have F16 : Fr l_175 0 0 g μ m13 := F0.w W15 gA0 rfl
            refine w_t (np := 6) (l2 := [some (eR a0), some (eI (2))]) (s2 := [eI (-1)]) rfl rfl rfl ?_
            refine b_ri rfl rfl ?_
            show ex_q (dt_fg L ρ) rc (d + 6, (175, 32, [some (eR a0), some (eI (a1)), some (eI (a2))], [eI (-1)]), f :: F, m13)
            exact b_ri rfl rfl (K g m13 (-1) I14.re I14 (F16.up rfl rfl) (by decide))
    · have b3 : 41 ≤ a2 ∧ a2 ≤ 2147483647 := by omega
      refine w_t (np := 11) (l2 := [some (eR a0), some (eI (a1)), some (eI (a2))]) (s2 := [eR a0]) rfl (s_an rfl (pos_g hI gA0 (by decide))) rfl ?_
      refine w_t (np := 12) (l2 := [some (eR a0), some (eI (a1)), some (eI (a2))]) (s2 := [eI (1), eR a0]) rfl rfl rfl ?_
      refine w_cw (np := 15) (as := [eI (1)]) (l2 := [some (eR a0), some (eI (1))]) (rest := []) rfl rfl rfl (Nat.ble_eq.mp rfl) rfl rfl rfl (hI.kd gA0 (by decide) (n := 14) rfl) rfl ?_
      refine w_t (np := 1) (l2 := [some (eR a0), some (eI (1))]) (s2 := [eR a0]) rfl (s_an rfl (pos_g hI gA0 (by decide))) rfl ?_
      refine w_t (np := 2) (l2 := [some (eR a0), some (eI (1))]) (s2 := [eI (1), eR a0]) rfl rfl rfl ?_
      refine j_pf (np := 5) (w := 1) rfl rfl hI gA0 (by decide) (n := 14) rfl rfl (hO_i (lo := -2147483648) (hi := 2147483647) rfl (by decide)) ?_
      intro m3 I4 W5
      have F6 : Fr l_175 0 0 g μ m3 := F0.w W5 gA0 rfl
      refine w_t (np := 6) (l2 := [some (eR a0), some (eI (1))]) (s2 := [eI (-1)]) rfl rfl rfl ?_
      refine b_ri rfl rfl ?_
      show ex_q (dt_fg L ρ) rc (d + 6, (175, 15, [some (eR a0), some (eI (a1)), some (eI (a2))], [eI (-1)]), f :: F, m3)
      exact b_ri rfl rfl (K g m3 (-1) I4.re I4 (F6.up rfl rfl) (by decide))
def l_176 : List Nat := [268, 270, 265, 8971, 8972, 8973, 8974, 8975, 8968, 8969, 8970, 9216, 9472, 9728]
theorem s_176 {L : Nat} {ρ : Nat → Int} {rc : eQ} {d : Nat} {f : eFr} {F : List eFr} {μ : eM} {g : Nat → Nat} {a0 : Nat} {a1 : Int} {a2 : Int} {a3 : Int} (hI : SI g μ) (gA0 : g a0 = 1) (bA1 : -2147483648 ≤ a1 ∧ a1 ≤ 2147483647) (bA2 : -2147483648 ≤ a2 ∧ a2 ≤ 2147483647) (bA3 : -2147483648 ≤ a3 ∧ a3 ≤ 2147483647) (K : ∀ (g2 : Nat → Nat) (μ2 : eM) (v : Int), GE g g2 → SI g2 μ2 → Fr l_176 7 8159 g μ μ2 → (-2147483648 ≤ v ∧ v ≤ 2147483647) → ex_q (dt_fg L ρ) rc (d + 7, (f.1, f.2.1, f.2.2.1, eI v :: f.2.2.2), F, μ2)) : ex_q (dt_fg L ρ) rc (d + 6, (176, 0, [some (eR a0), some (eI (a1)), some (eI (a2)), some (eI (a3)), none], []), f :: F, μ) := by
  have F0 : Fr l_176 0 0 g μ μ := Fr.r
  refine w_t (np := 1) (l2 := [some (eR a0), some (eI (a1)), some (eI (a2)), some (eI (a3)), none]) (s2 := [eI (a2)]) rfl rfl rfl ?_
  refine b_ilt (t1 := 18) (t2 := 4) rfl rfl rfl (ev_w_in (by omega) (by omega)) (fun g1 => ?_) (fun g1 => ?_)
  · have b2 : -2147483648 ≤ a2 ∧ a2 ≤ -1 := by omega
    refine w_t (np := 19) (l2 := [some (eR a0), some (eI (a1)), some (eI (a2)), some (eI (a3)), none]) (s2 := [eR a0]) rfl (s_an rfl (pos_g hI gA0 (by decide))) rfl ?_
    refine w_t (np := 20) (l2 := [some (eR a0), some (eI (a1)), some (eI (a2)), some (eI (a3)), none]) (s2 := [eI (1), eR a0]) rfl rfl rfl ?_
    refine w_cw (np := 23) (as := [eI (1)]) (l2 := [some (eR a0), some (eI (1))]) (rest := []) rfl rfl rfl (Nat.ble_eq.mp rfl) rfl rfl rfl (hI.kd gA0 (by decide) (n := 14) rfl) rfl ?_
    refine w_t (np := 1) (l2 := [some (eR a0), some (eI (1))]) (s2 := [eR a0]) rfl (s_an rfl (pos_g hI gA0 (by decide))) rfl ?_
    refine w_t (np := 2) (l2 := [some (eR a0), some (eI (1))]) (s2 := [eI (1), eR a0]) rfl rfl rfl ?_
    refine j_pf (np := 5) (w := 1) rfl rfl hI gA0 (by decide) (n := 14) rfl rfl (hO_i (lo := -2147483648) (hi := 2147483647) rfl (by decide)) ?_
    intro m2 I3 W4
    have F5 : Fr l_176 0 0 g μ m2 := F0.w W4 gA0 rfl
    refine w_t (np := 6) (l2 := [some (eR a0), some (eI (1))]) (s2 := [eI (-1)]) rfl rfl rfl ?_
    refine b_ri rfl rfl ?_
    show ex_q (dt_fg L ρ) rc (d + 6, (176, 23, [some (eR a0), some (eI (a1)), some (eI (a2)), some (eI (a3)), none], [eI (-1)]), f :: F, m2)
    exact b_ri rfl rfl (K g m2 (-1) I3.re I3 (F5.up rfl rfl) (by decide))
  · have b2 : 0 ≤ a2 ∧ a2 ≤ 2147483647 := by omega
    refine w_t (np := 5) (l2 := [some (eR a0), some (eI (a1)), some (eI (a2)), some (eI (a3)), none]) (s2 := [eI (a2)]) rfl rfl rfl ?_
    refine w_t (np := 6) (l2 := [some (eR a0), some (eI (a1)), some (eI (a2)), some (eI (a3)), none]) (s2 := [eI (1), eI (a2)]) rfl rfl rfl ?_
    refine b_cgt (t1 := 18) (t2 := 9) rfl rfl rfl (ev_w_in (by omega) (by omega)) rfl (fun g2 => ?_) (fun g2 => ?_)
    · have b3 : 2 ≤ a2 ∧ a2 ≤ 2147483647 := by omega
      refine w_t (np := 19) (l2 := [some (eR a0), some (eI (a1)), some (eI (a2)), some (eI (a3)), none]) (s2 := [eR a0]) rfl (s_an rfl (pos_g hI gA0 (by decide))) rfl ?_
      refine w_t (np := 20) (l2 := [some (eR a0), some (eI (a1)), some (eI (a2)), some (eI (a3)), none]) (s2 := [eI (1), eR a0]) rfl rfl rfl ?_
      refine w_cw (np := 23) (as := [eI (1)]) (l2 := [some (eR a0), some (eI (1))]) (rest := []) rfl rfl rfl (Nat.ble_eq.mp rfl) rfl rfl rfl (hI.kd gA0 (by decide) (n := 14) rfl) rfl ?_
      refine w_t (np := 1) (l2 := [some (eR a0), some (eI (1))]) (s2 := [eR a0]) rfl (s_an rfl (pos_g hI gA0 (by decide))) rfl ?_
      refine w_t (np := 2) (l2 := [some (eR a0), some (eI (1))]) (s2 := [eI (1), eR a0]) rfl rfl rfl ?_
      refine j_pf (np := 5) (w := 1) rfl rfl hI gA0 (by decide) (n := 14) rfl rfl (hO_i (lo := -2147483648) (hi := 2147483647) rfl (by decide)) ?_
      intro m3 I4 W5
      have F6 : Fr l_176 0 0 g μ m3 := F0.w W5 gA0 rfl
      refine w_t (np := 6) (l2 := [some (eR a0), some (eI (1))]) (s2 := [eI (-1)]) rfl rfl rfl ?_
      refine b_ri rfl rfl ?_
      show ex_q (dt_fg L ρ) rc (d + 6, (176, 23, [some (eR a0), some (eI (a1)), some (eI (a2)), some (eI (a3)), none], [eI (-1)]), f :: F, m3)
      exact b_ri rfl rfl (K g m3 (-1) I4.re I4 (F6.up rfl rfl) (by decide))
    · have b3 : 0 ≤ a2 ∧ a2 ≤ 1 := by omega
      refine w_t (np := 10) (l2 := [some (eR a0), some (eI (a1)), some (eI (a2)), some (eI (a3)), none]) (s2 := [eI (a3)]) rfl rfl rfl ?_
      refine b_ilt (t1 := 18) (t2 := 13) rfl rfl rfl (ev_w_in (by omega) (by omega)) (fun g3 => ?_) (fun g3 => ?_)
      · have b4 : -2147483648 ≤ a3 ∧ a3 ≤ -1 := by omega
        refine w_t (np := 19) (l2 := [some (eR a0), some (eI (a1)), some (eI (a2)), some (eI (a3)), none]) (s2 := [eR a0]) rfl (s_an rfl (pos_g hI gA0 (by decide))) rfl ?_
        refine w_t (np := 20) (l2 := [some (eR a0), some (eI (a1)), some (eI (a2)), some (eI (a3)), none]) (s2 := [eI (1), eR a0]) rfl rfl rfl ?_
        refine w_cw (np := 23) (as := [eI (1)]) (l2 := [some (eR a0), some (eI (1))]) (rest := []) rfl rfl rfl (Nat.ble_eq.mp rfl) rfl rfl rfl (hI.kd gA0 (by decide) (n := 14) rfl) rfl ?_
        refine w_t (np := 1) (l2 := [some (eR a0), some (eI (1))]) (s2 := [eR a0]) rfl (s_an rfl (pos_g hI gA0 (by decide))) rfl ?_
        refine w_t (np := 2) (l2 := [some (eR a0), some (eI (1))]) (s2 := [eI (1), eR a0]) rfl rfl rfl ?_
        refine j_pf (np := 5) (w := 1) rfl rfl hI gA0 (by decide) (n := 14) rfl rfl (hO_i (lo := -2147483648) (hi := 2147483647) rfl (by decide)) ?_
        intro m4 I5 W6
        have F7 : Fr l_176 0 0 g μ m4 := F0.w W6 gA0 rfl
        refine w_t (np := 6) (l2 := [some (eR a0), some (eI (1))]) (s2 := [eI (-1)]) rfl rfl rfl ?_
        refine b_ri rfl rfl ?_
        show ex_q (dt_fg L ρ) rc (d + 6, (176, 23, [some (eR a0), some (eI (a1)), some (eI (a2)), some (eI (a3)), none], [eI (-1)]), f :: F, m4)
        exact b_ri rfl rfl (K g m4 (-1) I5.re I5 (F7.up rfl rfl) (by decide))
      · have b4 : 0 ≤ a3 ∧ a3 ≤ 2147483647 := by omega
        refine w_t (np := 14) (l2 := [some (eR a0), some (eI (a1)), some (eI (a2)), some (eI (a3)), none]) (s2 := [eI (a3)]) rfl rfl rfl ?_
        refine w_t (np := 15) (l2 := [some (eR a0), some (eI (a1)), some (eI (a2)), some (eI (a3)), none]) (s2 := [eI (1), eI (a3)]) rfl rfl rfl ?_
        refine b_cle (t1 := 24) (t2 := 18) rfl rfl rfl (ev_w_in (by omega) (by omega)) rfl (fun g4 => ?_) (fun g4 => ?_)
        · have b5 : 0 ≤ a3 ∧ a3 ≤ 1 := by omega
          refine w_t (np := 25) (l2 := [some (eR a0), some (eI (a1)), some (eI (a2)), some (eI (a3)), none]) (s2 := [eR a0]) rfl (s_an rfl (pos_g hI gA0 (by decide))) rfl ?_
          refine j_gr (np := 28) rfl rfl hI gA0 (by decide) (n := 14) rfl rfl rfl ?_
          intro v5 e6 b7 z8
          rcases hor2 b7 with b7 | b7
          · refine w_t (np := 29) (l2 := [some (eR a0), some (eI (a1)), some (eI (a2)), some (eI (a3)), none]) (s2 := [eI (a1), eR v5]) rfl rfl rfl ?_
            refine w_cw (np := 32) (as := [eI (a1)]) (l2 := [some (eR v5), some (eI (a1))]) (rest := []) rfl rfl rfl (Nat.ble_eq.mp rfl) rfl rfl rfl (hI.kd b7 (by decide) (n := 8) rfl) rfl ?_
            refine w_t (np := 1) (l2 := [some (eR v5), some (eI (a1))]) (s2 := [eI (a1)]) rfl rfl rfl ?_
            refine b_ilt (t1 := 12) (t2 := 4) rfl rfl rfl (ev_w_in (by omega) (by omega)) (fun g9 => ?_) (fun g9 => ?_)
            · have b10 : -2147483648 ≤ a1 ∧ a1 ≤ -1 := by omega
              refine w_t (np := 13) (l2 := [some (eR v5), some (eI (a1))]) (s2 := [eI (1)]) rfl rfl rfl ?_
              refine w_go (t1 := 17) rfl rfl ?_
              refine b_rz rfl rfl (Or.inr rfl) ?_
              show ex_q (dt_fg L ρ) rc (d + 6, (176, 32, [some (eR a0), some (eI (a1)), some (eI (a2)), some (eI (a3)), none], [eI (1)]), f :: F, μ)
              refine b_ieq (t1 := 41) (t2 := 35) rfl rfl rfl rfl (fun g10 => absurd g10 (by decide)) (fun g10 => ?_)
              refine w_t (np := 36) (l2 := [some (eR a0), some (eI (a1)), some (eI (a2)), some (eI (a3)), none]) (s2 := [eR a0]) rfl (s_an rfl (pos_g hI gA0 (by decide))) rfl ?_
              refine w_t (np := 37) (l2 := [some (eR a0), some (eI (a1)), some (eI (a2)), some (eI (a3)), none]) (s2 := [eI (2), eR a0]) rfl rfl rfl ?_
              refine w_cw (np := 40) (as := [eI (2)]) (l2 := [some (eR a0), some (eI (2))]) (rest := []) rfl rfl rfl (Nat.ble_eq.mp rfl) rfl rfl rfl (hI.kd gA0 (by decide) (n := 14) rfl) rfl ?_
              refine w_t (np := 1) (l2 := [some (eR a0), some (eI (2))]) (s2 := [eR a0]) rfl (s_an rfl (pos_g hI gA0 (by decide))) rfl ?_
              refine w_t (np := 2) (l2 := [some (eR a0), some (eI (2))]) (s2 := [eI (2), eR a0]) rfl rfl rfl ?_
              refine j_pf (np := 5) (w := 2) rfl rfl hI gA0 (by decide) (n := 14) rfl rfl (hO_i (lo := -2147483648) (hi := 2147483647) rfl (by decide)) ?_
              intro m11 I12 W13
              have F14 : Fr l_176 0 0 g μ m11 := F0.w W13 gA0 rfl
              refine w_t (np := 6) (l2 := [some (eR a0), some (eI (2))]) (s2 := [eI (-1)]) rfl rfl rfl ?_
              refine b_ri rfl rfl ?_
              show ex_q (dt_fg L ρ) rc (d + 6, (176, 40, [some (eR a0), some (eI (a1)), some (eI (a2)), some (eI (a3)), none], [eI (-1)]), f :: F, m11)
              exact b_ri rfl rfl (K g m11 (-1) I12.re I12 (F14.up rfl rfl) (by decide))
            · have b10 : 0 ≤ a1 ∧ a1 ≤ 2147483647 := by omega
              refine w_t (np := 5) (l2 := [some (eR v5), some (eI (a1))]) (s2 := [eI (a1)]) rfl rfl rfl ?_
              refine w_t (np := 6) (l2 := [some (eR v5), some (eI (a1))]) (s2 := [eR v5, eI (a1)]) rfl (s_an rfl (pos_g hI b7 (by decide))) rfl ?_
              refine j_gi (np := 9) rfl rfl rfl hI b7 (by decide) (n := 8) rfl rfl (lo := 0) (hi := 50) rfl ?_
              intro v10 e11 b12
              refine b_clt (t1 := 16) (t2 := 12) rfl rfl rfl (ev_w_in (by omega) (by omega)) (ev_w_in (by omega) (by omega)) (fun g13 => ?_) (fun g13 => ?_)
              · have b14 : 0 ≤ a1 ∧ a1 ≤ 49 := by omega
                have b15 : 1 ≤ v10 ∧ v10 ≤ 50 := by omega
                refine w_t (np := 17) (l2 := [some (eR v5), some (eI (a1))]) (s2 := [eI (0)]) rfl rfl rfl ?_
                refine b_rz rfl rfl (Or.inl rfl) ?_
                show ex_q (dt_fg L ρ) rc (d + 6, (176, 32, [some (eR a0), some (eI (a1)), some (eI (a2)), some (eI (a3)), none], [eI (0)]), f :: F, μ)
                refine b_ieq (t1 := 41) (t2 := 35) rfl rfl rfl rfl (fun g14 => ?_) (fun g14 => absurd g14 (by decide))
                refine w_t (np := 42) (l2 := [some (eR a0), some (eI (a1)), some (eI (a2)), some (eI (a3)), none]) (s2 := [eR a0]) rfl (s_an rfl (pos_g hI gA0 (by decide))) rfl ?_
                refine w_cw (np := 45) (as := []) (l2 := [some (eR a0)]) (rest := []) rfl rfl rfl (Nat.ble_eq.mp rfl) rfl rfl rfl (hI.kd gA0 (by decide) (n := 14) rfl) rfl ?_
                refine s_209 hI gA0 ?_
                intro g15 m16 v20 E17 I18 F19 b21
                have F22 : Fr l_176 7 8159 g μ m16 := F0.t F19 rfl
                show ex_q (dt_fg L ρ) rc (d + 6, (176, 45, [some (eR a0), some (eI (a1)), some (eI (a2)), some (eI (a3)), none], [eR v20]), f :: F, m16)
                refine w_t (np := 47) (l2 := [some (eR a0), some (eI (a1)), some (eI (a2)), some (eI (a3)), some (eR v20)]) (s2 := []) rfl (s_so (Nat.ble_eq.mp rfl) (pos_g I18 b21 (by decide)) rfl) rfl ?_
                refine w_t (np := 49) (l2 := [some (eR a0), some (eI (a1)), some (eI (a2)), some (eI (a3)), some (eR v20)]) (s2 := [eR v20]) rfl (s_ao rfl (pos_g I18 b21 (by decide))) rfl ?_
                refine w_t (np := 50) (l2 := [some (eR a0), some (eI (a1)), some (eI (a2)), some (eI (a3)), some (eR v20)]) (s2 := [eI (a1), eR v20]) rfl rfl rfl ?_
                refine w_cw (np := 53) (as := [eI (a1)]) (l2 := [some (eR v20), some (eI (a1)), none, none]) (rest := []) rfl rfl rfl (Nat.ble_eq.mp rfl) rfl rfl rfl (I18.kd b21 (by decide) (n := 15) rfl) rfl ?_
                refine s_117 (a1 := a1) I18 b21 (by omega) ?_
                intro v23 b24
                show ex_q (dt_fg L ρ) rc (d + 6, (176, 53, [some (eR a0), some (eI (a1)), some (eI (a2)), some (eI (a3)), some (eR v20)], [eI (v23)]), f :: F, m16)
                refine b_ige (t1 := 62) (t2 := 56) rfl rfl rfl (ev_w_in (by omega) (by omega)) (fun g25 => ?_) (fun g25 => ?_)
                · have b26 : 0 ≤ v23 ∧ v23 ≤ 889 := by omega
                  refine w_t (np := 64) (l2 := [some (eR a0), some (eI (a1)), some (eI (a2)), some (eI (a3)), some (eR v20)]) (s2 := [eR v20]) rfl (s_ao rfl (pos_g I18 b21 (by decide))) rfl ?_
                  refine w_t (np := 65) (l2 := [some (eR a0), some (eI (a1)), some (eI (a2)), some (eI (a3)), some (eR v20)]) (s2 := [eI (a1), eR v20]) rfl rfl rfl ?_
                  refine w_t (np := 66) (l2 := [some (eR a0), some (eI (a1)), some (eI (a2)), some (eI (a3)), some (eR v20)]) (s2 := [eI (a2), eI (a1), eR v20]) rfl rfl rfl ?_
                  refine w_cw (np := 69) (as := [eI (a1), eI (a2)]) (l2 := [some (eR v20), some (eI (a1)), some (eI (a2)), none]) (rest := []) rfl rfl rfl (Nat.ble_eq.mp rfl) rfl rfl rfl (I18.kd b21 (by decide) (n := 15) rfl) rfl ?_
                  refine s_120 (a1 := a1) (a2 := a2) I18 b21 (by omega) (by omega) ?_
                  intro m26 I27 F28
                  have F29 : Fr l_176 7 8159 g μ m26 := F22.t3 E17 F28 rfl
                  show ex_q (dt_fg L ρ) rc (d + 6, (176, 69, [some (eR a0), some (eI (a1)), some (eI (a2)), some (eI (a3)), some (eR v20)], []), f :: F, m26)
                  refine w_t (np := 70) (l2 := [some (eR a0), some (eI (a1)), some (eI (a2)), some (eI (a3)), some (eR v20)]) (s2 := [eR a0]) rfl (s_an rfl (pos_g I27 (E17.g gA0 (by decide)) (by decide))) rfl ?_
                  refine w_t (np := 71) (l2 := [some (eR a0), some (eI (a1)), some (eI (a2)), some (eI (a3)), some (eR v20)]) (s2 := [eI (a3), eR a0]) rfl rfl rfl ?_
                  refine b_ine (t1 := 82) (t2 := 74) rfl rfl rfl (ev_w_in (by omega) (by omega)) (fun g30 => ?_) (fun g30 => ?_)
                  · have b31 : 1 ≤ a3 ∧ a3 ≤ 1 := by omega
                    refine w_t (np := 84) (l2 := [some (eR a0), some (eI (a1)), some (eI (a2)), some (eI (a3)), some (eR v20)]) (s2 := [eR v20, eR a0]) rfl (s_ao rfl (pos_g I27 b21 (by decide))) rfl ?_
                    refine j_gi (np := 87) rfl rfl rfl I27 b21 (by decide) (n := 15) rfl rfl (lo := -2147483648) (hi := 2147483647) rfl ?_
                    intro v31 e32 b33
                    refine w_cw (np := 90) (as := [eI (v31)]) (l2 := [some (eR a0), some (eI (v31))]) (rest := []) rfl rfl rfl (Nat.ble_eq.mp rfl) rfl rfl rfl (I27.kd (E17.g gA0 (by decide)) (by decide) (n := 14) rfl) rfl ?_
                    refine w_t (np := 1) (l2 := [some (eR a0), some (eI (v31))]) (s2 := [eR a0]) rfl (s_an rfl (pos_g I27 (E17.g gA0 (by decide)) (by decide))) rfl ?_
                    refine w_t (np := 2) (l2 := [some (eR a0), some (eI (v31))]) (s2 := [eI (0), eR a0]) rfl rfl rfl ?_
                    refine j_pf (np := 5) (w := 0) rfl rfl I27 (E17.g gA0 (by decide)) (by decide) (n := 14) rfl rfl (hO_i (lo := -2147483648) (hi := 2147483647) rfl (by decide)) ?_
                    intro m34 I35 W36
                    have F37 : Fr l_176 7 8159 g μ m34 := F29.w3 E17 W36 (E17.g gA0 (by decide)) rfl
                    refine w_t (np := 6) (l2 := [some (eR a0), some (eI (v31))]) (s2 := [eI (v31)]) rfl rfl rfl ?_
                    refine b_ri rfl rfl ?_
                    show ex_q (dt_fg L ρ) rc (d + 6, (176, 90, [some (eR a0), some (eI (a1)), some (eI (a2)), some (eI (a3)), some (eR v20)], [eI (v31)]), f :: F, m34)
                    exact b_ri rfl rfl (K g15 m34 (v31) E17 I35 F37 (by omega))
                  · have b31 : 0 ≤ a3 ∧ a3 ≤ 0 := by omega
                    refine w_t (np := 76) (l2 := [some (eR a0), some (eI (a1)), some (eI (a2)), some (eI (a3)), some (eR v20)]) (s2 := [eR v20, eR a0]) rfl (s_ao rfl (pos_g I27 b21 (by decide))) rfl ?_
                    refine j_gi (np := 79) rfl rfl rfl I27 b21 (by decide) (n := 15) rfl rfl (lo := -2147483648) (hi := 2147483647) rfl ?_
                    intro v31 e32 b33
                    refine w_go (t1 := 87) rfl rfl ?_
                    refine w_cw (np := 90) (as := [eI (v31)]) (l2 := [some (eR a0), some (eI (v31))]) (rest := []) rfl rfl rfl (Nat.ble_eq.mp rfl) rfl rfl rfl (I27.kd (E17.g gA0 (by decide)) (by decide) (n := 14) rfl) rfl ?_
                    refine w_t (np := 1) (l2 := [some (eR a0), some (eI (v31))]) (s2 := [eR a0]) rfl (s_an rfl (pos_g I27 (E17.g gA0 (by decide)) (by decide))) rfl ?_
                    refine w_t (np := 2) (l2 := [some (eR a0), some (eI (v31))]) (s2 := [eI (0), eR a0]) rfl rfl rfl ?_
                    refine j_pf (np := 5) (w := 0) rfl rfl I27 (E17.g gA0 (by decide)) (by decide) (n := 14) rfl rfl (hO_i (lo := -2147483648) (hi := 2147483647) rfl (by decide)) ?_
                    intro m34 I35 W36
                    have F37 : Fr l_176 7 8159 g μ m34 := F29.w3 E17 W36 (E17.g gA0 (by decide)) rfl
                    refine w_t (np := 6) (l2 := [some (eR a0), some (eI (v31))]) (s2 := [eI (v31)]) rfl rfl rfl ?_
                    refine b_ri rfl rfl ?_
                    show ex_q (dt_fg L ρ) rc (d + 6, (176, 90, [some (eR a0), some (eI (a1)), some (eI (a2)), some (eI (a3)), some (eR v20)], [eI (v31)]), f :: F, m34)
                    exact b_ri rfl rfl (K g15 m34 (v31) E17 I35 F37 (by omega))
                · have b26 : -1 ≤ v23 ∧ v23 ≤ -1 := by omega
                  refine w_t (np := 57) (l2 := [some (eR a0), some (eI (a1)), some (eI (a2)), some (eI (a3)), some (eR v20)]) (s2 := [eR a0]) rfl (s_an rfl (pos_g I18 (E17.g gA0 (by decide)) (by decide))) rfl ?_
                  refine w_t (np := 58) (l2 := [some (eR a0), some (eI (a1)), some (eI (a2)), some (eI (a3)), some (eR v20)]) (s2 := [eI (5), eR a0]) rfl rfl rfl ?_
                  refine w_cw (np := 61) (as := [eI (5)]) (l2 := [some (eR a0), some (eI (5))]) (rest := []) rfl rfl rfl (Nat.ble_eq.mp rfl) rfl rfl rfl (I18.kd (E17.g gA0 (by decide)) (by decide) (n := 14) rfl) rfl ?_
                  refine w_t (np := 1) (l2 := [some (eR a0), some (eI (5))]) (s2 := [eR a0]) rfl (s_an rfl (pos_g I18 (E17.g gA0 (by decide)) (by decide))) rfl ?_
                  refine w_t (np := 2) (l2 := [some (eR a0), some (eI (5))]) (s2 := [eI (5), eR a0]) rfl rfl rfl ?_
                  refine j_pf (np := 5) (w := 5) rfl rfl I18 (E17.g gA0 (by decide)) (by decide) (n := 14) rfl rfl (hO_i (lo := -2147483648) (hi := 2147483647) rfl (by decide)) ?_
                  intro m26 I27 W28
                  have F29 : Fr l_176 7 8159 g μ m26 := F22.w3 E17 W28 (E17.g gA0 (by decide)) rfl
                  refine w_t (np := 6) (l2 := [some (eR a0), some (eI (5))]) (s2 := [eI (-1)]) rfl rfl rfl ?_
                  refine b_ri rfl rfl ?_
                  show ex_q (dt_fg L ρ) rc (d + 6, (176, 61, [some (eR a0), some (eI (a1)), some (eI (a2)), some (eI (a3)), some (eR v20)], [eI (-1)]), f :: F, m26)
                  exact b_ri rfl rfl (K g15 m26 (-1) E17 I27 F29 (by decide))
              · refine w_t (np := 13) (l2 := [some (eR v5), some (eI (a1))]) (s2 := [eI (1)]) rfl rfl rfl ?_
                refine w_go (t1 := 17) rfl rfl ?_
                refine b_rz rfl rfl (Or.inr rfl) ?_
                show ex_q (dt_fg L ρ) rc (d + 6, (176, 32, [some (eR a0), some (eI (a1)), some (eI (a2)), some (eI (a3)), none], [eI (1)]), f :: F, μ)
                refine b_ieq (t1 := 41) (t2 := 35) rfl rfl rfl rfl (fun g14 => absurd g14 (by decide)) (fun g14 => ?_)
                refine w_t (np := 36) (l2 := [some (eR a0), some (eI (a1)), some (eI (a2)), some (eI (a3)), none]) (s2 := [eR a0]) rfl (s_an rfl (pos_g hI gA0 (by decide))) rfl ?_
                refine w_t (np := 37) (l2 := [some (eR a0), some (eI (a1)), some (eI (a2)), some (eI (a3)), none]) (s2 := [eI (2), eR a0]) rfl rfl rfl ?_
                refine w_cw (np := 40) (as := [eI (2)]) (l2 := [some (eR a0), some (eI (2))]) (rest := []) rfl rfl rfl (Nat.ble_eq.mp rfl) rfl rfl rfl (hI.kd gA0 (by decide) (n := 14) rfl) rfl ?_
                refine w_t (np := 1) (l2 := [some (eR a0), some (eI (2))]) (s2 := [eR a0]) rfl (s_an rfl (pos_g hI gA0 (by decide))) rfl ?_
                refine w_t (np := 2) (l2 := [some (eR a0), some (eI (2))]) (s2 := [eI (2), eR a0]) rfl rfl rfl ?_
                refine j_pf (np := 5) (w := 2) rfl rfl hI gA0 (by decide) (n := 14) rfl rfl (hO_i (lo := -2147483648) (hi := 2147483647) rfl (by decide)) ?_
                intro m15 I16 W17
                have F18 : Fr l_176 0 0 g μ m15 := F0.w W17 gA0 rfl
                refine w_t (np := 6) (l2 := [some (eR a0), some (eI (2))]) (s2 := [eI (-1)]) rfl rfl rfl ?_
                refine b_ri rfl rfl ?_
                show ex_q (dt_fg L ρ) rc (d + 6, (176, 40, [some (eR a0), some (eI (a1)), some (eI (a2)), some (eI (a3)), none], [eI (-1)]), f :: F, m15)
                exact b_ri rfl rfl (K g m15 (-1) I16.re I16 (F18.up rfl rfl) (by decide))
          · refine w_t (np := 29) (l2 := [some (eR a0), some (eI (a1)), some (eI (a2)), some (eI (a3)), none]) (s2 := [eI (a1), eR v5]) rfl rfl rfl ?_
            refine w_cw (np := 32) (as := [eI (a1)]) (l2 := [some (eR v5), some (eI (a1))]) (rest := []) rfl rfl rfl (Nat.ble_eq.mp rfl) rfl rfl rfl (hI.kd b7 (by decide) (n := 8) rfl) rfl ?_
            refine w_t (np := 1) (l2 := [some (eR v5), some (eI (a1))]) (s2 := [eI (a1)]) rfl rfl rfl ?_
            refine b_ilt (t1 := 12) (t2 := 4) rfl rfl rfl (ev_w_in (by omega) (by omega)) (fun g9 => ?_) (fun g9 => ?_)
            · have b10 : -2147483648 ≤ a1 ∧ a1 ≤ -1 := by omega
              refine w_t (np := 13) (l2 := [some (eR v5), some (eI (a1))]) (s2 := [eI (1)]) rfl rfl rfl ?_
              refine w_go (t1 := 17) rfl rfl ?_
              refine b_rz rfl rfl (Or.inr rfl) ?_
              show ex_q (dt_fg L ρ) rc (d + 6, (176, 32, [some (eR a0), some (eI (a1)), some (eI (a2)), some (eI (a3)), none], [eI (1)]), f :: F, μ)
              refine b_ieq (t1 := 41) (t2 := 35) rfl rfl rfl rfl (fun g10 => absurd g10 (by decide)) (fun g10 => ?_)
              refine w_t (np := 36) (l2 := [some (eR a0), some (eI (a1)), some (eI (a2)), some (eI (a3)), none]) (s2 := [eR a0]) rfl (s_an rfl (pos_g hI gA0 (by decide))) rfl ?_
              refine w_t (np := 37) (l2 := [some (eR a0), some (eI (a1)), some (eI (a2)), some (eI (a3)), none]) (s2 := [eI (2), eR a0]) rfl rfl rfl ?_
              refine w_cw (np := 40) (as := [eI (2)]) (l2 := [some (eR a0), some (eI (2))]) (rest := []) rfl rfl rfl (Nat.ble_eq.mp rfl) rfl rfl rfl (hI.kd gA0 (by decide) (n := 14) rfl) rfl ?_
              refine w_t (np := 1) (l2 := [some (eR a0), some (eI (2))]) (s2 := [eR a0]) rfl (s_an rfl (pos_g hI gA0 (by decide))) rfl ?_
              refine w_t (np := 2) (l2 := [some (eR a0), some (eI (2))]) (s2 := [eI (2), eR a0]) rfl rfl rfl ?_
              refine j_pf (np := 5) (w := 2) rfl rfl hI gA0 (by decide) (n := 14) rfl rfl (hO_i (lo := -2147483648) (hi := 2147483647) rfl (by decide)) ?_
              intro m11 I12 W13
              have F14 : Fr l_176 0 0 g μ m11 := F0.w W13 gA0 rfl
              refine w_t (np := 6) (l2 := [some (eR a0), some (eI (2))]) (s2 := [eI (-1)]) rfl rfl rfl ?_
              refine b_ri rfl rfl ?_
              show ex_q (dt_fg L ρ) rc (d + 6, (176, 40, [some (eR a0), some (eI (a1)), some (eI (a2)), some (eI (a3)), none], [eI (-1)]), f :: F, m11)
              exact b_ri rfl rfl (K g m11 (-1) I12.re I12 (F14.up rfl rfl) (by decide))
            · have b10 : 0 ≤ a1 ∧ a1 ≤ 2147483647 := by omega
              refine w_t (np := 5) (l2 := [some (eR v5), some (eI (a1))]) (s2 := [eI (a1)]) rfl rfl rfl ?_
              refine w_t (np := 6) (l2 := [some (eR v5), some (eI (a1))]) (s2 := [eR v5, eI (a1)]) rfl (s_an rfl (pos_g hI b7 (by decide))) rfl ?_
              refine j_gi (np := 9) rfl rfl rfl hI b7 (by decide) (n := 8) rfl rfl (lo := 0) (hi := 890) rfl ?_
              intro v10 e11 b12
              refine b_clt (t1 := 16) (t2 := 12) rfl rfl rfl (ev_w_in (by omega) (by omega)) (ev_w_in (by omega) (by omega)) (fun g13 => ?_) (fun g13 => ?_)
              · have b14 : 0 ≤ a1 ∧ a1 ≤ 889 := by omega
                have b15 : 1 ≤ v10 ∧ v10 ≤ 890 := by omega
                refine w_t (np := 17) (l2 := [some (eR v5), some (eI (a1))]) (s2 := [eI (0)]) rfl rfl rfl ?_
                refine b_rz rfl rfl (Or.inl rfl) ?_
                show ex_q (dt_fg L ρ) rc (d + 6, (176, 32, [some (eR a0), some (eI (a1)), some (eI (a2)), some (eI (a3)), none], [eI (0)]), f :: F, μ)
                refine b_ieq (t1 := 41) (t2 := 35) rfl rfl rfl rfl (fun g14 => ?_) (fun g14 => absurd g14 (by decide))
                refine w_t (np := 42) (l2 := [some (eR a0), some (eI (a1)), some (eI (a2)), some (eI (a3)), none]) (s2 := [eR a0]) rfl (s_an rfl (pos_g hI gA0 (by decide))) rfl ?_
                refine w_cw (np := 45) (as := []) (l2 := [some (eR a0)]) (rest := []) rfl rfl rfl (Nat.ble_eq.mp rfl) rfl rfl rfl (hI.kd gA0 (by decide) (n := 14) rfl) rfl ?_
                refine s_209 hI gA0 ?_
                intro g15 m16 v20 E17 I18 F19 b21
                have F22 : Fr l_176 7 8159 g μ m16 := F0.t F19 rfl
                show ex_q (dt_fg L ρ) rc (d + 6, (176, 45, [some (eR a0), some (eI (a1)), some (eI (a2)), some (eI (a3)), none], [eR v20]), f :: F, m16)
                refine w_t (np := 47) (l2 := [some (eR a0), some (eI (a1)), some (eI (a2)), some (eI (a3)), some (eR v20)]) (s2 := []) rfl (s_so (Nat.ble_eq.mp rfl) (pos_g I18 b21 (by decide)) rfl) rfl ?_
                refine w_t (np := 49) (l2 := [some (eR a0), some (eI (a1)), some (eI (a2)), some (eI (a3)), some (eR v20)]) (s2 := [eR v20]) rfl (s_ao rfl (pos_g I18 b21 (by decide))) rfl ?_
                refine w_t (np := 50) (l2 := [some (eR a0), some (eI (a1)), some (eI (a2)), some (eI (a3)), some (eR v20)]) (s2 := [eI (a1), eR v20]) rfl rfl rfl ?_
                refine w_cw (np := 53) (as := [eI (a1)]) (l2 := [some (eR v20), some (eI (a1)), none, none]) (rest := []) rfl rfl rfl (Nat.ble_eq.mp rfl) rfl rfl rfl (I18.kd b21 (by decide) (n := 15) rfl) rfl ?_
                refine s_117 (a1 := a1) I18 b21 (by omega) ?_
                intro v23 b24
                show ex_q (dt_fg L ρ) rc (d + 6, (176, 53, [some (eR a0), some (eI (a1)), some (eI (a2)), some (eI (a3)), some (eR v20)], [eI (v23)]), f :: F, m16)
                refine b_ige (t1 := 62) (t2 := 56) rfl rfl rfl (ev_w_in (by omega) (by omega)) (fun g25 => ?_) (fun g25 => ?_)
                · have b26 : 0 ≤ v23 ∧ v23 ≤ 889 := by omega
                  refine w_t (np := 64) (l2 := [some (eR a0), some (eI (a1)), some (eI (a2)), some (eI (a3)), some (eR v20)]) (s2 := [eR v20]) rfl (s_ao rfl (pos_g I18 b21 (by decide))) rfl ?_
                  refine w_t (np := 65) (l2 := [some (eR a0), some (eI (a1)), some (eI (a2)), some (eI (a3)), some (eR v20)]) (s2 := [eI (a1), eR v20]) rfl rfl rfl ?_
                  refine w_t (np := 66) (l2 := [some (eR a0), some (eI (a1)), some (eI (a2)), some (eI (a3)), some (eR v20)]) (s2 := [eI (a2), eI (a1), eR v20]) rfl rfl rfl ?_
                  refine w_cw (np := 69) (as := [eI (a1), eI (a2)]) (l2 := [some (eR v20), some (eI (a1)), some (eI (a2)), none]) (rest := []) rfl rfl rfl (Nat.ble_eq.mp rfl) rfl rfl rfl (I18.kd b21 (by decide) (n := 15) rfl) rfl ?_
                  refine s_120 (a1 := a1) (a2 := a2) I18 b21 (by omega) (by omega) ?_
                  intro m26 I27 F28
                  have F29 : Fr l_176 7 8159 g μ m26 := F22.t3 E17 F28 rfl
                  show ex_q (dt_fg L ρ) rc (d + 6, (176, 69, [some (eR a0), some (eI (a1)), some (eI (a2)), some (eI (a3)), some (eR v20)], []), f :: F, m26)
                  refine w_t (np := 70) (l2 := [some (eR a0), some (eI (a1)), some (eI (a2)), some (eI (a3)), some (eR v20)]) (s2 := [eR a0]) rfl (s_an rfl (pos_g I27 (E17.g gA0 (by decide)) (by decide))) rfl ?_
                  refine w_t (np := 71) (l2 := [some (eR a0), some (eI (a1)), some (eI (a2)), some (eI (a3)), some (eR v20)]) (s2 := [eI (a3), eR a0]) rfl rfl rfl ?_
                  refine b_ine (t1 := 82) (t2 := 74) rfl rfl rfl (ev_w_in (by omega) (by omega)) (fun g30 => ?_) (fun g30 => ?_)
                  · have b31 : 1 ≤ a3 ∧ a3 ≤ 1 := by omega
                    refine w_t (np := 84) (l2 := [some (eR a0), some (eI (a1)), some (eI (a2)), some (eI (a3)), some (eR v20)]) (s2 := [eR v20, eR a0]) rfl (s_ao rfl (pos_g I27 b21 (by decide))) rfl ?_
                    refine j_gi (np := 87) rfl rfl rfl I27 b21 (by decide) (n := 15) rfl rfl (lo := -2147483648) (hi := 2147483647) rfl ?_
                    intro v31 e32 b33
                    refine w_cw (np := 90) (as := [eI (v31)]) (l2 := [some (eR a0), some (eI (v31))]) (rest := []) rfl rfl rfl (Nat.ble_eq.mp rfl) rfl rfl rfl (I27.kd (E17.g gA0 (by decide)) (by decide) (n := 14) rfl) rfl ?_
                    refine w_t (np := 1) (l2 := [some (eR a0), some (eI (v31))]) (s2 := [eR a0]) rfl (s_an rfl (pos_g I27 (E17.g gA0 (by decide)) (by decide))) rfl ?_
                    refine w_t (np := 2) (l2 := [some (eR a0), some (eI (v31))]) (s2 := [eI (0), eR a0]) rfl rfl rfl ?_
                    refine j_pf (np := 5) (w := 0) rfl rfl I27 (E17.g gA0 (by decide)) (by decide) (n := 14) rfl rfl (hO_i (lo := -2147483648) (hi := 2147483647) rfl (by decide)) ?_
                    intro m34 I35 W36
                    have F37 : Fr l_176 7 8159 g μ m34 := F29.w3 E17 W36 (E17.g gA0 (by decide)) rfl
                    refine w_t (np := 6) (l2 := [some (eR a0), some (eI (v31))]) (s2 := [eI (v31)]) rfl rfl rfl ?_
                    refine b_ri rfl rfl ?_
                    show ex_q (dt_fg L ρ) rc (d + 6, (176, 90, [some (eR a0), some (eI (a1)), some (eI (a2)), some (eI (a3)), some (eR v20)], [eI (v31)]), f :: F, m34)
                    exact b_ri rfl rfl (K g15 m34 (v31) E17 I35 F37 (by omega))
                  · have b31 : 0 ≤ a3 ∧ a3 ≤ 0 := by omega
                    refine w_t (np := 76) (l2 := [some (eR a0), some (eI (a1)), some (eI (a2)), some (eI (a3)), some (eR v20)]) (s2 := [eR v20, eR a0]) rfl (s_ao rfl (pos_g I27 b21 (by decide))) rfl ?_
                    refine j_gi (np := 79) rfl rfl rfl I27 b21 (by decide) (n := 15) rfl rfl (lo := -2147483648) (hi := 2147483647) rfl ?_
                    intro v31 e32 b33
                    refine w_go (t1 := 87) rfl rfl ?_
                    refine w_cw (np := 90) (as := [eI (v31)]) (l2 := [some (eR a0), some (eI (v31))]) (rest := []) rfl rfl rfl (Nat.ble_eq.mp rfl) rfl rfl rfl (I27.kd (E17.g gA0 (by decide)) (by decide) (n := 14) rfl) rfl ?_
                    refine w_t (np := 1) (l2 := [some (eR a0), some (eI (v31))]) (s2 := [eR a0]) rfl (s_an rfl (pos_g I27 (E17.g gA0 (by decide)) (by decide))) rfl ?_
                    refine w_t (np := 2) (l2 := [some (eR a0), some (eI (v31))]) (s2 := [eI (0), eR a0]) rfl rfl rfl ?_
                    refine j_pf (np := 5) (w := 0) rfl rfl I27 (E17.g gA0 (by decide)) (by decide) (n := 14) rfl rfl (hO_i (lo := -2147483648) (hi := 2147483647) rfl (by decide)) ?_
                    intro m34 I35 W36
                    have F37 : Fr l_176 7 8159 g μ m34 := F29.w3 E17 W36 (E17.g gA0 (by decide)) rfl
                    refine w_t (np := 6) (l2 := [some (eR a0), some (eI (v31))]) (s2 := [eI (v31)]) rfl rfl rfl ?_
                    refine b_ri rfl rfl ?_
                    show ex_q (dt_fg L ρ) rc (d + 6, (176, 90, [some (eR a0), some (eI (a1)), some (eI (a2)), some (eI (a3)), some (eR v20)], [eI (v31)]), f :: F, m34)
                    exact b_ri rfl rfl (K g15 m34 (v31) E17 I35 F37 (by omega))
                · have b26 : -1 ≤ v23 ∧ v23 ≤ -1 := by omega
                  refine w_t (np := 57) (l2 := [some (eR a0), some (eI (a1)), some (eI (a2)), some (eI (a3)), some (eR v20)]) (s2 := [eR a0]) rfl (s_an rfl (pos_g I18 (E17.g gA0 (by decide)) (by decide))) rfl ?_
                  refine w_t (np := 58) (l2 := [some (eR a0), some (eI (a1)), some (eI (a2)), some (eI (a3)), some (eR v20)]) (s2 := [eI (5), eR a0]) rfl rfl rfl ?_
                  refine w_cw (np := 61) (as := [eI (5)]) (l2 := [some (eR a0), some (eI (5))]) (rest := []) rfl rfl rfl (Nat.ble_eq.mp rfl) rfl rfl rfl (I18.kd (E17.g gA0 (by decide)) (by decide) (n := 14) rfl) rfl ?_
                  refine w_t (np := 1) (l2 := [some (eR a0), some (eI (5))]) (s2 := [eR a0]) rfl (s_an rfl (pos_g I18 (E17.g gA0 (by decide)) (by decide))) rfl ?_
                  refine w_t (np := 2) (l2 := [some (eR a0), some (eI (5))]) (s2 := [eI (5), eR a0]) rfl rfl rfl ?_
                  refine j_pf (np := 5) (w := 5) rfl rfl I18 (E17.g gA0 (by decide)) (by decide) (n := 14) rfl rfl (hO_i (lo := -2147483648) (hi := 2147483647) rfl (by decide)) ?_
                  intro m26 I27 W28
                  have F29 : Fr l_176 7 8159 g μ m26 := F22.w3 E17 W28 (E17.g gA0 (by decide)) rfl
                  refine w_t (np := 6) (l2 := [some (eR a0), some (eI (5))]) (s2 := [eI (-1)]) rfl rfl rfl ?_
                  refine b_ri rfl rfl ?_
                  show ex_q (dt_fg L ρ) rc (d + 6, (176, 61, [some (eR a0), some (eI (a1)), some (eI (a2)), some (eI (a3)), some (eR v20)], [eI (-1)]), f :: F, m26)
                  exact b_ri rfl rfl (K g15 m26 (-1) E17 I27 F29 (by decide))
              · refine w_t (np := 13) (l2 := [some (eR v5), some (eI (a1))]) (s2 := [eI (1)]) rfl rfl rfl ?_
                refine w_go (t1 := 17) rfl rfl ?_
                refine b_rz rfl rfl (Or.inr rfl) ?_
                show ex_q (dt_fg L ρ) rc (d + 6, (176, 32, [some (eR a0), some (eI (a1)), some (eI (a2)), some (eI (a3)), none], [eI (1)]), f :: F, μ)
                refine b_ieq (t1 := 41) (t2 := 35) rfl rfl rfl rfl (fun g14 => absurd g14 (by decide)) (fun g14 => ?_)
                refine w_t (np := 36) (l2 := [some (eR a0), some (eI (a1)), some (eI (a2)), some (eI (a3)), none]) (s2 := [eR a0]) rfl (s_an rfl (pos_g hI gA0 (by decide))) rfl ?_
                refine w_t (np := 37) (l2 := [some (eR a0), some (eI (a1)), some (eI (a2)), some (eI (a3)), none]) (s2 := [eI (2), eR a0]) rfl rfl rfl ?_
                refine w_cw (np := 40) (as := [eI (2)]) (l2 := [some (eR a0), some (eI (2))]) (rest := []) rfl rfl rfl (Nat.ble_eq.mp rfl) rfl rfl rfl (hI.kd gA0 (by decide) (n := 14) rfl) rfl ?_
                refine w_t (np := 1) (l2 := [some (eR a0), some (eI (2))]) (s2 := [eR a0]) rfl (s_an rfl (pos_g hI gA0 (by decide))) rfl ?_
                refine w_t (np := 2) (l2 := [some (eR a0), some (eI (2))]) (s2 := [eI (2), eR a0]) rfl rfl rfl ?_
                refine j_pf (np := 5) (w := 2) rfl rfl hI gA0 (by decide) (n := 14) rfl rfl (hO_i (lo := -2147483648) (hi := 2147483647) rfl (by decide)) ?_
                intro m15 I16 W17
                have F18 : Fr l_176 0 0 g μ m15 := F0.w W17 gA0 rfl
                refine w_t (np := 6) (l2 := [some (eR a0), some (eI (2))]) (s2 := [eI (-1)]) rfl rfl rfl ?_
                refine b_ri rfl rfl ?_
                show ex_q (dt_fg L ρ) rc (d + 6, (176, 40, [some (eR a0), some (eI (a1)), some (eI (a2)), some (eI (a3)), none], [eI (-1)]), f :: F, m15)
                exact b_ri rfl rfl (K g m15 (-1) I16.re I16 (F18.up rfl rfl) (by decide))
        · have b5 : 2 ≤ a3 ∧ a3 ≤ 2147483647 := by omega
          refine w_t (np := 19) (l2 := [some (eR a0), some (eI (a1)), some (eI (a2)), some (eI (a3)), none]) (s2 := [eR a0]) rfl (s_an rfl (pos_g hI gA0 (by decide))) rfl ?_
          refine w_t (np := 20) (l2 := [some (eR a0), some (eI (a1)), some (eI (a2)), some (eI (a3)), none]) (s2 := [eI (1), eR a0]) rfl rfl rfl ?_
          refine w_cw (np := 23) (as := [eI (1)]) (l2 := [some (eR a0), some (eI (1))]) (rest := []) rfl rfl rfl (Nat.ble_eq.mp rfl) rfl rfl rfl (hI.kd gA0 (by decide) (n := 14) rfl) rfl ?_
          refine w_t (np := 1) (l2 := [some (eR a0), some (eI (1))]) (s2 := [eR a0]) rfl (s_an rfl (pos_g hI gA0 (by decide))) rfl ?_
          refine w_t (np := 2) (l2 := [some (eR a0), some (eI (1))]) (s2 := [eI (1), eR a0]) rfl rfl rfl ?_
          refine j_pf (np := 5) (w := 1) rfl rfl hI gA0 (by decide) (n := 14) rfl rfl (hO_i (lo := -2147483648) (hi := 2147483647) rfl (by decide)) ?_
          intro m5 I6 W7
          have F8 : Fr l_176 0 0 g μ m5 := F0.w W7 gA0 rfl
          refine w_t (np := 6) (l2 := [some (eR a0), some (eI (1))]) (s2 := [eI (-1)]) rfl rfl rfl ?_
          refine b_ri rfl rfl ?_
          show ex_q (dt_fg L ρ) rc (d + 6, (176, 23, [some (eR a0), some (eI (a1)), some (eI (a2)), some (eI (a3)), none], [eI (-1)]), f :: F, m5)
          exact b_ri rfl rfl (K g m5 (-1) I6.re I6 (F8.up rfl rfl) (by decide))
def l_178 : List Nat := [268, 270, 265, 8971, 8972, 8973, 8968, 8969, 8970, 9216, 9472, 9728]
theorem s_178 {L : Nat} {ρ : Nat → Int} {rc : eQ} {d : Nat} {f : eFr} {F : List eFr} {μ : eM} {g : Nat → Nat} {a0 : Nat} {a1 : Int} (hI : SI g μ) (gA0 : g a0 = 1) (bA1 : -2147483648 ≤ a1 ∧ a1 ≤ 2147483647) (K : ∀ (g2 : Nat → Nat) (μ2 : eM) (v : Int), GE g g2 → SI g2 μ2 → Fr l_178 7 8159 g μ μ2 → (-2147483648 ≤ v ∧ v ≤ 2147483647) → ex_q (dt_fg L ρ) rc (d + 7, (f.1, f.2.1, f.2.2.1, eI v :: f.2.2.2), F, μ2)) : ex_q (dt_fg L ρ) rc (d + 6, (178, 0, [some (eR a0), some (eI (a1))], []), f :: F, μ) := by
  have F0 : Fr l_178 0 0 g μ μ := Fr.r
  refine w_t (np := 1) (l2 := [some (eR a0), some (eI (a1))]) (s2 := [eI (a1)]) rfl rfl rfl ?_
  refine b_ilt (t1 := 9) (t2 := 4) rfl rfl rfl (ev_w_in (by omega) (by omega)) (fun g1 => ?_) (fun g1 => ?_)
  · have b2 : -2147483648 ≤ a1 ∧ a1 ≤ -1 := by omega
    refine w_t (np := 10) (l2 := [some (eR a0), some (eI (a1))]) (s2 := [eR a0]) rfl (s_an rfl (pos_g hI gA0 (by decide))) rfl ?_
    refine w_t (np := 11) (l2 := [some (eR a0), some (eI (a1))]) (s2 := [eI (1), eR a0]) rfl rfl rfl ?_
    refine w_cw (np := 14) (as := [eI (1)]) (l2 := [some (eR a0), some (eI (1))]) (rest := []) rfl rfl rfl (Nat.ble_eq.mp rfl) rfl rfl rfl (hI.kd gA0 (by decide) (n := 14) rfl) rfl ?_
    refine w_t (np := 1) (l2 := [some (eR a0), some (eI (1))]) (s2 := [eR a0]) rfl (s_an rfl (pos_g hI gA0 (by decide))) rfl ?_
    refine w_t (np := 2) (l2 := [some (eR a0), some (eI (1))]) (s2 := [eI (1), eR a0]) rfl rfl rfl ?_
    refine j_pf (np := 5) (w := 1) rfl rfl hI gA0 (by decide) (n := 14) rfl rfl (hO_i (lo := -2147483648) (hi := 2147483647) rfl (by decide)) ?_
    intro m2 I3 W4
    have F5 : Fr l_178 0 0 g μ m2 := F0.w W4 gA0 rfl
    refine w_t (np := 6) (l2 := [some (eR a0), some (eI (1))]) (s2 := [eI (-1)]) rfl rfl rfl ?_
    refine b_ri rfl rfl ?_
    show ex_q (dt_fg L ρ) rc (d + 6, (178, 14, [some (eR a0), some (eI (a1))], [eI (-1)]), f :: F, m2)
    exact b_ri rfl rfl (K g m2 (-1) I3.re I3 (F5.up rfl rfl) (by decide))
  · have b2 : 0 ≤ a1 ∧ a1 ≤ 2147483647 := by omega
    refine w_t (np := 5) (l2 := [some (eR a0), some (eI (a1))]) (s2 := [eI (a1)]) rfl rfl rfl ?_
    refine w_t (np := 6) (l2 := [some (eR a0), some (eI (a1))]) (s2 := [eI (4), eI (a1)]) rfl rfl rfl ?_
    refine b_cle (t1 := 15) (t2 := 9) rfl rfl rfl (ev_w_in (by omega) (by omega)) rfl (fun g2 => ?_) (fun g2 => ?_)
    · have b3 : 0 ≤ a1 ∧ a1 ≤ 4 := by omega
      refine w_t (np := 16) (l2 := [some (eR a0), some (eI (a1))]) (s2 := [eR a0]) rfl (s_an rfl (pos_g hI gA0 (by decide))) rfl ?_
      refine w_t (np := 17) (l2 := [some (eR a0), some (eI (a1))]) (s2 := [eR a0, eR a0]) rfl (s_an rfl (pos_g hI gA0 (by decide))) rfl ?_
      refine w_cw (np := 20) (as := []) (l2 := [some (eR a0)]) (rest := [eR a0]) rfl rfl rfl (Nat.ble_eq.mp rfl) rfl rfl rfl (hI.kd gA0 (by decide) (n := 14) rfl) rfl ?_
      refine s_209 hI gA0 ?_
      intro g3 m4 v8 E5 I6 F7 b9
      have F10 : Fr l_178 7 8159 g μ m4 := F0.t F7 rfl
      show ex_q (dt_fg L ρ) rc (d + 6, (178, 20, [some (eR a0), some (eI (a1))], [eR v8, eR a0]), f :: F, m4)
      refine w_t (np := 21) (l2 := [some (eR a0), some (eI (a1))]) (s2 := [eI (a1), eR v8, eR a0]) rfl rfl rfl ?_
      refine w_cw (np := 24) (as := [eI (a1)]) (l2 := [some (eR v8), some (eI (a1)), none, none, none]) (rest := [eR a0]) rfl rfl rfl (Nat.ble_eq.mp rfl) rfl rfl rfl (I6.kd b9 (by decide) (n := 15) rfl) rfl ?_
      refine s_124 (a1 := a1) I6 b9 (by omega) ?_
      intro v11 b12
      show ex_q (dt_fg L ρ) rc (d + 6, (178, 24, [some (eR a0), some (eI (a1))], [eI (v11), eR a0]), f :: F, m4)
      refine w_cw (np := 27) (as := [eI (v11)]) (l2 := [some (eR a0), some (eI (v11))]) (rest := []) rfl rfl rfl (Nat.ble_eq.mp rfl) rfl rfl rfl (I6.kd (E5.g gA0 (by decide)) (by decide) (n := 14) rfl) rfl ?_
      refine w_t (np := 1) (l2 := [some (eR a0), some (eI (v11))]) (s2 := [eR a0]) rfl (s_an rfl (pos_g I6 (E5.g gA0 (by decide)) (by decide))) rfl ?_
      refine w_t (np := 2) (l2 := [some (eR a0), some (eI (v11))]) (s2 := [eI (0), eR a0]) rfl rfl rfl ?_
      refine j_pf (np := 5) (w := 0) rfl rfl I6 (E5.g gA0 (by decide)) (by decide) (n := 14) rfl rfl (hO_i (lo := -2147483648) (hi := 2147483647) rfl (by decide)) ?_
      intro m13 I14 W15
      have F16 : Fr l_178 7 8159 g μ m13 := F10.w3 E5 W15 (E5.g gA0 (by decide)) rfl
      refine w_t (np := 6) (l2 := [some (eR a0), some (eI (v11))]) (s2 := [eI (v11)]) rfl rfl rfl ?_
      refine b_ri rfl rfl ?_
      show ex_q (dt_fg L ρ) rc (d + 6, (178, 27, [some (eR a0), some (eI (a1))], [eI (v11)]), f :: F, m13)
      exact b_ri rfl rfl (K g3 m13 (v11) E5 I14 F16 (by omega))
    · have b3 : 5 ≤ a1 ∧ a1 ≤ 2147483647 := by omega
      refine w_t (np := 10) (l2 := [some (eR a0), some (eI (a1))]) (s2 := [eR a0]) rfl (s_an rfl (pos_g hI gA0 (by decide))) rfl ?_
      refine w_t (np := 11) (l2 := [some (eR a0), some (eI (a1))]) (s2 := [eI (1), eR a0]) rfl rfl rfl ?_
      refine w_cw (np := 14) (as := [eI (1)]) (l2 := [some (eR a0), some (eI (1))]) (rest := []) rfl rfl rfl (Nat.ble_eq.mp rfl) rfl rfl rfl (hI.kd gA0 (by decide) (n := 14) rfl) rfl ?_
      refine w_t (np := 1) (l2 := [some (eR a0), some (eI (1))]) (s2 := [eR a0]) rfl (s_an rfl (pos_g hI gA0 (by decide))) rfl ?_
      refine w_t (np := 2) (l2 := [some (eR a0), some (eI (1))]) (s2 := [eI (1), eR a0]) rfl rfl rfl ?_
      refine j_pf (np := 5) (w := 1) rfl rfl hI gA0 (by decide) (n := 14) rfl rfl (hO_i (lo := -2147483648) (hi := 2147483647) rfl (by decide)) ?_
      intro m3 I4 W5
      have F6 : Fr l_178 0 0 g μ m3 := F0.w W5 gA0 rfl
      refine w_t (np := 6) (l2 := [some (eR a0), some (eI (1))]) (s2 := [eI (-1)]) rfl rfl rfl ?_
      refine b_ri rfl rfl ?_
      show ex_q (dt_fg L ρ) rc (d + 6, (178, 14, [some (eR a0), some (eI (a1))], [eI (-1)]), f :: F, m3)
      exact b_ri rfl rfl (K g m3 (-1) I4.re I4 (F6.up rfl rfl) (by decide))
def l_179 : List Nat := [268, 270, 265, 8971, 8972, 8973, 8968, 8969, 8970, 9216, 9472, 9728]
theorem s_179 {L : Nat} {ρ : Nat → Int} {rc : eQ} {d : Nat} {f : eFr} {F : List eFr} {μ : eM} {g : Nat → Nat} {a0 : Nat} {a1 : Int} (hI : SI g μ) (gA0 : g a0 = 1) (bA1 : -2147483648 ≤ a1 ∧ a1 ≤ 2147483647) (K : ∀ (g2 : Nat → Nat) (μ2 : eM) (v : Int), GE g g2 → SI g2 μ2 → Fr l_179 7 8159 g μ μ2 → (-2147483648 ≤ v ∧ v ≤ 2147483647) → ex_q (dt_fg L ρ) rc (d + 7, (f.1, f.2.1, f.2.2.1, eI v :: f.2.2.2), F, μ2)) : ex_q (dt_fg L ρ) rc (d + 6, (179, 0, [some (eR a0), some (eI (a1))], []), f :: F, μ) := by
  have F0 : Fr l_179 0 0 g μ μ := Fr.r
  refine w_t (np := 1) (l2 := [some (eR a0), some (eI (a1))]) (s2 := [eI (a1)]) rfl rfl rfl ?_
  refine b_ilt (t1 := 9) (t2 := 4) rfl rfl rfl (ev_w_in (by omega) (by omega)) (fun g1 => ?_) (fun g1 => ?_)
  · have b2 : -2147483648 ≤ a1 ∧ a1 ≤ -1 := by omega
    refine w_t (np := 10) (l2 := [some (eR a0), some (eI (a1))]) (s2 := [eR a0]) rfl (s_an rfl (pos_g hI gA0 (by decide))) rfl ?_
    refine w_t (np := 11) (l2 := [some (eR a0), some (eI (a1))]) (s2 := [eI (1), eR a0]) rfl rfl rfl ?_
    refine w_cw (np := 14) (as := [eI (1)]) (l2 := [some (eR a0), some (eI (1))]) (rest := []) rfl rfl rfl (Nat.ble_eq.mp rfl) rfl rfl rfl (hI.kd gA0 (by decide) (n := 14) rfl) rfl ?_
    refine w_t (np := 1) (l2 := [some (eR a0), some (eI (1))]) (s2 := [eR a0]) rfl (s_an rfl (pos_g hI gA0 (by decide))) rfl ?_
    refine w_t (np := 2) (l2 := [some (eR a0), some (eI (1))]) (s2 := [eI (1), eR a0]) rfl rfl rfl ?_
    refine j_pf (np := 5) (w := 1) rfl rfl hI gA0 (by decide) (n := 14) rfl rfl (hO_i (lo := -2147483648) (hi := 2147483647) rfl (by decide)) ?_
    intro m2 I3 W4
    have F5 : Fr l_179 0 0 g μ m2 := F0.w W4 gA0 rfl
    refine w_t (np := 6) (l2 := [some (eR a0), some (eI (1))]) (s2 := [eI (-1)]) rfl rfl rfl ?_
    refine b_ri rfl rfl ?_
    show ex_q (dt_fg L ρ) rc (d + 6, (179, 14, [some (eR a0), some (eI (a1))], [eI (-1)]), f :: F, m2)
    exact b_ri rfl rfl (K g m2 (-1) I3.re I3 (F5.up rfl rfl) (by decide))
  · have b2 : 0 ≤ a1 ∧ a1 ≤ 2147483647 := by omega
    refine w_t (np := 5) (l2 := [some (eR a0), some (eI (a1))]) (s2 := [eI (a1)]) rfl rfl rfl ?_
    refine w_t (np := 6) (l2 := [some (eR a0), some (eI (a1))]) (s2 := [eI (1), eI (a1)]) rfl rfl rfl ?_
    refine b_cle (t1 := 15) (t2 := 9) rfl rfl rfl (ev_w_in (by omega) (by omega)) rfl (fun g2 => ?_) (fun g2 => ?_)
    · have b3 : 0 ≤ a1 ∧ a1 ≤ 1 := by omega
      refine w_t (np := 16) (l2 := [some (eR a0), some (eI (a1))]) (s2 := [eR a0]) rfl (s_an rfl (pos_g hI gA0 (by decide))) rfl ?_
      refine w_t (np := 17) (l2 := [some (eR a0), some (eI (a1))]) (s2 := [eI (a1), eR a0]) rfl rfl rfl ?_
      refine b_ine (t1 := 30) (t2 := 20) rfl rfl rfl (ev_w_in (by omega) (by omega)) (fun g3 => ?_) (fun g3 => ?_)
      · have b4 : 1 ≤ a1 ∧ a1 ≤ 1 := by omega
        refine w_t (np := 31) (l2 := [some (eR a0), some (eI (a1))]) (s2 := [eR a0, eR a0]) rfl (s_an rfl (pos_g hI gA0 (by decide))) rfl ?_
        refine w_cw (np := 34) (as := []) (l2 := [some (eR a0)]) (rest := [eR a0]) rfl rfl rfl (Nat.ble_eq.mp rfl) rfl rfl rfl (hI.kd gA0 (by decide) (n := 14) rfl) rfl ?_
        refine s_209 hI gA0 ?_
        intro g4 m5 v9 E6 I7 F8 b10
        have F11 : Fr l_179 7 8159 g μ m5 := F0.t F8 rfl
        show ex_q (dt_fg L ρ) rc (d + 6, (179, 34, [some (eR a0), some (eI (a1))], [eR v9, eR a0]), f :: F, m5)
        refine j_gi (np := 37) rfl rfl rfl I7 b10 (by decide) (n := 15) rfl rfl (lo := -2147483648) (hi := 2147483647) rfl ?_
        intro v12 e13 b14
        refine w_cw (np := 40) (as := [eI (v12)]) (l2 := [some (eR a0), some (eI (v12))]) (rest := []) rfl rfl rfl (Nat.ble_eq.mp rfl) rfl rfl rfl (I7.kd (E6.g gA0 (by decide)) (by decide) (n := 14) rfl) rfl ?_
        refine w_t (np := 1) (l2 := [some (eR a0), some (eI (v12))]) (s2 := [eR a0]) rfl (s_an rfl (pos_g I7 (E6.g gA0 (by decide)) (by decide))) rfl ?_
        refine w_t (np := 2) (l2 := [some (eR a0), some (eI (v12))]) (s2 := [eI (0), eR a0]) rfl rfl rfl ?_
        refine j_pf (np := 5) (w := 0) rfl rfl I7 (E6.g gA0 (by decide)) (by decide) (n := 14) rfl rfl (hO_i (lo := -2147483648) (hi := 2147483647) rfl (by decide)) ?_
        intro m15 I16 W17
        have F18 : Fr l_179 7 8159 g μ m15 := F11.w3 E6 W17 (E6.g gA0 (by decide)) rfl
        refine w_t (np := 6) (l2 := [some (eR a0), some (eI (v12))]) (s2 := [eI (v12)]) rfl rfl rfl ?_
        refine b_ri rfl rfl ?_
        show ex_q (dt_fg L ρ) rc (d + 6, (179, 40, [some (eR a0), some (eI (a1))], [eI (v12)]), f :: F, m15)
        exact b_ri rfl rfl (K g4 m15 (v12) E6 I16 F18 (by omega))
      · have b4 : 0 ≤ a1 ∧ a1 ≤ 0 := by omega
        refine w_t (np := 21) (l2 := [some (eR a0), some (eI (a1))]) (s2 := [eR a0, eR a0]) rfl (s_an rfl (pos_g hI gA0 (by decide))) rfl ?_
        refine w_cw (np := 24) (as := []) (l2 := [some (eR a0)]) (rest := [eR a0]) rfl rfl rfl (Nat.ble_eq.mp rfl) rfl rfl rfl (hI.kd gA0 (by decide) (n := 14) rfl) rfl ?_
        refine s_209 hI gA0 ?_
        intro g4 m5 v9 E6 I7 F8 b10
        have F11 : Fr l_179 7 8159 g μ m5 := F0.t F8 rfl
        show ex_q (dt_fg L ρ) rc (d + 6, (179, 24, [some (eR a0), some (eI (a1))], [eR v9, eR a0]), f :: F, m5)
        refine j_gi (np := 27) rfl rfl rfl I7 b10 (by decide) (n := 15) rfl rfl (lo := -2147483648) (hi := 2147483647) rfl ?_
        intro v12 e13 b14
        refine w_go (t1 := 37) rfl rfl ?_
        refine w_cw (np := 40) (as := [eI (v12)]) (l2 := [some (eR a0), some (eI (v12))]) (rest := []) rfl rfl rfl (Nat.ble_eq.mp rfl) rfl rfl rfl (I7.kd (E6.g gA0 (by decide)) (by decide) (n := 14) rfl) rfl ?_
        refine w_t (np := 1) (l2 := [some (eR a0), some (eI (v12))]) (s2 := [eR a0]) rfl (s_an rfl (pos_g I7 (E6.g gA0 (by decide)) (by decide))) rfl ?_
        refine w_t (np := 2) (l2 := [some (eR a0), some (eI (v12))]) (s2 := [eI (0), eR a0]) rfl rfl rfl ?_
        refine j_pf (np := 5) (w := 0) rfl rfl I7 (E6.g gA0 (by decide)) (by decide) (n := 14) rfl rfl (hO_i (lo := -2147483648) (hi := 2147483647) rfl (by decide)) ?_
        intro m15 I16 W17
        have F18 : Fr l_179 7 8159 g μ m15 := F11.w3 E6 W17 (E6.g gA0 (by decide)) rfl
        refine w_t (np := 6) (l2 := [some (eR a0), some (eI (v12))]) (s2 := [eI (v12)]) rfl rfl rfl ?_
        refine b_ri rfl rfl ?_
        show ex_q (dt_fg L ρ) rc (d + 6, (179, 40, [some (eR a0), some (eI (a1))], [eI (v12)]), f :: F, m15)
        exact b_ri rfl rfl (K g4 m15 (v12) E6 I16 F18 (by omega))
    · have b3 : 2 ≤ a1 ∧ a1 ≤ 2147483647 := by omega
      refine w_t (np := 10) (l2 := [some (eR a0), some (eI (a1))]) (s2 := [eR a0]) rfl (s_an rfl (pos_g hI gA0 (by decide))) rfl ?_
      refine w_t (np := 11) (l2 := [some (eR a0), some (eI (a1))]) (s2 := [eI (1), eR a0]) rfl rfl rfl ?_
      refine w_cw (np := 14) (as := [eI (1)]) (l2 := [some (eR a0), some (eI (1))]) (rest := []) rfl rfl rfl (Nat.ble_eq.mp rfl) rfl rfl rfl (hI.kd gA0 (by decide) (n := 14) rfl) rfl ?_
      refine w_t (np := 1) (l2 := [some (eR a0), some (eI (1))]) (s2 := [eR a0]) rfl (s_an rfl (pos_g hI gA0 (by decide))) rfl ?_
      refine w_t (np := 2) (l2 := [some (eR a0), some (eI (1))]) (s2 := [eI (1), eR a0]) rfl rfl rfl ?_
      refine j_pf (np := 5) (w := 1) rfl rfl hI gA0 (by decide) (n := 14) rfl rfl (hO_i (lo := -2147483648) (hi := 2147483647) rfl (by decide)) ?_
      intro m3 I4 W5
      have F6 : Fr l_179 0 0 g μ m3 := F0.w W5 gA0 rfl
      refine w_t (np := 6) (l2 := [some (eR a0), some (eI (1))]) (s2 := [eI (-1)]) rfl rfl rfl ?_
      refine b_ri rfl rfl ?_
      show ex_q (dt_fg L ρ) rc (d + 6, (179, 14, [some (eR a0), some (eI (a1))], [eI (-1)]), f :: F, m3)
      exact b_ri rfl rfl (K g m3 (-1) I4.re I4 (F6.up rfl rfl) (by decide))
def l_180 : List Nat := [10760, 10761, 10762, 12032, 11776, 11520, 11264, 11008, 268, 269, 270, 265, 266, 8971, 8972, 8973, 8968, 8969, 8970, 9216, 9472, 9728]
theorem s_180 {L : Nat} {ρ : Nat → Int} {rc : eQ} {d : Nat} {f : eFr} {F : List eFr} {μ : eM} {g : Nat → Nat} {a0 : Nat} {a1 : Int} {a2 : Int} (hI : SI g μ) (gA0 : g a0 = 1) (bA1 : -2147483648 ≤ a1 ∧ a1 ≤ 2147483647) (bA2 : -2147483648 ≤ a2 ∧ a2 ≤ 2147483647) (K : ∀ (g2 : Nat → Nat) (μ2 : eM) (v : Int), GE g g2 → SI g2 μ2 → Fr l_180 13 10281 g μ μ2 → (-2147483648 ≤ v ∧ v ≤ 2147483647) → ex_q (dt_fg L ρ) rc (d + 8, (f.1, f.2.1, f.2.2.1, eI v :: f.2.2.2), F, μ2)) : ex_q (dt_fg L ρ) rc (d + 7, (180, 0, [some (eR a0), some (eI (a1)), some (eI (a2))], []), f :: F, μ) := by
  have F0 : Fr l_180 0 0 g μ μ := Fr.r
  refine w_t (np := 1) (l2 := [some (eR a0), some (eI (a1)), some (eI (a2))]) (s2 := [eI (a2)]) rfl rfl rfl ?_
  refine b_ilt (t1 := 9) (t2 := 4) rfl rfl rfl (ev_w_in (by omega) (by omega)) (fun g1 => ?_) (fun g1 => ?_)
  · have b2 : -2147483648 ≤ a2 ∧ a2 ≤ -1 := by omega
    refine w_t (np := 10) (l2 := [some (eR a0), some (eI (a1)), some (eI (a2))]) (s2 := [eR a0]) rfl (s_an rfl (pos_g hI gA0 (by decide))) rfl ?_
    refine w_t (np := 11) (l2 := [some (eR a0), some (eI (a1)), some (eI (a2))]) (s2 := [eI (1), eR a0]) rfl rfl rfl ?_
    refine w_cw (np := 14) (as := [eI (1)]) (l2 := [some (eR a0), some (eI (1))]) (rest := []) rfl rfl rfl (Nat.ble_eq.mp rfl) rfl rfl rfl (hI.kd gA0 (by decide) (n := 14) rfl) rfl ?_
    refine w_t (np := 1) (l2 := [some (eR a0), some (eI (1))]) (s2 := [eR a0]) rfl (s_an rfl (pos_g hI gA0 (by decide))) rfl ?_
    refine w_t (np := 2) (l2 := [some (eR a0), some (eI (1))]) (s2 := [eI (1), eR a0]) rfl rfl rfl ?_
    refine j_pf (np := 5) (w := 1) rfl rfl hI gA0 (by decide) (n := 14) rfl rfl (hO_i (lo := -2147483648) (hi := 2147483647) rfl (by decide)) ?_
    intro m2 I3 W4
    have F5 : Fr l_180 0 0 g μ m2 := F0.w W4 gA0 rfl
    refine w_t (np := 6) (l2 := [some (eR a0), some (eI (1))]) (s2 := [eI (-1)]) rfl rfl rfl ?_
    refine b_ri rfl rfl ?_
    show ex_q (dt_fg L ρ) rc (d + 7, (180, 14, [some (eR a0), some (eI (a1)), some (eI (a2))], [eI (-1)]), f :: F, m2)
    exact b_ri rfl rfl (K g m2 (-1) I3.re I3 (F5.up rfl rfl) (by decide))
  · have b2 : 0 ≤ a2 ∧ a2 ≤ 2147483647 := by omega
    refine w_t (np := 5) (l2 := [some (eR a0), some (eI (a1)), some (eI (a2))]) (s2 := [eI (a2)]) rfl rfl rfl ?_
    refine w_t (np := 6) (l2 := [some (eR a0), some (eI (a1)), some (eI (a2))]) (s2 := [eI (2), eI (a2)]) rfl rfl rfl ?_
    refine b_cle (t1 := 15) (t2 := 9) rfl rfl rfl (ev_w_in (by omega) (by omega)) rfl (fun g2 => ?_) (fun g2 => ?_)
    · have b3 : 0 ≤ a2 ∧ a2 ≤ 2 := by omega
      refine w_t (np := 16) (l2 := [some (eR a0), some (eI (a1)), some (eI (a2))]) (s2 := [eR a0]) rfl (s_an rfl (pos_g hI gA0 (by decide))) rfl ?_
      refine j_gr (np := 19) rfl rfl hI gA0 (by decide) (n := 14) rfl rfl rfl ?_
      intro v3 e4 b5 z6
      rcases hor2 b5 with b5 | b5
      · refine w_t (np := 20) (l2 := [some (eR a0), some (eI (a1)), some (eI (a2))]) (s2 := [eI (a1), eR v3]) rfl rfl rfl ?_
        refine w_cw (np := 23) (as := [eI (a1)]) (l2 := [some (eR v3), some (eI (a1))]) (rest := []) rfl rfl rfl (Nat.ble_eq.mp rfl) rfl rfl rfl (hI.kd b5 (by decide) (n := 8) rfl) rfl ?_
        refine w_t (np := 1) (l2 := [some (eR v3), some (eI (a1))]) (s2 := [eI (a1)]) rfl rfl rfl ?_
        refine b_ilt (t1 := 12) (t2 := 4) rfl rfl rfl (ev_w_in (by omega) (by omega)) (fun g7 => ?_) (fun g7 => ?_)
        · have b8 : -2147483648 ≤ a1 ∧ a1 ≤ -1 := by omega
          refine w_t (np := 13) (l2 := [some (eR v3), some (eI (a1))]) (s2 := [eI (1)]) rfl rfl rfl ?_
          refine w_go (t1 := 17) rfl rfl ?_
          refine b_rz rfl rfl (Or.inr rfl) ?_
          show ex_q (dt_fg L ρ) rc (d + 7, (180, 23, [some (eR a0), some (eI (a1)), some (eI (a2))], [eI (1)]), f :: F, μ)
          refine b_ieq (t1 := 32) (t2 := 26) rfl rfl rfl rfl (fun g8 => absurd g8 (by decide)) (fun g8 => ?_)
          refine w_t (np := 27) (l2 := [some (eR a0), some (eI (a1)), some (eI (a2))]) (s2 := [eR a0]) rfl (s_an rfl (pos_g hI gA0 (by decide))) rfl ?_
          refine w_t (np := 28) (l2 := [some (eR a0), some (eI (a1)), some (eI (a2))]) (s2 := [eI (2), eR a0]) rfl rfl rfl ?_
          refine w_cw (np := 31) (as := [eI (2)]) (l2 := [some (eR a0), some (eI (2))]) (rest := []) rfl rfl rfl (Nat.ble_eq.mp rfl) rfl rfl rfl (hI.kd gA0 (by decide) (n := 14) rfl) rfl ?_
          refine w_t (np := 1) (l2 := [some (eR a0), some (eI (2))]) (s2 := [eR a0]) rfl (s_an rfl (pos_g hI gA0 (by decide))) rfl ?_
          refine w_t (np := 2) (l2 := [some (eR a0), some (eI (2))]) (s2 := [eI (2), eR a0]) rfl rfl rfl ?_
          refine j_pf (np := 5) (w := 2) rfl rfl hI gA0 (by decide) (n := 14) rfl rfl (hO_i (lo := -2147483648) (hi := 2147483647) rfl (by decide)) ?_
          intro m9 I10 W11
          have F12 : Fr l_180 0 0 g μ m9 := F0.w W11 gA0 rfl
          refine w_t (np := 6) (l2 := [some (eR a0), some (eI (2))]) (s2 := [eI (-1)]) rfl rfl rfl ?_
          refine b_ri rfl rfl ?_
          show ex_q (dt_fg L ρ) rc (d + 7, (180, 31, [some (eR a0), some (eI (a1)), some (eI (a2))], [eI (-1)]), f :: F, m9)
          exact b_ri rfl rfl (K g m9 (-1) I10.re I10 (F12.up rfl rfl) (by decide))
        · have b8 : 0 ≤ a1 ∧ a1 ≤ 2147483647 := by omega
          refine w_t (np := 5) (l2 := [some (eR v3), some (eI (a1))]) (s2 := [eI (a1)]) rfl rfl rfl ?_
          refine w_t (np := 6) (l2 := [some (eR v3), some (eI (a1))]) (s2 := [eR v3, eI (a1)]) rfl (s_an rfl (pos_g hI b5 (by decide))) rfl ?_
          refine j_gi (np := 9) rfl rfl rfl hI b5 (by decide) (n := 8) rfl rfl (lo := 0) (hi := 50) rfl ?_
          intro v8 e9 b10
          refine b_clt (t1 := 16) (t2 := 12) rfl rfl rfl (ev_w_in (by omega) (by omega)) (ev_w_in (by omega) (by omega)) (fun g11 => ?_) (fun g11 => ?_)
          · have b12 : 0 ≤ a1 ∧ a1 ≤ 49 := by omega
            have b13 : 1 ≤ v8 ∧ v8 ≤ 50 := by omega
            refine w_t (np := 17) (l2 := [some (eR v3), some (eI (a1))]) (s2 := [eI (0)]) rfl rfl rfl ?_
            refine b_rz rfl rfl (Or.inl rfl) ?_
            show ex_q (dt_fg L ρ) rc (d + 7, (180, 23, [some (eR a0), some (eI (a1)), some (eI (a2))], [eI (0)]), f :: F, μ)
            refine b_ieq (t1 := 32) (t2 := 26) rfl rfl rfl rfl (fun g12 => ?_) (fun g12 => absurd g12 (by decide))
            refine w_t (np := 33) (l2 := [some (eR a0), some (eI (a1)), some (eI (a2))]) (s2 := [eR a0]) rfl (s_an rfl (pos_g hI gA0 (by decide))) rfl ?_
            refine w_t (np := 34) (l2 := [some (eR a0), some (eI (a1)), some (eI (a2))]) (s2 := [eR a0, eR a0]) rfl (s_an rfl (pos_g hI gA0 (by decide))) rfl ?_
            refine w_cw (np := 37) (as := []) (l2 := [some (eR a0), none]) (rest := [eR a0]) rfl rfl rfl (Nat.ble_eq.mp rfl) rfl rfl rfl (hI.kd gA0 (by decide) (n := 14) rfl) rfl ?_
            refine s_210 hI gA0 ?_
            intro g13 m14 v18 E15 I16 F17 b19
            have F20 : Fr l_180 13 10281 g μ m14 := F0.t F17 rfl
            show ex_q (dt_fg L ρ) rc (d + 7, (180, 37, [some (eR a0), some (eI (a1)), some (eI (a2))], [eR v18, eR a0]), f :: F, m14)
            refine w_t (np := 38) (l2 := [some (eR a0), some (eI (a1)), some (eI (a2))]) (s2 := [eR a0, eR v18, eR a0]) rfl (s_an rfl (pos_g I16 (E15.g gA0 (by decide)) (by decide))) rfl ?_
            refine w_gf (np := 41) (v := eR v3) rfl rfl (I16.kd (E15.g gA0 (by decide)) (by decide) (n := 14) rfl) (by rw [(F17.k e4 gA0 (by decide) rfl)]; rfl) ?_
            refine w_t (np := 42) (l2 := [some (eR a0), some (eI (a1)), some (eI (a2))]) (s2 := [eI (a1), eR v3, eR v18, eR a0]) rfl rfl rfl ?_
            refine w_t (np := 43) (l2 := [some (eR a0), some (eI (a1)), some (eI (a2))]) (s2 := [eI (a2), eI (a1), eR v3, eR v18, eR a0]) rfl rfl rfl ?_
            refine w_cw (np := 46) (as := [eI (a1), eI (a2)]) (l2 := [some (eR v3), some (eI (a1)), some (eI (a2))]) (rest := [eR v18, eR a0]) rfl rfl rfl (Nat.ble_eq.mp rfl) rfl rfl rfl (I16.kd (E15.g b5 (by decide)) (by decide) (n := 8) rfl) rfl ?_
            refine s_21 (a1 := a1) (a2 := a2) I16 (E15.g b5 (by decide)) (by omega) (by omega) ?_
            intro v21 b22
            show ex_q (dt_fg L ρ) rc (d + 7, (180, 46, [some (eR a0), some (eI (a1)), some (eI (a2))], [eI (v21), eR v18, eR a0]), f :: F, m14)
            refine w_cw (np := 49) (as := [eI (v21)]) (l2 := [some (eR v18), some (eI (v21))]) (rest := [eR a0]) rfl rfl rfl (Nat.ble_eq.mp rfl) rfl rfl rfl (I16.kd b19 (by decide) (n := 10) rfl) rfl ?_
            refine s_7 (a1 := v21) I16 b19 (by omega) ?_
            intro v23 b24
            show ex_q (dt_fg L ρ) rc (d + 7, (180, 49, [some (eR a0), some (eI (a1)), some (eI (a2))], [eI (v23), eR a0]), f :: F, m14)
            refine w_cw (np := 52) (as := [eI (v23)]) (l2 := [some (eR a0), some (eI (v23))]) (rest := []) rfl rfl rfl (Nat.ble_eq.mp rfl) rfl rfl rfl (I16.kd (E15.g gA0 (by decide)) (by decide) (n := 14) rfl) rfl ?_
            refine w_t (np := 1) (l2 := [some (eR a0), some (eI (v23))]) (s2 := [eR a0]) rfl (s_an rfl (pos_g I16 (E15.g gA0 (by decide)) (by decide))) rfl ?_
            refine w_t (np := 2) (l2 := [some (eR a0), some (eI (v23))]) (s2 := [eI (0), eR a0]) rfl rfl rfl ?_
            refine j_pf (np := 5) (w := 0) rfl rfl I16 (E15.g gA0 (by decide)) (by decide) (n := 14) rfl rfl (hO_i (lo := -2147483648) (hi := 2147483647) rfl (by decide)) ?_
            intro m25 I26 W27
            have F28 : Fr l_180 13 10281 g μ m25 := F20.w3 E15 W27 (E15.g gA0 (by decide)) rfl
            refine w_t (np := 6) (l2 := [some (eR a0), some (eI (v23))]) (s2 := [eI (v23)]) rfl rfl rfl ?_
            refine b_ri rfl rfl ?_
            show ex_q (dt_fg L ρ) rc (d + 7, (180, 52, [some (eR a0), some (eI (a1)), some (eI (a2))], [eI (v23)]), f :: F, m25)
            exact b_ri rfl rfl (K g13 m25 (v23) E15 I26 F28 (by omega))
          · refine w_t (np := 13) (l2 := [some (eR v3), some (eI (a1))]) (s2 := [eI (1)]) rfl rfl rfl ?_
            refine w_go (t1 := 17) rfl rfl ?_
            refine b_rz rfl rfl (Or.inr rfl) ?_
            show ex_q (dt_fg L ρ) rc (d + 7, (180, 23, [some (eR a0), some (eI (a1)), some (eI (a2))], [eI (1)]), f :: F, μ)
            refine b_ieq (t1 := 32) (t2 := 26) rfl rfl rfl rfl (fun g12 => absurd g12 (by decide)) (fun g12 => ?_)
            refine w_t (np := 27) (l2 := [some (eR a0), some (eI (a1)), some (eI (a2))]) (s2 := [eR a0]) rfl (s_an rfl (pos_g hI gA0 (by decide))) rfl ?_
            refine w_t (np := 28) (l2 := [some (eR a0), some (eI (a1)), some (eI (a2))]) (s2 := [eI (2), eR a0]) rfl rfl rfl ?_
            refine w_cw (np := 31) (as := [eI (2)]) (l2 := [some (eR a0), some (eI (2))]) (rest := []) rfl rfl rfl (Nat.ble_eq.mp rfl) rfl rfl rfl (hI.kd gA0 (by decide) (n := 14) rfl) rfl ?_
            refine w_t (np := 1) (l2 := [some (eR a0), some (eI (2))]) (s2 := [eR a0]) rfl (s_an rfl (pos_g hI gA0 (by decide))) rfl ?_
            refine w_t (np := 2) (l2 := [some (eR a0), some (eI (2))]) (s2 := [eI (2), eR a0]) rfl rfl rfl ?_
            refine j_pf (np := 5) (w := 2) rfl rfl hI gA0 (by decide) (n := 14) rfl rfl (hO_i (lo := -2147483648) (hi := 2147483647) rfl (by decide)) ?_
            intro m13 I14 W15
            have F16 : Fr l_180 0 0 g μ m13 := F0.w W15 gA0 rfl
            refine w_t (np := 6) (l2 := [some (eR a0), some (eI (2))]) (s2 := [eI (-1)]) rfl rfl rfl ?_
            refine b_ri rfl rfl ?_
            show ex_q (dt_fg L ρ) rc (d + 7, (180, 31, [some (eR a0), some (eI (a1)), some (eI (a2))], [eI (-1)]), f :: F, m13)
            exact b_ri rfl rfl (K g m13 (-1) I14.re I14 (F16.up rfl rfl) (by decide))
      · refine w_t (np := 20) (l2 := [some (eR a0), some (eI (a1)), some (eI (a2))]) (s2 := [eI (a1), eR v3]) rfl rfl rfl ?_
        refine w_cw (np := 23) (as := [eI (a1)]) (l2 := [some (eR v3), some (eI (a1))]) (rest := []) rfl rfl rfl (Nat.ble_eq.mp rfl) rfl rfl rfl (hI.kd b5 (by decide) (n := 8) rfl) rfl ?_
        refine w_t (np := 1) (l2 := [some (eR v3), some (eI (a1))]) (s2 := [eI (a1)]) rfl rfl rfl ?_
        refine b_ilt (t1 := 12) (t2 := 4) rfl rfl rfl (ev_w_in (by omega) (by omega)) (fun g7 => ?_) (fun g7 => ?_)
        · have b8 : -2147483648 ≤ a1 ∧ a1 ≤ -1 := by omega
          refine w_t (np := 13) (l2 := [some (eR v3), some (eI (a1))]) (s2 := [eI (1)]) rfl rfl rfl ?_
          refine w_go (t1 := 17) rfl rfl ?_
          refine b_rz rfl rfl (Or.inr rfl) ?_
          show ex_q (dt_fg L ρ) rc (d + 7, (180, 23, [some (eR a0), some (eI (a1)), some (eI (a2))], [eI (1)]), f :: F, μ)
          refine b_ieq (t1 := 32) (t2 := 26) rfl rfl rfl rfl (fun g8 => absurd g8 (by decide)) (fun g8 => ?_)
          refine w_t (np := 27) (l2 := [some (eR a0), some (eI (a1)), some (eI (a2))]) (s2 := [eR a0]) rfl (s_an rfl (pos_g hI gA0 (by decide))) rfl ?_
          refine w_t (np := 28) (l2 := [some (eR a0), some (eI (a1)), some (eI (a2))]) (s2 := [eI (2), eR a0]) rfl rfl rfl ?_
          refine w_cw (np := 31) (as := [eI (2)]) (l2 := [some (eR a0), some (eI (2))]) (rest := []) rfl rfl rfl (Nat.ble_eq.mp rfl) rfl rfl rfl (hI.kd gA0 (by decide) (n := 14) rfl) rfl ?_
          refine w_t (np := 1) (l2 := [some (eR a0), some (eI (2))]) (s2 := [eR a0]) rfl (s_an rfl (pos_g hI gA0 (by decide))) rfl ?_
          refine w_t (np := 2) (l2 := [some (eR a0), some (eI (2))]) (s2 := [eI (2), eR a0]) rfl rfl rfl ?_
          refine j_pf (np := 5) (w := 2) rfl rfl hI gA0 (by decide) (n := 14) rfl rfl (hO_i (lo := -2147483648) (hi := 2147483647) rfl (by decide)) ?_
          intro m9 I10 W11
          have F12 : Fr l_180 0 0 g μ m9 := F0.w W11 gA0 rfl
          refine w_t (np := 6) (l2 := [some (eR a0), some (eI (2))]) (s2 := [eI (-1)]) rfl rfl rfl ?_
          refine b_ri rfl rfl ?_
          show ex_q (dt_fg L ρ) rc (d + 7, (180, 31, [some (eR a0), some (eI (a1)), some (eI (a2))], [eI (-1)]), f :: F, m9)
          exact b_ri rfl rfl (K g m9 (-1) I10.re I10 (F12.up rfl rfl) (by decide))
        · have b8 : 0 ≤ a1 ∧ a1 ≤ 2147483647 := by omega
          refine w_t (np := 5) (l2 := [some (eR v3), some (eI (a1))]) (s2 := [eI (a1)]) rfl rfl rfl ?_
          refine w_t (np := 6) (l2 := [some (eR v3), some (eI (a1))]) (s2 := [eR v3, eI (a1)]) rfl (s_an rfl (pos_g hI b5 (by decide))) rfl ?_
          refine j_gi (np := 9) rfl rfl rfl hI b5 (by decide) (n := 8) rfl rfl (lo := 0) (hi := 890) rfl ?_
          intro v8 e9 b10
          refine b_clt (t1 := 16) (t2 := 12) rfl rfl rfl (ev_w_in (by omega) (by omega)) (ev_w_in (by omega) (by omega)) (fun g11 => ?_) (fun g11 => ?_)
          · have b12 : 0 ≤ a1 ∧ a1 ≤ 889 := by omega
            have b13 : 1 ≤ v8 ∧ v8 ≤ 890 := by omega
            refine w_t (np := 17) (l2 := [some (eR v3), some (eI (a1))]) (s2 := [eI (0)]) rfl rfl rfl ?_
            refine b_rz rfl rfl (Or.inl rfl) ?_
            show ex_q (dt_fg L ρ) rc (d + 7, (180, 23, [some (eR a0), some (eI (a1)), some (eI (a2))], [eI (0)]), f :: F, μ)
            refine b_ieq (t1 := 32) (t2 := 26) rfl rfl rfl rfl (fun g12 => ?_) (fun g12 => absurd g12 (by decide))
            refine w_t (np := 33) (l2 := [some (eR a0), some (eI (a1)), some (eI (a2))]) (s2 := [eR a0]) rfl (s_an rfl (pos_g hI gA0 (by decide))) rfl ?_
            refine w_t (np := 34) (l2 := [some (eR a0), some (eI (a1)), some (eI (a2))]) (s2 := [eR a0, eR a0]) rfl (s_an rfl (pos_g hI gA0 (by decide))) rfl ?_
            refine w_cw (np := 37) (as := []) (l2 := [some (eR a0), none]) (rest := [eR a0]) rfl rfl rfl (Nat.ble_eq.mp rfl) rfl rfl rfl (hI.kd gA0 (by decide) (n := 14) rfl) rfl ?_
            refine s_210 hI gA0 ?_
            intro g13 m14 v18 E15 I16 F17 b19
            have F20 : Fr l_180 13 10281 g μ m14 := F0.t F17 rfl
            show ex_q (dt_fg L ρ) rc (d + 7, (180, 37, [some (eR a0), some (eI (a1)), some (eI (a2))], [eR v18, eR a0]), f :: F, m14)
            refine w_t (np := 38) (l2 := [some (eR a0), some (eI (a1)), some (eI (a2))]) (s2 := [eR a0, eR v18, eR a0]) rfl (s_an rfl (pos_g I16 (E15.g gA0 (by decide)) (by decide))) rfl ?_
            refine w_gf (np := 41) (v := eR v3) rfl rfl (I16.kd (E15.g gA0 (by decide)) (by decide) (n := 14) rfl) (by rw [(F17.k e4 gA0 (by decide) rfl)]; rfl) ?_
            refine w_t (np := 42) (l2 := [some (eR a0), some (eI (a1)), some (eI (a2))]) (s2 := [eI (a1), eR v3, eR v18, eR a0]) rfl rfl rfl ?_
            refine w_t (np := 43) (l2 := [some (eR a0), some (eI (a1)), some (eI (a2))]) (s2 := [eI (a2), eI (a1), eR v3, eR v18, eR a0]) rfl rfl rfl ?_
            refine w_cw (np := 46) (as := [eI (a1), eI (a2)]) (l2 := [some (eR v3), some (eI (a1)), some (eI (a2))]) (rest := [eR v18, eR a0]) rfl rfl rfl (Nat.ble_eq.mp rfl) rfl rfl rfl (I16.kd (E15.g b5 (by decide)) (by decide) (n := 8) rfl) rfl ?_
            refine s_21_2 (a1 := a1) (a2 := a2) I16 (E15.g b5 (by decide)) (by omega) (by omega) ?_
            intro v21 b22
            show ex_q (dt_fg L ρ) rc (d + 7, (180, 46, [some (eR a0), some (eI (a1)), some (eI (a2))], [eI (v21), eR v18, eR a0]), f :: F, m14)
            refine w_cw (np := 49) (as := [eI (v21)]) (l2 := [some (eR v18), some (eI (v21))]) (rest := [eR a0]) rfl rfl rfl (Nat.ble_eq.mp rfl) rfl rfl rfl (I16.kd b19 (by decide) (n := 10) rfl) rfl ?_
            refine s_7 (a1 := v21) I16 b19 (by omega) ?_
            intro v23 b24
            show ex_q (dt_fg L ρ) rc (d + 7, (180, 49, [some (eR a0), some (eI (a1)), some (eI (a2))], [eI (v23), eR a0]), f :: F, m14)
            refine w_cw (np := 52) (as := [eI (v23)]) (l2 := [some (eR a0), some (eI (v23))]) (rest := []) rfl rfl rfl (Nat.ble_eq.mp rfl) rfl rfl rfl (I16.kd (E15.g gA0 (by decide)) (by decide) (n := 14) rfl) rfl ?_
            refine w_t (np := 1) (l2 := [some (eR a0), some (eI (v23))]) (s2 := [eR a0]) rfl (s_an rfl (pos_g I16 (E15.g gA0 (by decide)) (by decide))) rfl ?_
            refine w_t (np := 2) (l2 := [some (eR a0), some (eI (v23))]) (s2 := [eI (0), eR a0]) rfl rfl rfl ?_
            refine j_pf (np := 5) (w := 0) rfl rfl I16 (E15.g gA0 (by decide)) (by decide) (n := 14) rfl rfl (hO_i (lo := -2147483648) (hi := 2147483647) rfl (by decide)) ?_
            intro m25 I26 W27
            have F28 : Fr l_180 13 10281 g μ m25 := F20.w3 E15 W27 (E15.g gA0 (by decide)) rfl
            refine w_t (np := 6) (l2 := [some (eR a0), some (eI (v23))]) (s2 := [eI (v23)]) rfl rfl rfl ?_
            refine b_ri rfl rfl ?_
            show ex_q (dt_fg L ρ) rc (d + 7, (180, 52, [some (eR a0), some (eI (a1)), some (eI (a2))], [eI (v23)]), f :: F, m25)
            exact b_ri rfl rfl (K g13 m25 (v23) E15 I26 F28 (by omega))
          · refine w_t (np := 13) (l2 := [some (eR v3), some (eI (a1))]) (s2 := [eI (1)]) rfl rfl rfl ?_
            refine w_go (t1 := 17) rfl rfl ?_
            refine b_rz rfl rfl (Or.inr rfl) ?_
            show ex_q (dt_fg L ρ) rc (d + 7, (180, 23, [some (eR a0), some (eI (a1)), some (eI (a2))], [eI (1)]), f :: F, μ)
            refine b_ieq (t1 := 32) (t2 := 26) rfl rfl rfl rfl (fun g12 => absurd g12 (by decide)) (fun g12 => ?_)
            refine w_t (np := 27) (l2 := [some (eR a0), some (eI (a1)), some (eI (a2))]) (s2 := [eR a0]) rfl (s_an rfl (pos_g hI gA0 (by decide))) rfl ?_
            refine w_t (np := 28) (l2 := [some (eR a0), some (eI (a1)), some (eI (a2))]) (s2 := [eI (2), eR a0]) rfl rfl rfl ?_
            refine w_cw (np := 31) (as := [eI (2)]) (l2 := [some (eR a0), some (eI (2))]) (rest := []) rfl rfl rfl (Nat.ble_eq.mp rfl) rfl rfl rfl (hI.kd gA0 (by decide) (n := 14) rfl) rfl ?_
            refine w_t (np := 1) (l2 := [some (eR a0), some (eI (2))]) (s2 := [eR a0]) rfl (s_an rfl (pos_g hI gA0 (by decide))) rfl ?_
            refine w_t (np := 2) (l2 := [some (eR a0), some (eI (2))]) (s2 := [eI (2), eR a0]) rfl rfl rfl ?_
            refine j_pf (np := 5) (w := 2) rfl rfl hI gA0 (by decide) (n := 14) rfl rfl (hO_i (lo := -2147483648) (hi := 2147483647) rfl (by decide)) ?_
            intro m13 I14 W15
            have F16 : Fr l_180 0 0 g μ m13 := F0.w W15 gA0 rfl
            refine w_t (np := 6) (l2 := [some (eR a0), some (eI (2))]) (s2 := [eI (-1)]) rfl rfl rfl ?_
            refine b_ri rfl rfl ?_
            show ex_q (dt_fg L ρ) rc (d + 7, (180, 31, [some (eR a0), some (eI (a1)), some (eI (a2))], [eI (-1)]), f :: F, m13)
            exact b_ri rfl rfl (K g m13 (-1) I14.re I14 (F16.up rfl rfl) (by decide))
    · have b3 : 3 ≤ a2 ∧ a2 ≤ 2147483647 := by omega
      refine w_t (np := 10) (l2 := [some (eR a0), some (eI (a1)), some (eI (a2))]) (s2 := [eR a0]) rfl (s_an rfl (pos_g hI gA0 (by decide))) rfl ?_
      refine w_t (np := 11) (l2 := [some (eR a0), some (eI (a1)), some (eI (a2))]) (s2 := [eI (1), eR a0]) rfl rfl rfl ?_
      refine w_cw (np := 14) (as := [eI (1)]) (l2 := [some (eR a0), some (eI (1))]) (rest := []) rfl rfl rfl (Nat.ble_eq.mp rfl) rfl rfl rfl (hI.kd gA0 (by decide) (n := 14) rfl) rfl ?_
      refine w_t (np := 1) (l2 := [some (eR a0), some (eI (1))]) (s2 := [eR a0]) rfl (s_an rfl (pos_g hI gA0 (by decide))) rfl ?_
      refine w_t (np := 2) (l2 := [some (eR a0), some (eI (1))]) (s2 := [eI (1), eR a0]) rfl rfl rfl ?_
      refine j_pf (np := 5) (w := 1) rfl rfl hI gA0 (by decide) (n := 14) rfl rfl (hO_i (lo := -2147483648) (hi := 2147483647) rfl (by decide)) ?_
      intro m3 I4 W5
      have F6 : Fr l_180 0 0 g μ m3 := F0.w W5 gA0 rfl
      refine w_t (np := 6) (l2 := [some (eR a0), some (eI (1))]) (s2 := [eI (-1)]) rfl rfl rfl ?_
      refine b_ri rfl rfl ?_
      show ex_q (dt_fg L ρ) rc (d + 7, (180, 14, [some (eR a0), some (eI (a1)), some (eI (a2))], [eI (-1)]), f :: F, m3)
      exact b_ri rfl rfl (K g m3 (-1) I4.re I4 (F6.up rfl rfl) (by decide))
def l_181 : List Nat := [10760, 10761, 10762, 12032, 11776, 11520, 11264, 11008, 268, 269, 270, 265, 266, 8971, 8972, 8973, 8968, 8969, 8970, 9216, 9472, 9728]
theorem s_181 {L : Nat} {ρ : Nat → Int} {rc : eQ} {d : Nat} {f : eFr} {F : List eFr} {μ : eM} {g : Nat → Nat} {a0 : Nat} {a1 : Int} {a2 : Int} (hI : SI g μ) (gA0 : g a0 = 1) (bA1 : -2147483648 ≤ a1 ∧ a1 ≤ 2147483647) (bA2 : -2147483648 ≤ a2 ∧ a2 ≤ 2147483647) (K : ∀ (g2 : Nat → Nat) (μ2 : eM) (v : Int), GE g g2 → SI g2 μ2 → Fr l_181 13 10281 g μ μ2 → (-2147483648 ≤ v ∧ v ≤ 2147483647) → ex_q (dt_fg L ρ) rc (d + 8, (f.1, f.2.1, f.2.2.1, eI v :: f.2.2.2), F, μ2)) : ex_q (dt_fg L ρ) rc (d + 7, (181, 0, [some (eR a0), some (eI (a1)), some (eI (a2))], []), f :: F, μ) := by
  have F0 : Fr l_181 0 0 g μ μ := Fr.r
  refine w_t (np := 1) (l2 := [some (eR a0), some (eI (a1)), some (eI (a2))]) (s2 := [eI (a2)]) rfl rfl rfl ?_
  refine b_ilt (t1 := 9) (t2 := 4) rfl rfl rfl (ev_w_in (by omega) (by omega)) (fun g1 => ?_) (fun g1 => ?_)
  · have b2 : -2147483648 ≤ a2 ∧ a2 ≤ -1 := by omega
    refine w_t (np := 10) (l2 := [some (eR a0), some (eI (a1)), some (eI (a2))]) (s2 := [eR a0]) rfl (s_an rfl (pos_g hI gA0 (by decide))) rfl ?_
    refine w_t (np := 11) (l2 := [some (eR a0), some (eI (a1)), some (eI (a2))]) (s2 := [eI (1), eR a0]) rfl rfl rfl ?_
    refine w_cw (np := 14) (as := [eI (1)]) (l2 := [some (eR a0), some (eI (1))]) (rest := []) rfl rfl rfl (Nat.ble_eq.mp rfl) rfl rfl rfl (hI.kd gA0 (by decide) (n := 14) rfl) rfl ?_
    refine w_t (np := 1) (l2 := [some (eR a0), some (eI (1))]) (s2 := [eR a0]) rfl (s_an rfl (pos_g hI gA0 (by decide))) rfl ?_
    refine w_t (np := 2) (l2 := [some (eR a0), some (eI (1))]) (s2 := [eI (1), eR a0]) rfl rfl rfl ?_
    refine j_pf (np := 5) (w := 1) rfl rfl hI gA0 (by decide) (n := 14) rfl rfl (hO_i (lo := -2147483648) (hi := 2147483647) rfl (by decide)) ?_
    intro m2 I3 W4
    have F5 : Fr l_181 0 0 g μ m2 := F0.w W4 gA0 rfl
    refine w_t (np := 6) (l2 := [some (eR a0), some (eI (1))]) (s2 := [eI (-1)]) rfl rfl rfl ?_
    refine b_ri rfl rfl ?_
    show ex_q (dt_fg L ρ) rc (d + 7, (181, 14, [some (eR a0), some (eI (a1)), some (eI (a2))], [eI (-1)]), f :: F, m2)
    exact b_ri rfl rfl (K g m2 (-1) I3.re I3 (F5.up rfl rfl) (by decide))
  · have b2 : 0 ≤ a2 ∧ a2 ≤ 2147483647 := by omega
    refine w_t (np := 5) (l2 := [some (eR a0), some (eI (a1)), some (eI (a2))]) (s2 := [eI (a2)]) rfl rfl rfl ?_
    refine w_t (np := 6) (l2 := [some (eR a0), some (eI (a1)), some (eI (a2))]) (s2 := [eI (2), eI (a2)]) rfl rfl rfl ?_
    refine b_cle (t1 := 15) (t2 := 9) rfl rfl rfl (ev_w_in (by omega) (by omega)) rfl (fun g2 => ?_) (fun g2 => ?_)
    · have b3 : 0 ≤ a2 ∧ a2 ≤ 2 := by omega
      refine w_t (np := 16) (l2 := [some (eR a0), some (eI (a1)), some (eI (a2))]) (s2 := [eR a0]) rfl (s_an rfl (pos_g hI gA0 (by decide))) rfl ?_
      refine j_gr (np := 19) rfl rfl hI gA0 (by decide) (n := 14) rfl rfl rfl ?_
      intro v3 e4 b5 z6
      rcases hor2 b5 with b5 | b5
      · refine w_t (np := 20) (l2 := [some (eR a0), some (eI (a1)), some (eI (a2))]) (s2 := [eI (a1), eR v3]) rfl rfl rfl ?_
        refine w_cw (np := 23) (as := [eI (a1)]) (l2 := [some (eR v3), some (eI (a1))]) (rest := []) rfl rfl rfl (Nat.ble_eq.mp rfl) rfl rfl rfl (hI.kd b5 (by decide) (n := 8) rfl) rfl ?_
        refine w_t (np := 1) (l2 := [some (eR v3), some (eI (a1))]) (s2 := [eI (a1)]) rfl rfl rfl ?_
        refine b_ilt (t1 := 12) (t2 := 4) rfl rfl rfl (ev_w_in (by omega) (by omega)) (fun g7 => ?_) (fun g7 => ?_)
        · have b8 : -2147483648 ≤ a1 ∧ a1 ≤ -1 := by omega
          refine w_t (np := 13) (l2 := [some (eR v3), some (eI (a1))]) (s2 := [eI (1)]) rfl rfl rfl ?_
          refine w_go (t1 := 17) rfl rfl ?_
          refine b_rz rfl rfl (Or.inr rfl) ?_
          show ex_q (dt_fg L ρ) rc (d + 7, (181, 23, [some (eR a0), some (eI (a1)), some (eI (a2))], [eI (1)]), f :: F, μ)
          refine b_ieq (t1 := 32) (t2 := 26) rfl rfl rfl rfl (fun g8 => absurd g8 (by decide)) (fun g8 => ?_)
          refine w_t (np := 27) (l2 := [some (eR a0), some (eI (a1)), some (eI (a2))]) (s2 := [eR a0]) rfl (s_an rfl (pos_g hI gA0 (by decide))) rfl ?_
          refine w_t (np := 28) (l2 := [some (eR a0), some (eI (a1)), some (eI (a2))]) (s2 := [eI (2), eR a0]) rfl rfl rfl ?_
          refine w_cw (np := 31) (as := [eI (2)]) (l2 := [some (eR a0), some (eI (2))]) (rest := []) rfl rfl rfl (Nat.ble_eq.mp rfl) rfl rfl rfl (hI.kd gA0 (by decide) (n := 14) rfl) rfl ?_
          refine w_t (np := 1) (l2 := [some (eR a0), some (eI (2))]) (s2 := [eR a0]) rfl (s_an rfl (pos_g hI gA0 (by decide))) rfl ?_
          refine w_t (np := 2) (l2 := [some (eR a0), some (eI (2))]) (s2 := [eI (2), eR a0]) rfl rfl rfl ?_
          refine j_pf (np := 5) (w := 2) rfl rfl hI gA0 (by decide) (n := 14) rfl rfl (hO_i (lo := -2147483648) (hi := 2147483647) rfl (by decide)) ?_
          intro m9 I10 W11
          have F12 : Fr l_181 0 0 g μ m9 := F0.w W11 gA0 rfl
          refine w_t (np := 6) (l2 := [some (eR a0), some (eI (2))]) (s2 := [eI (-1)]) rfl rfl rfl ?_
          refine b_ri rfl rfl ?_
          show ex_q (dt_fg L ρ) rc (d + 7, (181, 31, [some (eR a0), some (eI (a1)), some (eI (a2))], [eI (-1)]), f :: F, m9)
          exact b_ri rfl rfl (K g m9 (-1) I10.re I10 (F12.up rfl rfl) (by decide))
        · have b8 : 0 ≤ a1 ∧ a1 ≤ 2147483647 := by omega
          refine w_t (np := 5) (l2 := [some (eR v3), some (eI (a1))]) (s2 := [eI (a1)]) rfl rfl rfl ?_
          refine w_t (np := 6) (l2 := [some (eR v3), some (eI (a1))]) (s2 := [eR v3, eI (a1)]) rfl (s_an rfl (pos_g hI b5 (by decide))) rfl ?_
          refine j_gi (np := 9) rfl rfl rfl hI b5 (by decide) (n := 8) rfl rfl (lo := 0) (hi := 50) rfl ?_
          intro v8 e9 b10
          refine b_clt (t1 := 16) (t2 := 12) rfl rfl rfl (ev_w_in (by omega) (by omega)) (ev_w_in (by omega) (by omega)) (fun g11 => ?_) (fun g11 => ?_)
          · have b12 : 0 ≤ a1 ∧ a1 ≤ 49 := by omega
            have b13 : 1 ≤ v8 ∧ v8 ≤ 50 := by omega
            refine w_t (np := 17) (l2 := [some (eR v3), some (eI (a1))]) (s2 := [eI (0)]) rfl rfl rfl ?_
            refine b_rz rfl rfl (Or.inl rfl) ?_
            show ex_q (dt_fg L ρ) rc (d + 7, (181, 23, [some (eR a0), some (eI (a1)), some (eI (a2))], [eI (0)]), f :: F, μ)
            refine b_ieq (t1 := 32) (t2 := 26) rfl rfl rfl rfl (fun g12 => ?_) (fun g12 => absurd g12 (by decide))
            refine w_t (np := 33) (l2 := [some (eR a0), some (eI (a1)), some (eI (a2))]) (s2 := [eR a0]) rfl (s_an rfl (pos_g hI gA0 (by decide))) rfl ?_
            refine w_t (np := 34) (l2 := [some (eR a0), some (eI (a1)), some (eI (a2))]) (s2 := [eR a0, eR a0]) rfl (s_an rfl (pos_g hI gA0 (by decide))) rfl ?_
            refine w_cw (np := 37) (as := []) (l2 := [some (eR a0), none]) (rest := [eR a0]) rfl rfl rfl (Nat.ble_eq.mp rfl) rfl rfl rfl (hI.kd gA0 (by decide) (n := 14) rfl) rfl ?_
            refine s_210 hI gA0 ?_
            intro g13 m14 v18 E15 I16 F17 b19
            have F20 : Fr l_181 13 10281 g μ m14 := F0.t F17 rfl
            show ex_q (dt_fg L ρ) rc (d + 7, (181, 37, [some (eR a0), some (eI (a1)), some (eI (a2))], [eR v18, eR a0]), f :: F, m14)
            refine w_t (np := 38) (l2 := [some (eR a0), some (eI (a1)), some (eI (a2))]) (s2 := [eR a0, eR v18, eR a0]) rfl (s_an rfl (pos_g I16 (E15.g gA0 (by decide)) (by decide))) rfl ?_
            refine w_gf (np := 41) (v := eR v3) rfl rfl (I16.kd (E15.g gA0 (by decide)) (by decide) (n := 14) rfl) (by rw [(F17.k e4 gA0 (by decide) rfl)]; rfl) ?_
            refine w_t (np := 42) (l2 := [some (eR a0), some (eI (a1)), some (eI (a2))]) (s2 := [eI (a1), eR v3, eR v18, eR a0]) rfl rfl rfl ?_
            refine w_t (np := 43) (l2 := [some (eR a0), some (eI (a1)), some (eI (a2))]) (s2 := [eI (a2), eI (a1), eR v3, eR v18, eR a0]) rfl rfl rfl ?_
            refine w_cw (np := 46) (as := [eI (a1), eI (a2)]) (l2 := [some (eR v3), some (eI (a1)), some (eI (a2))]) (rest := [eR v18, eR a0]) rfl rfl rfl (Nat.ble_eq.mp rfl) rfl rfl rfl (I16.kd (E15.g b5 (by decide)) (by decide) (n := 8) rfl) rfl ?_
            refine s_21 (a1 := a1) (a2 := a2) I16 (E15.g b5 (by decide)) (by omega) (by omega) ?_
            intro v21 b22
            show ex_q (dt_fg L ρ) rc (d + 7, (181, 46, [some (eR a0), some (eI (a1)), some (eI (a2))], [eI (v21), eR v18, eR a0]), f :: F, m14)
            refine w_cw (np := 49) (as := [eI (v21)]) (l2 := [some (eR v18), some (eI (v21))]) (rest := [eR a0]) rfl rfl rfl (Nat.ble_eq.mp rfl) rfl rfl rfl (I16.kd b19 (by decide) (n := 10) rfl) rfl ?_
            refine s_8 (a1 := v21) I16 b19 (by omega) ?_
            intro v23 b24
            show ex_q (dt_fg L ρ) rc (d + 7, (181, 49, [some (eR a0), some (eI (a1)), some (eI (a2))], [eI (v23), eR a0]), f :: F, m14)
            refine w_cw (np := 52) (as := [eI (v23)]) (l2 := [some (eR a0), some (eI (v23))]) (rest := []) rfl rfl rfl (Nat.ble_eq.mp rfl) rfl rfl rfl (I16.kd (E15.g gA0 (by decide)) (by decide) (n := 14) rfl) rfl ?_
            refine w_t (np := 1) (l2 := [some (eR a0), some (eI (v23))]) (s2 := [eI (v23)]) rfl rfl rfl ?_
            refine b_ige (t1 := 12) (t2 := 4) rfl rfl rfl (ev_w_in (by omega) (by omega)) (fun g25 => ?_) (fun g25 => ?_)
            · have b26 : 0 ≤ v23 ∧ v23 ≤ 2147483647 := by omega
              refine w_t (np := 13) (l2 := [some (eR a0), some (eI (v23))]) (s2 := [eR a0]) rfl (s_an rfl (pos_g I16 (E15.g gA0 (by decide)) (by decide))) rfl ?_
              refine w_t (np := 14) (l2 := [some (eR a0), some (eI (v23))]) (s2 := [eI (v23), eR a0]) rfl rfl rfl ?_
              refine w_cw (np := 17) (as := [eI (v23)]) (l2 := [some (eR a0), some (eI (v23))]) (rest := []) rfl rfl rfl (Nat.ble_eq.mp rfl) rfl rfl rfl (I16.kd (E15.g gA0 (by decide)) (by decide) (n := 14) rfl) rfl ?_
              refine w_t (np := 1) (l2 := [some (eR a0), some (eI (v23))]) (s2 := [eR a0]) rfl (s_an rfl (pos_g I16 (E15.g gA0 (by decide)) (by decide))) rfl ?_
              refine w_t (np := 2) (l2 := [some (eR a0), some (eI (v23))]) (s2 := [eI (0), eR a0]) rfl rfl rfl ?_
              refine j_pf (np := 5) (w := 0) rfl rfl I16 (E15.g gA0 (by decide)) (by decide) (n := 14) rfl rfl (hO_i (lo := -2147483648) (hi := 2147483647) rfl (by decide)) ?_
              intro m26 I27 W28
              have F29 : Fr l_181 13 10281 g μ m26 := F20.w3 E15 W28 (E15.g gA0 (by decide)) rfl
              refine w_t (np := 6) (l2 := [some (eR a0), some (eI (v23))]) (s2 := [eI (v23)]) rfl rfl rfl ?_
              refine b_ri rfl rfl ?_
              show ex_q (dt_fg L ρ) rc (d + 6, (207, 17, [some (eR a0), some (eI (v23))], [eI (v23)]), (181, 52, [some (eR a0), some (eI (a1)), some (eI (a2))], []) :: f :: F, m26)
              refine b_ri rfl rfl ?_
              show ex_q (dt_fg L ρ) rc (d + 7, (181, 52, [some (eR a0), some (eI (a1)), some (eI (a2))], [eI (v23)]), f :: F, m26)
              exact b_ri rfl rfl (K g13 m26 (v23) E15 I27 F29 (by omega))
            · have b26 : -2147483648 ≤ v23 ∧ v23 ≤ -1 := by omega
              refine w_t (np := 5) (l2 := [some (eR a0), some (eI (v23))]) (s2 := [eR a0]) rfl (s_an rfl (pos_g I16 (E15.g gA0 (by decide)) (by decide))) rfl ?_
              refine w_t (np := 6) (l2 := [some (eR a0), some (eI (v23))]) (s2 := [eI (5), eR a0]) rfl rfl rfl ?_
              refine w_cw (np := 9) (as := [eI (5)]) (l2 := [some (eR a0), some (eI (5))]) (rest := []) rfl rfl rfl (Nat.ble_eq.mp rfl) rfl rfl rfl (I16.kd (E15.g gA0 (by decide)) (by decide) (n := 14) rfl) rfl ?_
              refine w_t (np := 1) (l2 := [some (eR a0), some (eI (5))]) (s2 := [eR a0]) rfl (s_an rfl (pos_g I16 (E15.g gA0 (by decide)) (by decide))) rfl ?_
              refine w_t (np := 2) (l2 := [some (eR a0), some (eI (5))]) (s2 := [eI (5), eR a0]) rfl rfl rfl ?_
              refine j_pf (np := 5) (w := 5) rfl rfl I16 (E15.g gA0 (by decide)) (by decide) (n := 14) rfl rfl (hO_i (lo := -2147483648) (hi := 2147483647) rfl (by decide)) ?_
              intro m26 I27 W28
              have F29 : Fr l_181 13 10281 g μ m26 := F20.w3 E15 W28 (E15.g gA0 (by decide)) rfl
              refine w_t (np := 6) (l2 := [some (eR a0), some (eI (5))]) (s2 := [eI (-1)]) rfl rfl rfl ?_
              refine b_ri rfl rfl ?_
              show ex_q (dt_fg L ρ) rc (d + 6, (207, 9, [some (eR a0), some (eI (v23))], [eI (-1)]), (181, 52, [some (eR a0), some (eI (a1)), some (eI (a2))], []) :: f :: F, m26)
              refine w_go (t1 := 17) rfl rfl ?_
              refine b_ri rfl rfl ?_
              show ex_q (dt_fg L ρ) rc (d + 7, (181, 52, [some (eR a0), some (eI (a1)), some (eI (a2))], [eI (-1)]), f :: F, m26)
              exact b_ri rfl rfl (K g13 m26 (-1) E15 I27 F29 (by decide))
          · refine w_t (np := 13) (l2 := [some (eR v3), some (eI (a1))]) (s2 := [eI (1)]) rfl rfl rfl ?_
            refine w_go (t1 := 17) rfl rfl ?_
            refine b_rz rfl rfl (Or.inr rfl) ?_
            show ex_q (dt_fg L ρ) rc (d + 7, (181, 23, [some (eR a0), some (eI (a1)), some (eI (a2))], [eI (1)]), f :: F, μ)
            refine b_ieq (t1 := 32) (t2 := 26) rfl rfl rfl rfl (fun g12 => absurd g12 (by decide)) (fun g12 => ?_)
            refine w_t (np := 27) (l2 := [some (eR a0), some (eI (a1)), some (eI (a2))]) (s2 := [eR a0]) rfl (s_an rfl (pos_g hI gA0 (by decide))) rfl ?_
            refine w_t (np := 28) (l2 := [some (eR a0), some (eI (a1)), some (eI (a2))]) (s2 := [eI (2), eR a0]) rfl rfl rfl ?_
            refine w_cw (np := 31) (as := [eI (2)]) (l2 := [some (eR a0), some (eI (2))]) (rest := []) rfl rfl rfl (Nat.ble_eq.mp rfl) rfl rfl rfl (hI.kd gA0 (by decide) (n := 14) rfl) rfl ?_
            refine w_t (np := 1) (l2 := [some (eR a0), some (eI (2))]) (s2 := [eR a0]) rfl (s_an rfl (pos_g hI gA0 (by decide))) rfl ?_
            refine w_t (np := 2) (l2 := [some (eR a0), some (eI (2))]) (s2 := [eI (2), eR a0]) rfl rfl rfl ?_
            refine j_pf (np := 5) (w := 2) rfl rfl hI gA0 (by decide) (n := 14) rfl rfl (hO_i (lo := -2147483648) (hi := 2147483647) rfl (by decide)) ?_
            intro m13 I14 W15
            have F16 : Fr l_181 0 0 g μ m13 := F0.w W15 gA0 rfl
            refine w_t (np := 6) (l2 := [some (eR a0), some (eI (2))]) (s2 := [eI (-1)]) rfl rfl rfl ?_
            refine b_ri rfl rfl ?_
            show ex_q (dt_fg L ρ) rc (d + 7, (181, 31, [some (eR a0), some (eI (a1)), some (eI (a2))], [eI (-1)]), f :: F, m13)
            exact b_ri rfl rfl (K g m13 (-1) I14.re I14 (F16.up rfl rfl) (by decide))
      · refine w_t (np := 20) (l2 := [some (eR a0), some (eI (a1)), some (eI (a2))]) (s2 := [eI (a1), eR v3]) rfl rfl rfl ?_
        refine w_cw (np := 23) (as := [eI (a1)]) (l2 := [some (eR v3), some (eI (a1))]) (rest := []) rfl rfl rfl (Nat.ble_eq.mp rfl) rfl rfl rfl (hI.kd b5 (by decide) (n := 8) rfl) rfl ?_
        refine w_t (np := 1) (l2 := [some (eR v3), some (eI (a1))]) (s2 := [eI (a1)]) rfl rfl rfl ?_
        refine b_ilt (t1 := 12) (t2 := 4) rfl rfl rfl (ev_w_in (by omega) (by omega)) (fun g7 => ?_) (fun g7 => ?_)
        · have b8 : -2147483648 ≤ a1 ∧ a1 ≤ -1 := by omega
          refine w_t (np := 13) (l2 := [some (eR v3), some (eI (a1))]) (s2 := [eI (1)]) rfl rfl rfl ?_
          refine w_go (t1 := 17) rfl rfl ?_
          refine b_rz rfl rfl (Or.inr rfl) ?_
          show ex_q (dt_fg L ρ) rc (d + 7, (181, 23, [some (eR a0), some (eI (a1)), some (eI (a2))], [eI (1)]), f :: F, μ)
          refine b_ieq (t1 := 32) (t2 := 26) rfl rfl rfl rfl (fun g8 => absurd g8 (by decide)) (fun g8 => ?_)
          refine w_t (np := 27) (l2 := [some (eR a0), some (eI (a1)), some (eI (a2))]) (s2 := [eR a0]) rfl (s_an rfl (pos_g hI gA0 (by decide))) rfl ?_
          refine w_t (np := 28) (l2 := [some (eR a0), some (eI (a1)), some (eI (a2))]) (s2 := [eI (2), eR a0]) rfl rfl rfl ?_
          refine w_cw (np := 31) (as := [eI (2)]) (l2 := [some (eR a0), some (eI (2))]) (rest := []) rfl rfl rfl (Nat.ble_eq.mp rfl) rfl rfl rfl (hI.kd gA0 (by decide) (n := 14) rfl) rfl ?_
          refine w_t (np := 1) (l2 := [some (eR a0), some (eI (2))]) (s2 := [eR a0]) rfl (s_an rfl (pos_g hI gA0 (by decide))) rfl ?_
          refine w_t (np := 2) (l2 := [some (eR a0), some (eI (2))]) (s2 := [eI (2), eR a0]) rfl rfl rfl ?_
          refine j_pf (np := 5) (w := 2) rfl rfl hI gA0 (by decide) (n := 14) rfl rfl (hO_i (lo := -2147483648) (hi := 2147483647) rfl (by decide)) ?_
          intro m9 I10 W11
          have F12 : Fr l_181 0 0 g μ m9 := F0.w W11 gA0 rfl
          refine w_t (np := 6) (l2 := [some (eR a0), some (eI (2))]) (s2 := [eI (-1)]) rfl rfl rfl ?_
          refine b_ri rfl rfl ?_
          show ex_q (dt_fg L ρ) rc (d + 7, (181, 31, [some (eR a0), some (eI (a1)), some (eI (a2))], [eI (-1)]), f :: F, m9)
          exact b_ri rfl rfl (K g m9 (-1) I10.re I10 (F12.up rfl rfl) (by decide))
        · have b8 : 0 ≤ a1 ∧ a1 ≤ 2147483647 := by omega
          refine w_t (np := 5) (l2 := [some (eR v3), some (eI (a1))]) (s2 := [eI (a1)]) rfl rfl rfl ?_
          refine w_t (np := 6) (l2 := [some (eR v3), some (eI (a1))]) (s2 := [eR v3, eI (a1)]) rfl (s_an rfl (pos_g hI b5 (by decide))) rfl ?_
          refine j_gi (np := 9) rfl rfl rfl hI b5 (by decide) (n := 8) rfl rfl (lo := 0) (hi := 890) rfl ?_
          intro v8 e9 b10
          refine b_clt (t1 := 16) (t2 := 12) rfl rfl rfl (ev_w_in (by omega) (by omega)) (ev_w_in (by omega) (by omega)) (fun g11 => ?_) (fun g11 => ?_)
          · have b12 : 0 ≤ a1 ∧ a1 ≤ 889 := by omega
            have b13 : 1 ≤ v8 ∧ v8 ≤ 890 := by omega
            refine w_t (np := 17) (l2 := [some (eR v3), some (eI (a1))]) (s2 := [eI (0)]) rfl rfl rfl ?_
            refine b_rz rfl rfl (Or.inl rfl) ?_
            show ex_q (dt_fg L ρ) rc (d + 7, (181, 23, [some (eR a0), some (eI (a1)), some (eI (a2))], [eI (0)]), f :: F, μ)
            refine b_ieq (t1 := 32) (t2 := 26) rfl rfl rfl rfl (fun g12 => ?_) (fun g12 => absurd g12 (by decide))
            refine w_t (np := 33) (l2 := [some (eR a0), some (eI (a1)), some (eI (a2))]) (s2 := [eR a0]) rfl (s_an rfl (pos_g hI gA0 (by decide))) rfl ?_
            refine w_t (np := 34) (l2 := [some (eR a0), some (eI (a1)), some (eI (a2))]) (s2 := [eR a0, eR a0]) rfl (s_an rfl (pos_g hI gA0 (by decide))) rfl ?_
            refine w_cw (np := 37) (as := []) (l2 := [some (eR a0), none]) (rest := [eR a0]) rfl rfl rfl (Nat.ble_eq.mp rfl) rfl rfl rfl (hI.kd gA0 (by decide) (n := 14) rfl) rfl ?_
            refine s_210 hI gA0 ?_
            intro g13 m14 v18 E15 I16 F17 b19
            have F20 : Fr l_181 13 10281 g μ m14 := F0.t F17 rfl
            show ex_q (dt_fg L ρ) rc (d + 7, (181, 37, [some (eR a0), some (eI (a1)), some (eI (a2))], [eR v18, eR a0]), f :: F, m14)
            refine w_t (np := 38) (l2 := [some (eR a0), some (eI (a1)), some (eI (a2))]) (s2 := [eR a0, eR v18, eR a0]) rfl (s_an rfl (pos_g I16 (E15.g gA0 (by decide)) (by decide))) rfl ?_
            refine w_gf (np := 41) (v := eR v3) rfl rfl (I16.kd (E15.g gA0 (by decide)) (by decide) (n := 14) rfl) (by rw [(F17.k e4 gA0 (by decide) rfl)]; rfl) ?_
            refine w_t (np := 42) (l2 := [some (eR a0), some (eI (a1)), some (eI (a2))]) (s2 := [eI (a1), eR v3, eR v18, eR a0]) rfl rfl rfl ?_
            refine w_t (np := 43) (l2 := [some (eR a0), some (eI (a1)), some (eI (a2))]) (s2 := [eI (a2), eI (a1), eR v3, eR v18, eR a0]) rfl rfl rfl ?_
            refine w_cw (np := 46) (as := [eI (a1), eI (a2)]) (l2 := [some (eR v3), some (eI (a1)), some (eI (a2))]) (rest := [eR v18, eR a0]) rfl rfl rfl (Nat.ble_eq.mp rfl) rfl rfl rfl (I16.kd (E15.g b5 (by decide)) (by decide) (n := 8) rfl) rfl ?_
            refine s_21_2 (a1 := a1) (a2 := a2) I16 (E15.g b5 (by decide)) (by omega) (by omega) ?_
            intro v21 b22
            show ex_q (dt_fg L ρ) rc (d + 7, (181, 46, [some (eR a0), some (eI (a1)), some (eI (a2))], [eI (v21), eR v18, eR a0]), f :: F, m14)
            refine w_cw (np := 49) (as := [eI (v21)]) (l2 := [some (eR v18), some (eI (v21))]) (rest := [eR a0]) rfl rfl rfl (Nat.ble_eq.mp rfl) rfl rfl rfl (I16.kd b19 (by decide) (n := 10) rfl) rfl ?_
            refine s_8 (a1 := v21) I16 b19 (by omega) ?_
            intro v23 b24
            show ex_q (dt_fg L ρ) rc (d + 7, (181, 49, [some (eR a0), some (eI (a1)), some (eI (a2))], [eI (v23), eR a0]), f :: F, m14)
            refine w_cw (np := 52) (as := [eI (v23)]) (l2 := [some (eR a0), some (eI (v23))]) (rest := []) rfl rfl rfl (Nat.ble_eq.mp rfl) rfl rfl rfl (I16.kd (E15.g gA0 (by decide)) (by decide) (n := 14) rfl) rfl ?_
            refine w_t (np := 1) (l2 := [some (eR a0), some (eI (v23))]) (s2 := [eI (v23)]) rfl rfl rfl ?_
            refine b_ige (t1 := 12) (t2 := 4) rfl rfl rfl (ev_w_in (by omega) (by omega)) (fun g25 => ?_) (fun g25 => ?_)
            · have b26 : 0 ≤ v23 ∧ v23 ≤ 2147483647 := by omega
              refine w_t (np := 13) (l2 := [some (eR a0), some (eI (v23))]) (s2 := [eR a0]) rfl (s_an rfl (pos_g I16 (E15.g gA0 (by decide)) (by decide))) rfl ?_
              refine w_t (np := 14) (l2 := [some (eR a0), some (eI (v23))]) (s2 := [eI (v23), eR a0]) rfl rfl rfl ?_
              refine w_cw (np := 17) (as := [eI (v23)]) (l2 := [some (eR a0), some (eI (v23))]) (rest := []) rfl rfl rfl (Nat.ble_eq.mp rfl) rfl rfl rfl (I16.kd (E15.g gA0 (by decide)) (by decide) (n := 14) rfl) rfl ?_
              refine w_t (np := 1) (l2 := [some (eR a0), some (eI (v23))]) (s2 := [eR a0]) rfl (s_an rfl (pos_g I16 (E15.g gA0 (by decide)) (by decide))) rfl ?_
              refine w_t (np := 2) (l2 := [some (eR a0), some (eI (v23))]) (s2 := [eI (0), eR a0]) rfl rfl rfl ?_
              refine j_pf (np := 5) (w := 0) rfl rfl I16 (E15.g gA0 (by decide)) (by decide) (n := 14) rfl rfl (hO_i (lo := -2147483648) (hi := 2147483647) rfl (by decide)) ?_
              intro m26 I27 W28
              have F29 : Fr l_181 13 10281 g μ m26 := F20.w3 E15 W28 (E15.g gA0 (by decide)) rfl
              refine w_t (np := 6) (l2 := [some (eR a0), some (eI (v23))]) (s2 := [eI (v23)]) rfl rfl rfl ?_
              refine b_ri rfl rfl ?_
              show ex_q (dt_fg L ρ) rc (d + 6, (207, 17, [some (eR a0), some (eI (v23))], [eI (v23)]), (181, 52, [some (eR a0), some (eI (a1)), some (eI (a2))], []) :: f :: F, m26)
              refine b_ri rfl rfl ?_
              show ex_q (dt_fg L ρ) rc (d + 7, (181, 52, [some (eR a0), some (eI (a1)), some (eI (a2))], [eI (v23)]), f :: F, m26)
              exact b_ri rfl rfl (K g13 m26 (v23) E15 I27 F29 (by omega))
            · have b26 : -2147483648 ≤ v23 ∧ v23 ≤ -1 := by omega
              refine w_t (np := 5) (l2 := [some (eR a0), some (eI (v23))]) (s2 := [eR a0]) rfl (s_an rfl (pos_g I16 (E15.g gA0 (by decide)) (by decide))) rfl ?_
              refine w_t (np := 6) (l2 := [some (eR a0), some (eI (v23))]) (s2 := [eI (5), eR a0]) rfl rfl rfl ?_
              refine w_cw (np := 9) (as := [eI (5)]) (l2 := [some (eR a0), some (eI (5))]) (rest := []) rfl rfl rfl (Nat.ble_eq.mp rfl) rfl rfl rfl (I16.kd (E15.g gA0 (by decide)) (by decide) (n := 14) rfl) rfl ?_
              refine w_t (np := 1) (l2 := [some (eR a0), some (eI (5))]) (s2 := [eR a0]) rfl (s_an rfl (pos_g I16 (E15.g gA0 (by decide)) (by decide))) rfl ?_
              refine w_t (np := 2) (l2 := [some (eR a0), some (eI (5))]) (s2 := [eI (5), eR a0]) rfl rfl rfl ?_
              refine j_pf (np := 5) (w := 5) rfl rfl I16 (E15.g gA0 (by decide)) (by decide) (n := 14) rfl rfl (hO_i (lo := -2147483648) (hi := 2147483647) rfl (by decide)) ?_
              intro m26 I27 W28
              have F29 : Fr l_181 13 10281 g μ m26 := F20.w3 E15 W28 (E15.g gA0 (by decide)) rfl
              refine w_t (np := 6) (l2 := [some (eR a0), some (eI (5))]) (s2 := [eI (-1)]) rfl rfl rfl ?_
              refine b_ri rfl rfl ?_
              show ex_q (dt_fg L ρ) rc (d + 6, (207, 9, [some (eR a0), some (eI (v23))], [eI (-1)]), (181, 52, [some (eR a0), some (eI (a1)), some (eI (a2))], []) :: f :: F, m26)
              refine w_go (t1 := 17) rfl rfl ?_
              refine b_ri rfl rfl ?_
              show ex_q (dt_fg L ρ) rc (d + 7, (181, 52, [some (eR a0), some (eI (a1)), some (eI (a2))], [eI (-1)]), f :: F, m26)
              exact b_ri rfl rfl (K g13 m26 (-1) E15 I27 F29 (by decide))
          · refine w_t (np := 13) (l2 := [some (eR v3), some (eI (a1))]) (s2 := [eI (1)]) rfl rfl rfl ?_
            refine w_go (t1 := 17) rfl rfl ?_
            refine b_rz rfl rfl (Or.inr rfl) ?_
            show ex_q (dt_fg L ρ) rc (d + 7, (181, 23, [some (eR a0), some (eI (a1)), some (eI (a2))], [eI (1)]), f :: F, μ)
            refine b_ieq (t1 := 32) (t2 := 26) rfl rfl rfl rfl (fun g12 => absurd g12 (by decide)) (fun g12 => ?_)
            refine w_t (np := 27) (l2 := [some (eR a0), some (eI (a1)), some (eI (a2))]) (s2 := [eR a0]) rfl (s_an rfl (pos_g hI gA0 (by decide))) rfl ?_
            refine w_t (np := 28) (l2 := [some (eR a0), some (eI (a1)), some (eI (a2))]) (s2 := [eI (2), eR a0]) rfl rfl rfl ?_
            refine w_cw (np := 31) (as := [eI (2)]) (l2 := [some (eR a0), some (eI (2))]) (rest := []) rfl rfl rfl (Nat.ble_eq.mp rfl) rfl rfl rfl (hI.kd gA0 (by decide) (n := 14) rfl) rfl ?_
            refine w_t (np := 1) (l2 := [some (eR a0), some (eI (2))]) (s2 := [eR a0]) rfl (s_an rfl (pos_g hI gA0 (by decide))) rfl ?_
            refine w_t (np := 2) (l2 := [some (eR a0), some (eI (2))]) (s2 := [eI (2), eR a0]) rfl rfl rfl ?_
            refine j_pf (np := 5) (w := 2) rfl rfl hI gA0 (by decide) (n := 14) rfl rfl (hO_i (lo := -2147483648) (hi := 2147483647) rfl (by decide)) ?_
            intro m13 I14 W15
            have F16 : Fr l_181 0 0 g μ m13 := F0.w W15 gA0 rfl
            refine w_t (np := 6) (l2 := [some (eR a0), some (eI (2))]) (s2 := [eI (-1)]) rfl rfl rfl ?_
            refine b_ri rfl rfl ?_
            show ex_q (dt_fg L ρ) rc (d + 7, (181, 31, [some (eR a0), some (eI (a1)), some (eI (a2))], [eI (-1)]), f :: F, m13)
            exact b_ri rfl rfl (K g m13 (-1) I14.re I14 (F16.up rfl rfl) (by decide))
    · have b3 : 3 ≤ a2 ∧ a2 ≤ 2147483647 := by omega
      refine w_t (np := 10) (l2 := [some (eR a0), some (eI (a1)), some (eI (a2))]) (s2 := [eR a0]) rfl (s_an rfl (pos_g hI gA0 (by decide))) rfl ?_
      refine w_t (np := 11) (l2 := [some (eR a0), some (eI (a1)), some (eI (a2))]) (s2 := [eI (1), eR a0]) rfl rfl rfl ?_
      refine w_cw (np := 14) (as := [eI (1)]) (l2 := [some (eR a0), some (eI (1))]) (rest := []) rfl rfl rfl (Nat.ble_eq.mp rfl) rfl rfl rfl (hI.kd gA0 (by decide) (n := 14) rfl) rfl ?_
      refine w_t (np := 1) (l2 := [some (eR a0), some (eI (1))]) (s2 := [eR a0]) rfl (s_an rfl (pos_g hI gA0 (by decide))) rfl ?_
      refine w_t (np := 2) (l2 := [some (eR a0), some (eI (1))]) (s2 := [eI (1), eR a0]) rfl rfl rfl ?_
      refine j_pf (np := 5) (w := 1) rfl rfl hI gA0 (by decide) (n := 14) rfl rfl (hO_i (lo := -2147483648) (hi := 2147483647) rfl (by decide)) ?_
      intro m3 I4 W5
      have F6 : Fr l_181 0 0 g μ m3 := F0.w W5 gA0 rfl
      refine w_t (np := 6) (l2 := [some (eR a0), some (eI (1))]) (s2 := [eI (-1)]) rfl rfl rfl ?_
      refine b_ri rfl rfl ?_
      show ex_q (dt_fg L ρ) rc (d + 7, (181, 14, [some (eR a0), some (eI (a1)), some (eI (a2))], [eI (-1)]), f :: F, m3)
      exact b_ri rfl rfl (K g m3 (-1) I4.re I4 (F6.up rfl rfl) (by decide))
def l_182 : List Nat := [10760, 10761, 10762, 12032, 11776, 11520, 11264, 11008, 268, 269, 270, 265, 266, 8971, 8972, 8973, 8968, 8969, 8970, 9216, 9472, 9728]
theorem s_182 {L : Nat} {ρ : Nat → Int} {rc : eQ} {d : Nat} {f : eFr} {F : List eFr} {μ : eM} {g : Nat → Nat} {a0 : Nat} {a1 : Int} (hI : SI g μ) (gA0 : g a0 = 1) (bA1 : -2147483648 ≤ a1 ∧ a1 ≤ 2147483647) (K : ∀ (g2 : Nat → Nat) (μ2 : eM) (v : Int), GE g g2 → SI g2 μ2 → Fr l_182 13 10281 g μ μ2 → (-2147483648 ≤ v ∧ v ≤ 2147483647) → ex_q (dt_fg L ρ) rc (d + 8, (f.1, f.2.1, f.2.2.1, eI v :: f.2.2.2), F, μ2)) : ex_q (dt_fg L ρ) rc (d + 7, (182, 0, [some (eR a0), some (eI (a1))], []), f :: F, μ) := by
  have F0 : Fr l_182 0 0 g μ μ := Fr.r
  refine w_t (np := 1) (l2 := [some (eR a0), some (eI (a1))]) (s2 := [eI (a1)]) rfl rfl rfl ?_
  refine b_ige (t1 := 10) (t2 := 4) rfl rfl rfl (ev_w_in (by omega) (by omega)) (fun g1 => ?_) (fun g1 => ?_)
  · have b2 : 0 ≤ a1 ∧ a1 ≤ 2147483647 := by omega
    refine w_t (np := 11) (l2 := [some (eR a0), some (eI (a1))]) (s2 := [eR a0]) rfl (s_an rfl (pos_g hI gA0 (by decide))) rfl ?_
    refine w_t (np := 12) (l2 := [some (eR a0), some (eI (a1))]) (s2 := [eR a0, eR a0]) rfl (s_an rfl (pos_g hI gA0 (by decide))) rfl ?_
    refine w_cw (np := 15) (as := []) (l2 := [some (eR a0), none]) (rest := [eR a0]) rfl rfl rfl (Nat.ble_eq.mp rfl) rfl rfl rfl (hI.kd gA0 (by decide) (n := 14) rfl) rfl ?_
    refine s_210 hI gA0 ?_
    intro g2 m3 v7 E4 I5 F6 b8
    have F9 : Fr l_182 13 10281 g μ m3 := F0.t F6 rfl
    show ex_q (dt_fg L ρ) rc (d + 7, (182, 15, [some (eR a0), some (eI (a1))], [eR v7, eR a0]), f :: F, m3)
    refine w_t (np := 16) (l2 := [some (eR a0), some (eI (a1))]) (s2 := [eI (a1), eR v7, eR a0]) rfl rfl rfl ?_
    refine w_cw (np := 19) (as := [eI (a1)]) (l2 := [some (eR v7), some (eI (a1))]) (rest := [eR a0]) rfl rfl rfl (Nat.ble_eq.mp rfl) rfl rfl rfl (I5.kd b8 (by decide) (n := 10) rfl) rfl ?_
    refine s_9 (a1 := a1) I5 b8 (by omega) ?_
    intro v10 b11
    show ex_q (dt_fg L ρ) rc (d + 7, (182, 19, [some (eR a0), some (eI (a1))], [eI (v10), eR a0]), f :: F, m3)
    refine w_cw (np := 22) (as := [eI (v10)]) (l2 := [some (eR a0), some (eI (v10))]) (rest := []) rfl rfl rfl (Nat.ble_eq.mp rfl) rfl rfl rfl (I5.kd (E4.g gA0 (by decide)) (by decide) (n := 14) rfl) rfl ?_
    refine w_t (np := 1) (l2 := [some (eR a0), some (eI (v10))]) (s2 := [eI (v10)]) rfl rfl rfl ?_
    refine b_ige (t1 := 12) (t2 := 4) rfl rfl rfl (ev_w_in (by omega) (by omega)) (fun g12 => ?_) (fun g12 => ?_)
    · have b13 : 0 ≤ v10 ∧ v10 ≤ 2147483647 := by omega
      refine w_t (np := 13) (l2 := [some (eR a0), some (eI (v10))]) (s2 := [eR a0]) rfl (s_an rfl (pos_g I5 (E4.g gA0 (by decide)) (by decide))) rfl ?_
      refine w_t (np := 14) (l2 := [some (eR a0), some (eI (v10))]) (s2 := [eI (v10), eR a0]) rfl rfl rfl ?_
      refine w_cw (np := 17) (as := [eI (v10)]) (l2 := [some (eR a0), some (eI (v10))]) (rest := []) rfl rfl rfl (Nat.ble_eq.mp rfl) rfl rfl rfl (I5.kd (E4.g gA0 (by decide)) (by decide) (n := 14) rfl) rfl ?_
      refine w_t (np := 1) (l2 := [some (eR a0), some (eI (v10))]) (s2 := [eR a0]) rfl (s_an rfl (pos_g I5 (E4.g gA0 (by decide)) (by decide))) rfl ?_
      refine w_t (np := 2) (l2 := [some (eR a0), some (eI (v10))]) (s2 := [eI (0), eR a0]) rfl rfl rfl ?_
      refine j_pf (np := 5) (w := 0) rfl rfl I5 (E4.g gA0 (by decide)) (by decide) (n := 14) rfl rfl (hO_i (lo := -2147483648) (hi := 2147483647) rfl (by decide)) ?_
      intro m13 I14 W15
      have F16 : Fr l_182 13 10281 g μ m13 := F9.w3 E4 W15 (E4.g gA0 (by decide)) rfl
      refine w_t (np := 6) (l2 := [some (eR a0), some (eI (v10))]) (s2 := [eI (v10)]) rfl rfl rfl ?_
      refine b_ri rfl rfl ?_
      show ex_q (dt_fg L ρ) rc (d + 6, (207, 17, [some (eR a0), some (eI (v10))], [eI (v10)]), (182, 22, [some (eR a0), some (eI (a1))], []) :: f :: F, m13)
      refine b_ri rfl rfl ?_
      show ex_q (dt_fg L ρ) rc (d + 7, (182, 22, [some (eR a0), some (eI (a1))], [eI (v10)]), f :: F, m13)
      exact b_ri rfl rfl (K g2 m13 (v10) E4 I14 F16 (by omega))
    · have b13 : -2147483648 ≤ v10 ∧ v10 ≤ -1 := by omega
      refine w_t (np := 5) (l2 := [some (eR a0), some (eI (v10))]) (s2 := [eR a0]) rfl (s_an rfl (pos_g I5 (E4.g gA0 (by decide)) (by decide))) rfl ?_
      refine w_t (np := 6) (l2 := [some (eR a0), some (eI (v10))]) (s2 := [eI (5), eR a0]) rfl rfl rfl ?_
      refine w_cw (np := 9) (as := [eI (5)]) (l2 := [some (eR a0), some (eI (5))]) (rest := []) rfl rfl rfl (Nat.ble_eq.mp rfl) rfl rfl rfl (I5.kd (E4.g gA0 (by decide)) (by decide) (n := 14) rfl) rfl ?_
      refine w_t (np := 1) (l2 := [some (eR a0), some (eI (5))]) (s2 := [eR a0]) rfl (s_an rfl (pos_g I5 (E4.g gA0 (by decide)) (by decide))) rfl ?_
      refine w_t (np := 2) (l2 := [some (eR a0), some (eI (5))]) (s2 := [eI (5), eR a0]) rfl rfl rfl ?_
      refine j_pf (np := 5) (w := 5) rfl rfl I5 (E4.g gA0 (by decide)) (by decide) (n := 14) rfl rfl (hO_i (lo := -2147483648) (hi := 2147483647) rfl (by decide)) ?_
      intro m13 I14 W15
      have F16 : Fr l_182 13 10281 g μ m13 := F9.w3 E4 W15 (E4.g gA0 (by decide)) rfl
      refine w_t (np := 6) (l2 := [some (eR a0), some (eI (5))]) (s2 := [eI (-1)]) rfl rfl rfl ?_
      refine b_ri rfl rfl ?_
      show ex_q (dt_fg L ρ) rc (d + 6, (207, 9, [some (eR a0), some (eI (v10))], [eI (-1)]), (182, 22, [some (eR a0), some (eI (a1))], []) :: f :: F, m13)
      refine w_go (t1 := 17) rfl rfl ?_
      refine b_ri rfl rfl ?_
      show ex_q (dt_fg L ρ) rc (d + 7, (182, 22, [some (eR a0), some (eI (a1))], [eI (-1)]), f :: F, m13)
      exact b_ri rfl rfl (K g2 m13 (-1) E4 I14 F16 (by decide))
  · have b2 : -2147483648 ≤ a1 ∧ a1 ≤ -1 := by omega
    refine w_t (np := 5) (l2 := [some (eR a0), some (eI (a1))]) (s2 := [eR a0]) rfl (s_an rfl (pos_g hI gA0 (by decide))) rfl ?_
    refine w_t (np := 6) (l2 := [some (eR a0), some (eI (a1))]) (s2 := [eI (1), eR a0]) rfl rfl rfl ?_
    refine w_cw (np := 9) (as := [eI (1)]) (l2 := [some (eR a0), some (eI (1))]) (rest := []) rfl rfl rfl (Nat.ble_eq.mp rfl) rfl rfl rfl (hI.kd gA0 (by decide) (n := 14) rfl) rfl ?_
    refine w_t (np := 1) (l2 := [some (eR a0), some (eI (1))]) (s2 := [eR a0]) rfl (s_an rfl (pos_g hI gA0 (by decide))) rfl ?_
    refine w_t (np := 2) (l2 := [some (eR a0), some (eI (1))]) (s2 := [eI (1), eR a0]) rfl rfl rfl ?_
    refine j_pf (np := 5) (w := 1) rfl rfl hI gA0 (by decide) (n := 14) rfl rfl (hO_i (lo := -2147483648) (hi := 2147483647) rfl (by decide)) ?_
    intro m2 I3 W4
    have F5 : Fr l_182 0 0 g μ m2 := F0.w W4 gA0 rfl
    refine w_t (np := 6) (l2 := [some (eR a0), some (eI (1))]) (s2 := [eI (-1)]) rfl rfl rfl ?_
    refine b_ri rfl rfl ?_
    show ex_q (dt_fg L ρ) rc (d + 7, (182, 9, [some (eR a0), some (eI (a1))], [eI (-1)]), f :: F, m2)
    exact b_ri rfl rfl (K g m2 (-1) I3.re I3 (F5.up rfl rfl) (by decide))
def l_183 : List Nat := [10760, 10761, 10762, 12032, 11776, 11520, 11264, 11008, 268, 269, 270, 265, 266, 8971, 8972, 8973, 8968, 8969, 8970, 9216, 9472, 9728]
theorem s_183 {L : Nat} {ρ : Nat → Int} {rc : eQ} {d : Nat} {f : eFr} {F : List eFr} {μ : eM} {g : Nat → Nat} {a0 : Nat} {a1 : Int} (hI : SI g μ) (gA0 : g a0 = 1) (bA1 : -2147483648 ≤ a1 ∧ a1 ≤ 2147483647) (K : ∀ (g2 : Nat → Nat) (μ2 : eM) (v : Int), GE g g2 → SI g2 μ2 → Fr l_183 13 10281 g μ μ2 → (-2147483648 ≤ v ∧ v ≤ 2147483647) → ex_q (dt_fg L ρ) rc (d + 8, (f.1, f.2.1, f.2.2.1, eI v :: f.2.2.2), F, μ2)) : ex_q (dt_fg L ρ) rc (d + 7, (183, 0, [some (eR a0), some (eI (a1))], []), f :: F, μ) := by
  have F0 : Fr l_183 0 0 g μ μ := Fr.r
  refine w_t (np := 1) (l2 := [some (eR a0), some (eI (a1))]) (s2 := [eI (a1)]) rfl rfl rfl ?_
  refine b_ige (t1 := 10) (t2 := 4) rfl rfl rfl (ev_w_in (by omega) (by omega)) (fun g1 => ?_) (fun g1 => ?_)
  · have b2 : 0 ≤ a1 ∧ a1 ≤ 2147483647 := by omega
    refine w_t (np := 11) (l2 := [some (eR a0), some (eI (a1))]) (s2 := [eR a0]) rfl (s_an rfl (pos_g hI gA0 (by decide))) rfl ?_
    refine w_t (np := 12) (l2 := [some (eR a0), some (eI (a1))]) (s2 := [eR a0, eR a0]) rfl (s_an rfl (pos_g hI gA0 (by decide))) rfl ?_
    refine w_cw (np := 15) (as := []) (l2 := [some (eR a0), none]) (rest := [eR a0]) rfl rfl rfl (Nat.ble_eq.mp rfl) rfl rfl rfl (hI.kd gA0 (by decide) (n := 14) rfl) rfl ?_
    refine s_210 hI gA0 ?_
    intro g2 m3 v7 E4 I5 F6 b8
    have F9 : Fr l_183 13 10281 g μ m3 := F0.t F6 rfl
    show ex_q (dt_fg L ρ) rc (d + 7, (183, 15, [some (eR a0), some (eI (a1))], [eR v7, eR a0]), f :: F, m3)
    refine w_t (np := 16) (l2 := [some (eR a0), some (eI (a1))]) (s2 := [eI (a1), eR v7, eR a0]) rfl rfl rfl ?_
    refine w_cw (np := 19) (as := [eI (a1)]) (l2 := [some (eR v7), some (eI (a1)), none, none]) (rest := [eR a0]) rfl rfl rfl (Nat.ble_eq.mp rfl) rfl rfl rfl (I5.kd b8 (by decide) (n := 10) rfl) rfl ?_
    refine s_10 (a1 := a1) I5 b8 (by omega) ?_
    intro v10 b11
    show ex_q (dt_fg L ρ) rc (d + 7, (183, 19, [some (eR a0), some (eI (a1))], [eI (v10), eR a0]), f :: F, m3)
    refine w_cw (np := 22) (as := [eI (v10)]) (l2 := [some (eR a0), some (eI (v10))]) (rest := []) rfl rfl rfl (Nat.ble_eq.mp rfl) rfl rfl rfl (I5.kd (E4.g gA0 (by decide)) (by decide) (n := 14) rfl) rfl ?_
    refine w_t (np := 1) (l2 := [some (eR a0), some (eI (v10))]) (s2 := [eR a0]) rfl (s_an rfl (pos_g I5 (E4.g gA0 (by decide)) (by decide))) rfl ?_
    refine w_t (np := 2) (l2 := [some (eR a0), some (eI (v10))]) (s2 := [eI (0), eR a0]) rfl rfl rfl ?_
    refine j_pf (np := 5) (w := 0) rfl rfl I5 (E4.g gA0 (by decide)) (by decide) (n := 14) rfl rfl (hO_i (lo := -2147483648) (hi := 2147483647) rfl (by decide)) ?_
    intro m12 I13 W14
    have F15 : Fr l_183 13 10281 g μ m12 := F9.w3 E4 W14 (E4.g gA0 (by decide)) rfl
    refine w_t (np := 6) (l2 := [some (eR a0), some (eI (v10))]) (s2 := [eI (v10)]) rfl rfl rfl ?_
    refine b_ri rfl rfl ?_
    show ex_q (dt_fg L ρ) rc (d + 7, (183, 22, [some (eR a0), some (eI (a1))], [eI (v10)]), f :: F, m12)
    exact b_ri rfl rfl (K g2 m12 (v10) E4 I13 F15 (by omega))
  · have b2 : -2147483648 ≤ a1 ∧ a1 ≤ -1 := by omega
    refine w_t (np := 5) (l2 := [some (eR a0), some (eI (a1))]) (s2 := [eR a0]) rfl (s_an rfl (pos_g hI gA0 (by decide))) rfl ?_
    refine w_t (np := 6) (l2 := [some (eR a0), some (eI (a1))]) (s2 := [eI (1), eR a0]) rfl rfl rfl ?_
    refine w_cw (np := 9) (as := [eI (1)]) (l2 := [some (eR a0), some (eI (1))]) (rest := []) rfl rfl rfl (Nat.ble_eq.mp rfl) rfl rfl rfl (hI.kd gA0 (by decide) (n := 14) rfl) rfl ?_
    refine w_t (np := 1) (l2 := [some (eR a0), some (eI (1))]) (s2 := [eR a0]) rfl (s_an rfl (pos_g hI gA0 (by decide))) rfl ?_
    refine w_t (np := 2) (l2 := [some (eR a0), some (eI (1))]) (s2 := [eI (1), eR a0]) rfl rfl rfl ?_
    refine j_pf (np := 5) (w := 1) rfl rfl hI gA0 (by decide) (n := 14) rfl rfl (hO_i (lo := -2147483648) (hi := 2147483647) rfl (by decide)) ?_
    intro m2 I3 W4
    have F5 : Fr l_183 0 0 g μ m2 := F0.w W4 gA0 rfl
    refine w_t (np := 6) (l2 := [some (eR a0), some (eI (1))]) (s2 := [eI (-1)]) rfl rfl rfl ?_
    refine b_ri rfl rfl ?_
    show ex_q (dt_fg L ρ) rc (d + 7, (183, 9, [some (eR a0), some (eI (a1))], [eI (-1)]), f :: F, m2)
    exact b_ri rfl rfl (K g m2 (-1) I3.re I3 (F5.up rfl rfl) (by decide))
def l_186 : List Nat := [268, 270, 265, 8971, 8972, 8973, 8968, 8969, 8970, 9216, 9472, 9728, 7430, 7431, 8448, 7936, 8192, 7680, 8704]
theorem s_186 {L : Nat} {ρ : Nat → Int} {rc : eQ} {d : Nat} {f : eFr} {F : List eFr} {μ : eM} {g : Nat → Nat} {a0 : Nat} {a1 : Int} (hI : SI g μ) (gA0 : g a0 = 1) (bA1 : -2147483648 ≤ a1 ∧ a1 ≤ 2147483647) (K : ∀ (g2 : Nat → Nat) (μ2 : eM) (v : Int), GE g g2 → SI g2 μ2 → Fr l_186 7 8159 g μ μ2 → (-2147483648 ≤ v ∧ v ≤ 2147483647) → ex_q (dt_fg L ρ) rc (d + 7, (f.1, f.2.1, f.2.2.1, eI v :: f.2.2.2), F, μ2)) : ex_q (dt_fg L ρ) rc (d + 6, (186, 0, [some (eR a0), some (eI (a1)), none, none, none], []), f :: F, μ) := by
  have F0 : Fr l_186 0 0 g μ μ := Fr.r
  refine w_t (np := 1) (l2 := [some (eR a0), some (eI (a1)), none, none, none]) (s2 := [eR a0]) rfl (s_an rfl (pos_g hI gA0 (by decide))) rfl ?_
  refine j_gr (np := 4) rfl rfl hI gA0 (by decide) (n := 14) rfl rfl rfl ?_
  intro v1 e2 b3 z4
  rcases hor2 b3 with b3 | b3
  · refine w_t (np := 5) (l2 := [some (eR a0), some (eI (a1)), none, none, none]) (s2 := [eI (a1), eR v1]) rfl rfl rfl ?_
    refine w_cw (np := 8) (as := [eI (a1)]) (l2 := [some (eR v1), some (eI (a1))]) (rest := []) rfl rfl rfl (Nat.ble_eq.mp rfl) rfl rfl rfl (hI.kd b3 (by decide) (n := 8) rfl) rfl ?_
    refine w_t (np := 1) (l2 := [some (eR v1), some (eI (a1))]) (s2 := [eI (a1)]) rfl rfl rfl ?_
    refine b_ilt (t1 := 12) (t2 := 4) rfl rfl rfl (ev_w_in (by omega) (by omega)) (fun g5 => ?_) (fun g5 => ?_)
    · have b6 : -2147483648 ≤ a1 ∧ a1 ≤ -1 := by omega
      refine w_t (np := 13) (l2 := [some (eR v1), some (eI (a1))]) (s2 := [eI (1)]) rfl rfl rfl ?_
      refine w_go (t1 := 17) rfl rfl ?_
      refine b_rz rfl rfl (Or.inr rfl) ?_
      show ex_q (dt_fg L ρ) rc (d + 6, (186, 8, [some (eR a0), some (eI (a1)), none, none, none], [eI (1)]), f :: F, μ)
      refine b_ieq (t1 := 17) (t2 := 11) rfl rfl rfl rfl (fun g6 => absurd g6 (by decide)) (fun g6 => ?_)
      refine w_t (np := 12) (l2 := [some (eR a0), some (eI (a1)), none, none, none]) (s2 := [eR a0]) rfl (s_an rfl (pos_g hI gA0 (by decide))) rfl ?_
      refine w_t (np := 13) (l2 := [some (eR a0), some (eI (a1)), none, none, none]) (s2 := [eI (2), eR a0]) rfl rfl rfl ?_
      refine w_cw (np := 16) (as := [eI (2)]) (l2 := [some (eR a0), some (eI (2))]) (rest := []) rfl rfl rfl (Nat.ble_eq.mp rfl) rfl rfl rfl (hI.kd gA0 (by decide) (n := 14) rfl) rfl ?_
      refine w_t (np := 1) (l2 := [some (eR a0), some (eI (2))]) (s2 := [eR a0]) rfl (s_an rfl (pos_g hI gA0 (by decide))) rfl ?_
      refine w_t (np := 2) (l2 := [some (eR a0), some (eI (2))]) (s2 := [eI (2), eR a0]) rfl rfl rfl ?_
      refine j_pf (np := 5) (w := 2) rfl rfl hI gA0 (by decide) (n := 14) rfl rfl (hO_i (lo := -2147483648) (hi := 2147483647) rfl (by decide)) ?_
      intro m7 I8 W9
      have F10 : Fr l_186 0 0 g μ m7 := F0.w W9 gA0 rfl
      refine w_t (np := 6) (l2 := [some (eR a0), some (eI (2))]) (s2 := [eI (-1)]) rfl rfl rfl ?_
      refine b_ri rfl rfl ?_
      show ex_q (dt_fg L ρ) rc (d + 6, (186, 16, [some (eR a0), some (eI (a1)), none, none, none], [eI (-1)]), f :: F, m7)
      exact b_ri rfl rfl (K g m7 (-1) I8.re I8 (F10.up rfl rfl) (by decide))
    · have b6 : 0 ≤ a1 ∧ a1 ≤ 2147483647 := by omega
      refine w_t (np := 5) (l2 := [some (eR v1), some (eI (a1))]) (s2 := [eI (a1)]) rfl rfl rfl ?_
      refine w_t (np := 6) (l2 := [some (eR v1), some (eI (a1))]) (s2 := [eR v1, eI (a1)]) rfl (s_an rfl (pos_g hI b3 (by decide))) rfl ?_
      refine j_gi (np := 9) rfl rfl rfl hI b3 (by decide) (n := 8) rfl rfl (lo := 0) (hi := 50) rfl ?_
      intro v6 e7 b8
      refine b_clt (t1 := 16) (t2 := 12) rfl rfl rfl (ev_w_in (by omega) (by omega)) (ev_w_in (by omega) (by omega)) (fun g9 => ?_) (fun g9 => ?_)
      · have b10 : 0 ≤ a1 ∧ a1 ≤ 49 := by omega
        have b11 : 1 ≤ v6 ∧ v6 ≤ 50 := by omega
        refine w_t (np := 17) (l2 := [some (eR v1), some (eI (a1))]) (s2 := [eI (0)]) rfl rfl rfl ?_
        refine b_rz rfl rfl (Or.inl rfl) ?_
        show ex_q (dt_fg L ρ) rc (d + 6, (186, 8, [some (eR a0), some (eI (a1)), none, none, none], [eI (0)]), f :: F, μ)
        refine b_ieq (t1 := 17) (t2 := 11) rfl rfl rfl rfl (fun g10 => ?_) (fun g10 => absurd g10 (by decide))
        refine w_t (np := 18) (l2 := [some (eR a0), some (eI (a1)), none, none, none]) (s2 := [eR a0]) rfl (s_an rfl (pos_g hI gA0 (by decide))) rfl ?_
        refine j_gr (np := 21) rfl rfl hI gA0 (by decide) (n := 14) rfl rfl rfl ?_
        intro v11 e12 b13 z14
        have b13 : g v11 = 29 := Nat.eq_of_beq_eq_true b13
        refine j_gi (np := 24) rfl rfl rfl hI b13 (by decide) (n := 7) rfl rfl (lo := 0) (hi := 24) rfl ?_
        intro v15 e16 b17
        refine w_t (np := 26) (l2 := [some (eR a0), some (eI (a1)), none, none, none]) (s2 := [eI (24), eI (v15)]) rfl rfl rfl ?_
        refine b_clt (t1 := 35) (t2 := 29) rfl rfl rfl (ev_w_in (by omega) (by omega)) rfl (fun g18 => ?_) (fun g18 => ?_)
        · have b19 : 0 ≤ v15 ∧ v15 ≤ 23 := by omega
          refine w_t (np := 36) (l2 := [some (eR a0), some (eI (a1)), none, none, none]) (s2 := [eR a0]) rfl (s_an rfl (pos_g hI gA0 (by decide))) rfl ?_
          refine w_cw (np := 39) (as := []) (l2 := [some (eR a0)]) (rest := []) rfl rfl rfl (Nat.ble_eq.mp rfl) rfl rfl rfl (hI.kd gA0 (by decide) (n := 14) rfl) rfl ?_
          refine s_209 hI gA0 ?_
          intro g19 m20 v24 E21 I22 F23 b25
          have F26 : Fr l_186 7 8159 g μ m20 := F0.t F23 rfl
          show ex_q (dt_fg L ρ) rc (d + 6, (186, 39, [some (eR a0), some (eI (a1)), none, none, none], [eR v24]), f :: F, m20)
          refine w_t (np := 40) (l2 := [some (eR a0), some (eI (a1)), none, none, none]) (s2 := [eI (a1), eR v24]) rfl rfl rfl ?_
          refine w_cw (np := 43) (as := [eI (a1)]) (l2 := [some (eR v24), some (eI (a1)), none, none]) (rest := []) rfl rfl rfl (Nat.ble_eq.mp rfl) rfl rfl rfl (I22.kd b25 (by decide) (n := 15) rfl) rfl ?_
          refine s_117 (a1 := a1) I22 b25 (by omega) ?_
          intro v27 b28
          show ex_q (dt_fg L ρ) rc (d + 6, (186, 43, [some (eR a0), some (eI (a1)), none, none, none], [eI (v27)]), f :: F, m20)
          refine w_t (np := 44) (l2 := [some (eR a0), some (eI (a1)), some (eI (v27)), none, none]) (s2 := []) rfl rfl rfl ?_
          refine w_t (np := 45) (l2 := [some (eR a0), some (eI (a1)), some (eI (v27)), none, none]) (s2 := [eI (v27)]) rfl rfl rfl ?_
          refine b_ige (t1 := 54) (t2 := 48) rfl rfl rfl (ev_w_in (by omega) (by omega)) (fun g29 => ?_) (fun g29 => ?_)
          · have b30 : 0 ≤ v27 ∧ v27 ≤ 889 := by omega
            refine w_t (np := 55) (l2 := [some (eR a0), some (eI (a1)), some (eI (v27)), none, none]) (s2 := [eI (a1)]) rfl rfl rfl ?_
            refine w_t (np := 56) (l2 := [some (eR a0), some (eI (a1)), some (eI (v27)), none, none]) (s2 := [eI (v27), eI (a1)]) rfl rfl rfl ?_
            refine w_cu (np := 59) (as := [eI (a1), eI (v27)]) (l2 := [some (eI (a1)), some (eI (v27))]) (rest := []) rfl rfl rfl (Nat.ble_eq.mp rfl) rfl rfl rfl rfl ?_
            refine w_t (np := 1) (l2 := [some (eI (a1)), some (eI (v27))]) (s2 := [eI (a1)]) rfl rfl rfl ?_
            refine w_t (np := 2) (l2 := [some (eI (a1)), some (eI (v27))]) (s2 := [eI (v27), eI (a1)]) rfl rfl rfl ?_
            refine b_cgt (t1 := 9) (t2 := 5) rfl rfl rfl (ev_w_in (by omega) (by omega)) (ev_w_in (by omega) (by omega)) (fun g30 => ?_) (fun g30 => ?_)
            · have b31 : 1 ≤ a1 ∧ a1 ≤ 49 := by omega
              have b32 : 0 ≤ v27 ∧ v27 ≤ 48 := by omega
              refine w_t (np := 10) (l2 := [some (eI (a1)), some (eI (v27))]) (s2 := [eI (v27)]) rfl rfl rfl ?_
              refine b_ri rfl rfl ?_
              show ex_q (dt_fg L ρ) rc (d + 6, (186, 59, [some (eR a0), some (eI (a1)), some (eI (v27)), none, none], [eI (v27)]), f :: F, m20)
              refine w_t (np := 60) (l2 := [some (eR a0), some (eI (a1)), some (eI (v27)), some (eI (v27)), none]) (s2 := []) rfl rfl rfl ?_
              refine w_t (np := 61) (l2 := [some (eR a0), some (eI (a1)), some (eI (v27)), some (eI (v27)), none]) (s2 := [eR a0]) rfl (s_an rfl (pos_g I22 (E21.g gA0 (by decide)) (by decide))) rfl ?_
              refine w_gf (np := 64) (v := eR v1) rfl rfl (I22.kd (E21.g gA0 (by decide)) (by decide) (n := 14) rfl) (by rw [(F23.k e2 gA0 (by decide) rfl)]; rfl) ?_
              refine w_t (np := 65) (l2 := [some (eR a0), some (eI (a1)), some (eI (v27)), some (eI (v27)), none]) (s2 := [eI (v27), eR v1]) rfl rfl rfl ?_
              refine w_cw (np := 68) (as := [eI (v27)]) (l2 := [some (eR v1), some (eI (v27))]) (rest := []) rfl rfl rfl (Nat.ble_eq.mp rfl) rfl rfl rfl (I22.kd (E21.g b3 (by decide)) (by decide) (n := 8) rfl) rfl ?_
              refine s_24 (a1 := v27) I22 (E21.g b3 (by decide)) (by omega) ?_
              intro v31 b32
              show ex_q (dt_fg L ρ) rc (d + 6, (186, 68, [some (eR a0), some (eI (a1)), some (eI (v27)), some (eI (v27)), none], [eI (v31)]), f :: F, m20)
              refine b_ile (t1 := 75) (t2 := 71) rfl rfl rfl (ev_w_in (by omega) (by omega)) (fun g33 => ?_) (fun g33 => ?_)
              · have b34 : -1 ≤ v31 ∧ v31 ≤ 0 := by omega
                refine w_t (np := 76) (l2 := [some (eR a0), some (eI (a1)), some (eI (v27)), some (eI (v27)), none]) (s2 := [eI (1)]) rfl rfl rfl ?_
                refine w_t (np := 78) (l2 := [some (eR a0), some (eI (a1)), some (eI (v27)), some (eI (v27)), some (eI (1))]) (s2 := []) rfl rfl rfl ?_
                refine w_t (np := 79) (l2 := [some (eR a0), some (eI (a1)), some (eI (v27)), some (eI (v27)), some (eI (1))]) (s2 := [eR a0]) rfl (s_an rfl (pos_g I22 (E21.g gA0 (by decide)) (by decide))) rfl ?_
                refine w_t (np := 80) (l2 := [some (eR a0), some (eI (a1)), some (eI (v27)), some (eI (v27)), some (eI (1))]) (s2 := [eR a0, eR a0]) rfl (s_an rfl (pos_g I22 (E21.g gA0 (by decide)) (by decide))) rfl ?_
                refine w_gf (np := 83) (v := eR v1) rfl rfl (I22.kd (E21.g gA0 (by decide)) (by decide) (n := 14) rfl) (by rw [(F23.k e2 gA0 (by decide) rfl)]; rfl) ?_
                refine w_t (np := 84) (l2 := [some (eR a0), some (eI (a1)), some (eI (v27)), some (eI (v27)), some (eI (1))]) (s2 := [eI (v27), eR v1, eR a0]) rfl rfl rfl ?_
                refine w_cw (np := 87) (as := [eI (v27)]) (l2 := [some (eR v1), some (eI (v27))]) (rest := [eR a0]) rfl rfl rfl (Nat.ble_eq.mp rfl) rfl rfl rfl (I22.kd (E21.g b3 (by decide)) (by decide) (n := 8) rfl) rfl ?_
                refine s_19 (a1 := v27) I22 (E21.g b3 (by decide)) (by omega) ?_
                intro v34 b35
                show ex_q (dt_fg L ρ) rc (d + 6, (186, 87, [some (eR a0), some (eI (a1)), some (eI (v27)), some (eI (v27)), some (eI (1))], [eI (v34), eR a0]), f :: F, m20)
                refine w_t (np := 88) (l2 := [some (eR a0), some (eI (a1)), some (eI (v27)), some (eI (v27)), some (eI (1))]) (s2 := [eR a0, eI (v34), eR a0]) rfl (s_an rfl (pos_g I22 (E21.g gA0 (by decide)) (by decide))) rfl ?_
                refine w_gf (np := 91) (v := eR v1) rfl rfl (I22.kd (E21.g gA0 (by decide)) (by decide) (n := 14) rfl) (by rw [(F23.k e2 gA0 (by decide) rfl)]; rfl) ?_
                refine w_t (np := 92) (l2 := [some (eR a0), some (eI (a1)), some (eI (v27)), some (eI (v27)), some (eI (1))]) (s2 := [eI (v27), eR v1, eI (v34), eR a0]) rfl rfl rfl ?_
                refine w_t (np := 93) (l2 := [some (eR a0), some (eI (a1)), some (eI (v27)), some (eI (v27)), some (eI (1))]) (s2 := [eI (0), eI (v27), eR v1, eI (v34), eR a0]) rfl rfl rfl ?_
                refine w_cw (np := 96) (as := [eI (v27), eI (0)]) (l2 := [some (eR v1), some (eI (v27)), some (eI (0))]) (rest := [eI (v34), eR a0]) rfl rfl rfl (Nat.ble_eq.mp rfl) rfl rfl rfl (I22.kd (E21.g b3 (by decide)) (by decide) (n := 8) rfl) rfl ?_
                refine s_22 (a1 := v27) (a2 := 0) I22 (E21.g b3 (by decide)) (by omega) (by decide) ?_
                intro v36 b37
                show ex_q (dt_fg L ρ) rc (d + 6, (186, 96, [some (eR a0), some (eI (a1)), some (eI (v27)), some (eI (v27)), some (eI (1))], [eJ (v36), eI (v34), eR a0]), f :: F, m20)
                refine w_t (np := 97) (l2 := [some (eR a0), some (eI (a1)), some (eI (v27)), some (eI (v27)), some (eI (1))]) (s2 := [eR a0, eJ (v36), eI (v34), eR a0]) rfl (s_an rfl (pos_g I22 (E21.g gA0 (by decide)) (by decide))) rfl ?_
                refine w_gf (np := 100) (v := eR v1) rfl rfl (I22.kd (E21.g gA0 (by decide)) (by decide) (n := 14) rfl) (by rw [(F23.k e2 gA0 (by decide) rfl)]; rfl) ?_
                refine w_t (np := 101) (l2 := [some (eR a0), some (eI (a1)), some (eI (v27)), some (eI (v27)), some (eI (1))]) (s2 := [eI (v27), eR v1, eJ (v36), eI (v34), eR a0]) rfl rfl rfl ?_
                refine w_t (np := 102) (l2 := [some (eR a0), some (eI (a1)), some (eI (v27)), some (eI (v27)), some (eI (1))]) (s2 := [eI (0), eI (v27), eR v1, eJ (v36), eI (v34), eR a0]) rfl rfl rfl ?_
                refine w_cw (np := 105) (as := [eI (v27), eI (0)]) (l2 := [some (eR v1), some (eI (v27)), some (eI (0))]) (rest := [eJ (v36), eI (v34), eR a0]) rfl rfl rfl (Nat.ble_eq.mp rfl) rfl rfl rfl (I22.kd (E21.g b3 (by decide)) (by decide) (n := 8) rfl) rfl ?_
                refine s_23 (a1 := v27) (a2 := 0) I22 (E21.g b3 (by decide)) (by omega) (by decide) ?_
                intro v38 b39
                show ex_q (dt_fg L ρ) rc (d + 6, (186, 105, [some (eR a0), some (eI (a1)), some (eI (v27)), some (eI (v27)), some (eI (1))], [eI (v38), eJ (v36), eI (v34), eR a0]), f :: F, m20)
                refine w_t (np := 107) (l2 := [some (eR a0), some (eI (a1)), some (eI (v27)), some (eI (v27)), some (eI (1))]) (s2 := [eI (1), eI (v38), eJ (v36), eI (v34), eR a0]) rfl rfl rfl ?_
                refine w_cw (np := 110) (as := [eI (v34), eJ (v36), eI (v38), eI (1)]) (l2 := [some (eR a0), some (eI (v34)), some (eJ (v36)), none, some (eI (v38)), some (eI (1)), none]) (rest := []) rfl rfl rfl (Nat.ble_eq.mp rfl) rfl rfl rfl (I22.kd (E21.g gA0 (by decide)) (by decide) (n := 14) rfl) rfl ?_
                refine s_211 (a1 := v34) (a4 := v38) (a5 := 1) I22 (E21.g gA0 (by decide)) (by omega) b37 (by omega) (by decide) ?_
                intro m40 v43 I41 F42 b44
                have F45 : Fr l_186 7 8159 g μ m40 := F26.t3 E21 F42 rfl
                show ex_q (dt_fg L ρ) rc (d + 6, (186, 110, [some (eR a0), some (eI (a1)), some (eI (v27)), some (eI (v27)), some (eI (1))], [eI (v43)]), f :: F, m40)
                exact b_ri rfl rfl (K g19 m40 (v43) E21 I41 F45 (by omega))
              · have b34 : 1 ≤ v31 ∧ v31 ≤ 1 := by omega
                refine w_t (np := 72) (l2 := [some (eR a0), some (eI (a1)), some (eI (v27)), some (eI (v27)), none]) (s2 := [eI (0)]) rfl rfl rfl ?_
                refine w_go (t1 := 76) rfl rfl ?_
                refine w_t (np := 78) (l2 := [some (eR a0), some (eI (a1)), some (eI (v27)), some (eI (v27)), some (eI (0))]) (s2 := []) rfl rfl rfl ?_
                refine w_t (np := 79) (l2 := [some (eR a0), some (eI (a1)), some (eI (v27)), some (eI (v27)), some (eI (0))]) (s2 := [eR a0]) rfl (s_an rfl (pos_g I22 (E21.g gA0 (by decide)) (by decide))) rfl ?_
                refine w_t (np := 80) (l2 := [some (eR a0), some (eI (a1)), some (eI (v27)), some (eI (v27)), some (eI (0))]) (s2 := [eR a0, eR a0]) rfl (s_an rfl (pos_g I22 (E21.g gA0 (by decide)) (by decide))) rfl ?_
                refine w_gf (np := 83) (v := eR v1) rfl rfl (I22.kd (E21.g gA0 (by decide)) (by decide) (n := 14) rfl) (by rw [(F23.k e2 gA0 (by decide) rfl)]; rfl) ?_
                refine w_t (np := 84) (l2 := [some (eR a0), some (eI (a1)), some (eI (v27)), some (eI (v27)), some (eI (0))]) (s2 := [eI (v27), eR v1, eR a0]) rfl rfl rfl ?_
                refine w_cw (np := 87) (as := [eI (v27)]) (l2 := [some (eR v1), some (eI (v27))]) (rest := [eR a0]) rfl rfl rfl (Nat.ble_eq.mp rfl) rfl rfl rfl (I22.kd (E21.g b3 (by decide)) (by decide) (n := 8) rfl) rfl ?_
                refine s_19 (a1 := v27) I22 (E21.g b3 (by decide)) (by omega) ?_
                intro v34 b35
                show ex_q (dt_fg L ρ) rc (d + 6, (186, 87, [some (eR a0), some (eI (a1)), some (eI (v27)), some (eI (v27)), some (eI (0))], [eI (v34), eR a0]), f :: F, m20)
                refine w_t (np := 88) (l2 := [some (eR a0), some (eI (a1)), some (eI (v27)), some (eI (v27)), some (eI (0))]) (s2 := [eR a0, eI (v34), eR a0]) rfl (s_an rfl (pos_g I22 (E21.g gA0 (by decide)) (by decide))) rfl ?_
                refine w_gf (np := 91) (v := eR v1) rfl rfl (I22.kd (E21.g gA0 (by decide)) (by decide) (n := 14) rfl) (by rw [(F23.k e2 gA0 (by decide) rfl)]; rfl) ?_
                refine w_t (np := 92) (l2 := [some (eR a0), some (eI (a1)), some (eI (v27)), some (eI (v27)), some (eI (0))]) (s2 := [eI (v27), eR v1, eI (v34), eR a0]) rfl rfl rfl ?_
                refine w_t (np := 93) (l2 := [some (eR a0), some (eI (a1)), some (eI (v27)), some (eI (v27)), some (eI (0))]) (s2 := [eI (0), eI (v27), eR v1, eI (v34), eR a0]) rfl rfl rfl ?_
                refine w_cw (np := 96) (as := [eI (v27), eI (0)]) (l2 := [some (eR v1), some (eI (v27)), some (eI (0))]) (rest := [eI (v34), eR a0]) rfl rfl rfl (Nat.ble_eq.mp rfl) rfl rfl rfl (I22.kd (E21.g b3 (by decide)) (by decide) (n := 8) rfl) rfl ?_
                refine s_22 (a1 := v27) (a2 := 0) I22 (E21.g b3 (by decide)) (by omega) (by decide) ?_
                intro v36 b37
                show ex_q (dt_fg L ρ) rc (d + 6, (186, 96, [some (eR a0), some (eI (a1)), some (eI (v27)), some (eI (v27)), some (eI (0))], [eJ (v36), eI (v34), eR a0]), f :: F, m20)
                refine w_t (np := 97) (l2 := [some (eR a0), some (eI (a1)), some (eI (v27)), some (eI (v27)), some (eI (0))]) (s2 := [eR a0, eJ (v36), eI (v34), eR a0]) rfl (s_an rfl (pos_g I22 (E21.g gA0 (by decide)) (by decide))) rfl ?_
                refine w_gf (np := 100) (v := eR v1) rfl rfl (I22.kd (E21.g gA0 (by decide)) (by decide) (n := 14) rfl) (by rw [(F23.k e2 gA0 (by decide) rfl)]; rfl) ?_
                refine w_t (np := 101) (l2 := [some (eR a0), some (eI (a1)), some (eI (v27)), some (eI (v27)), some (eI (0))]) (s2 := [eI (v27), eR v1, eJ (v36), eI (v34), eR a0]) rfl rfl rfl ?_
                refine w_t (np := 102) (l2 := [some (eR a0), some (eI (a1)), some (eI (v27)), some (eI (v27)), some (eI (0))]) (s2 := [eI (0), eI (v27), eR v1, eJ (v36), eI (v34), eR a0]) rfl rfl rfl ?_
                refine w_cw (np := 105) (as := [eI (v27), eI (0)]) (l2 := [some (eR v1), some (eI (v27)), some (eI (0))]) (rest := [eJ (v36), eI (v34), eR a0]) rfl rfl rfl (Nat.ble_eq.mp rfl) rfl rfl rfl (I22.kd (E21.g b3 (by decide)) (by decide) (n := 8) rfl) rfl ?_
                refine s_23 (a1 := v27) (a2 := 0) I22 (E21.g b3 (by decide)) (by omega) (by decide) ?_
                intro v38 b39
                show ex_q (dt_fg L ρ) rc (d + 6, (186, 105, [some (eR a0), some (eI (a1)), some (eI (v27)), some (eI (v27)), some (eI (0))], [eI (v38), eJ (v36), eI (v34), eR a0]), f :: F, m20)
                refine w_t (np := 107) (l2 := [some (eR a0), some (eI (a1)), some (eI (v27)), some (eI (v27)), some (eI (0))]) (s2 := [eI (0), eI (v38), eJ (v36), eI (v34), eR a0]) rfl rfl rfl ?_
                refine w_cw (np := 110) (as := [eI (v34), eJ (v36), eI (v38), eI (0)]) (l2 := [some (eR a0), some (eI (v34)), some (eJ (v36)), none, some (eI (v38)), some (eI (0)), none]) (rest := []) rfl rfl rfl (Nat.ble_eq.mp rfl) rfl rfl rfl (I22.kd (E21.g gA0 (by decide)) (by decide) (n := 14) rfl) rfl ?_
                refine s_211 (a1 := v34) (a4 := v38) (a5 := 0) I22 (E21.g gA0 (by decide)) (by omega) b37 (by omega) (by decide) ?_
                intro m40 v43 I41 F42 b44
                have F45 : Fr l_186 7 8159 g μ m40 := F26.t3 E21 F42 rfl
                show ex_q (dt_fg L ρ) rc (d + 6, (186, 110, [some (eR a0), some (eI (a1)), some (eI (v27)), some (eI (v27)), some (eI (0))], [eI (v43)]), f :: F, m40)
                exact b_ri rfl rfl (K g19 m40 (v43) E21 I41 F45 (by omega))
            · refine w_t (np := 6) (l2 := [some (eI (a1)), some (eI (v27))]) (s2 := [eI (a1)]) rfl rfl rfl ?_
              refine w_go (t1 := 10) rfl rfl ?_
              refine b_ri rfl rfl ?_
              show ex_q (dt_fg L ρ) rc (d + 6, (186, 59, [some (eR a0), some (eI (a1)), some (eI (v27)), none, none], [eI (a1)]), f :: F, m20)
              refine w_t (np := 60) (l2 := [some (eR a0), some (eI (a1)), some (eI (v27)), some (eI (a1)), none]) (s2 := []) rfl rfl rfl ?_
              refine w_t (np := 61) (l2 := [some (eR a0), some (eI (a1)), some (eI (v27)), some (eI (a1)), none]) (s2 := [eR a0]) rfl (s_an rfl (pos_g I22 (E21.g gA0 (by decide)) (by decide))) rfl ?_
              refine w_gf (np := 64) (v := eR v1) rfl rfl (I22.kd (E21.g gA0 (by decide)) (by decide) (n := 14) rfl) (by rw [(F23.k e2 gA0 (by decide) rfl)]; rfl) ?_
              refine w_t (np := 65) (l2 := [some (eR a0), some (eI (a1)), some (eI (v27)), some (eI (a1)), none]) (s2 := [eI (a1), eR v1]) rfl rfl rfl ?_
              refine w_cw (np := 68) (as := [eI (a1)]) (l2 := [some (eR v1), some (eI (a1))]) (rest := []) rfl rfl rfl (Nat.ble_eq.mp rfl) rfl rfl rfl (I22.kd (E21.g b3 (by decide)) (by decide) (n := 8) rfl) rfl ?_
              refine s_24 (a1 := a1) I22 (E21.g b3 (by decide)) (by omega) ?_
              intro v31 b32
              show ex_q (dt_fg L ρ) rc (d + 6, (186, 68, [some (eR a0), some (eI (a1)), some (eI (v27)), some (eI (a1)), none], [eI (v31)]), f :: F, m20)
              refine b_ile (t1 := 75) (t2 := 71) rfl rfl rfl (ev_w_in (by omega) (by omega)) (fun g33 => ?_) (fun g33 => ?_)
              · have b34 : -1 ≤ v31 ∧ v31 ≤ 0 := by omega
                refine w_t (np := 76) (l2 := [some (eR a0), some (eI (a1)), some (eI (v27)), some (eI (a1)), none]) (s2 := [eI (1)]) rfl rfl rfl ?_
                refine w_t (np := 78) (l2 := [some (eR a0), some (eI (a1)), some (eI (v27)), some (eI (a1)), some (eI (1))]) (s2 := []) rfl rfl rfl ?_
                refine w_t (np := 79) (l2 := [some (eR a0), some (eI (a1)), some (eI (v27)), some (eI (a1)), some (eI (1))]) (s2 := [eR a0]) rfl (s_an rfl (pos_g I22 (E21.g gA0 (by decide)) (by decide))) rfl ?_
                refine w_t (np := 80) (l2 := [some (eR a0), some (eI (a1)), some (eI (v27)), some (eI (a1)), some (eI (1))]) (s2 := [eR a0, eR a0]) rfl (s_an rfl (pos_g I22 (E21.g gA0 (by decide)) (by decide))) rfl ?_
                refine w_gf (np := 83) (v := eR v1) rfl rfl (I22.kd (E21.g gA0 (by decide)) (by decide) (n := 14) rfl) (by rw [(F23.k e2 gA0 (by decide) rfl)]; rfl) ?_
                refine w_t (np := 84) (l2 := [some (eR a0), some (eI (a1)), some (eI (v27)), some (eI (a1)), some (eI (1))]) (s2 := [eI (a1), eR v1, eR a0]) rfl rfl rfl ?_
                refine w_cw (np := 87) (as := [eI (a1)]) (l2 := [some (eR v1), some (eI (a1))]) (rest := [eR a0]) rfl rfl rfl (Nat.ble_eq.mp rfl) rfl rfl rfl (I22.kd (E21.g b3 (by decide)) (by decide) (n := 8) rfl) rfl ?_
                refine s_19 (a1 := a1) I22 (E21.g b3 (by decide)) (by omega) ?_
                intro v34 b35
                show ex_q (dt_fg L ρ) rc (d + 6, (186, 87, [some (eR a0), some (eI (a1)), some (eI (v27)), some (eI (a1)), some (eI (1))], [eI (v34), eR a0]), f :: F, m20)
                refine w_t (np := 88) (l2 := [some (eR a0), some (eI (a1)), some (eI (v27)), some (eI (a1)), some (eI (1))]) (s2 := [eR a0, eI (v34), eR a0]) rfl (s_an rfl (pos_g I22 (E21.g gA0 (by decide)) (by decide))) rfl ?_
                refine w_gf (np := 91) (v := eR v1) rfl rfl (I22.kd (E21.g gA0 (by decide)) (by decide) (n := 14) rfl) (by rw [(F23.k e2 gA0 (by decide) rfl)]; rfl) ?_
                refine w_t (np := 92) (l2 := [some (eR a0), some (eI (a1)), some (eI (v27)), some (eI (a1)), some (eI (1))]) (s2 := [eI (a1), eR v1, eI (v34), eR a0]) rfl rfl rfl ?_
                refine w_t (np := 93) (l2 := [some (eR a0), some (eI (a1)), some (eI (v27)), some (eI (a1)), some (eI (1))]) (s2 := [eI (0), eI (a1), eR v1, eI (v34), eR a0]) rfl rfl rfl ?_
                refine w_cw (np := 96) (as := [eI (a1), eI (0)]) (l2 := [some (eR v1), some (eI (a1)), some (eI (0))]) (rest := [eI (v34), eR a0]) rfl rfl rfl (Nat.ble_eq.mp rfl) rfl rfl rfl (I22.kd (E21.g b3 (by decide)) (by decide) (n := 8) rfl) rfl ?_
                refine s_22 (a1 := a1) (a2 := 0) I22 (E21.g b3 (by decide)) (by omega) (by decide) ?_
                intro v36 b37
                show ex_q (dt_fg L ρ) rc (d + 6, (186, 96, [some (eR a0), some (eI (a1)), some (eI (v27)), some (eI (a1)), some (eI (1))], [eJ (v36), eI (v34), eR a0]), f :: F, m20)
                refine w_t (np := 97) (l2 := [some (eR a0), some (eI (a1)), some (eI (v27)), some (eI (a1)), some (eI (1))]) (s2 := [eR a0, eJ (v36), eI (v34), eR a0]) rfl (s_an rfl (pos_g I22 (E21.g gA0 (by decide)) (by decide))) rfl ?_
                refine w_gf (np := 100) (v := eR v1) rfl rfl (I22.kd (E21.g gA0 (by decide)) (by decide) (n := 14) rfl) (by rw [(F23.k e2 gA0 (by decide) rfl)]; rfl) ?_
                refine w_t (np := 101) (l2 := [some (eR a0), some (eI (a1)), some (eI (v27)), some (eI (a1)), some (eI (1))]) (s2 := [eI (a1), eR v1, eJ (v36), eI (v34), eR a0]) rfl rfl rfl ?_
                refine w_t (np := 102) (l2 := [some (eR a0), some (eI (a1)), some (eI (v27)), some (eI (a1)), some (eI (1))]) (s2 := [eI (0), eI (a1), eR v1, eJ (v36), eI (v34), eR a0]) rfl rfl rfl ?_
                refine w_cw (np := 105) (as := [eI (a1), eI (0)]) (l2 := [some (eR v1), some (eI (a1)), some (eI (0))]) (rest := [eJ (v36), eI (v34), eR a0]) rfl rfl rfl (Nat.ble_eq.mp rfl) rfl rfl rfl (I22.kd (E21.g b3 (by decide)) (by decide) (n := 8) rfl) rfl ?_
                refine s_23 (a1 := a1) (a2 := 0) I22 (E21.g b3 (by decide)) (by omega) (by decide) ?_
                intro v38 b39
                show ex_q (dt_fg L ρ) rc (d + 6, (186, 105, [some (eR a0), some (eI (a1)), some (eI (v27)), some (eI (a1)), some (eI (1))], [eI (v38), eJ (v36), eI (v34), eR a0]), f :: F, m20)
                refine w_t (np := 107) (l2 := [some (eR a0), some (eI (a1)), some (eI (v27)), some (eI (a1)), some (eI (1))]) (s2 := [eI (1), eI (v38), eJ (v36), eI (v34), eR a0]) rfl rfl rfl ?_
                refine w_cw (np := 110) (as := [eI (v34), eJ (v36), eI (v38), eI (1)]) (l2 := [some (eR a0), some (eI (v34)), some (eJ (v36)), none, some (eI (v38)), some (eI (1)), none]) (rest := []) rfl rfl rfl (Nat.ble_eq.mp rfl) rfl rfl rfl (I22.kd (E21.g gA0 (by decide)) (by decide) (n := 14) rfl) rfl ?_
                refine s_211 (a1 := v34) (a4 := v38) (a5 := 1) I22 (E21.g gA0 (by decide)) (by omega) b37 (by omega) (by decide) ?_
                intro m40 v43 I41 F42 b44
                have F45 : Fr l_186 7 8159 g μ m40 := F26.t3 E21 F42 rfl
                show ex_q (dt_fg L ρ) rc (d + 6, (186, 110, [some (eR a0), some (eI (a1)), some (eI (v27)), some (eI (a1)), some (eI (1))], [eI (v43)]), f :: F, m40)
                exact b_ri rfl rfl (K g19 m40 (v43) E21 I41 F45 (by omega))
              · have b34 : 1 ≤ v31 ∧ v31 ≤ 1 := by omega
                refine w_t (np := 72) (l2 := [some (eR a0), some (eI (a1)), some (eI (v27)), some (eI (a1)), none]) (s2 := [eI (0)]) rfl rfl rfl ?_
                refine w_go (t1 := 76) rfl rfl ?_
                refine w_t (np := 78) (l2 := [some (eR a0), some (eI (a1)), some (eI (v27)), some (eI (a1)), some (eI (0))]) (s2 := []) rfl rfl rfl ?_
                refine w_t (np := 79) (l2 := [some (eR a0), some (eI (a1)), some (eI (v27)), some (eI (a1)), some (eI (0))]) (s2 := [eR a0]) rfl (s_an rfl (pos_g I22 (E21.g gA0 (by decide)) (by decide))) rfl ?_
                refine w_t (np := 80) (l2 := [some (eR a0), some (eI (a1)), some (eI (v27)), some (eI (a1)), some (eI (0))]) (s2 := [eR a0, eR a0]) rfl (s_an rfl (pos_g I22 (E21.g gA0 (by decide)) (by decide))) rfl ?_
                refine w_gf (np := 83) (v := eR v1) rfl rfl (I22.kd (E21.g gA0 (by decide)) (by decide) (n := 14) rfl) (by rw [(F23.k e2 gA0 (by decide) rfl)]; rfl) ?_
                refine w_t (np := 84) (l2 := [some (eR a0), some (eI (a1)), some (eI (v27)), some (eI (a1)), some (eI (0))]) (s2 := [eI (a1), eR v1, eR a0]) rfl rfl rfl ?_
                refine w_cw (np := 87) (as := [eI (a1)]) (l2 := [some (eR v1), some (eI (a1))]) (rest := [eR a0]) rfl rfl rfl (Nat.ble_eq.mp rfl) rfl rfl rfl (I22.kd (E21.g b3 (by decide)) (by decide) (n := 8) rfl) rfl ?_
                refine s_19 (a1 := a1) I22 (E21.g b3 (by decide)) (by omega) ?_
                intro v34 b35
                show ex_q (dt_fg L ρ) rc (d + 6, (186, 87, [some (eR a0), some (eI (a1)), some (eI (v27)), some (eI (a1)), some (eI (0))], [eI (v34), eR a0]), f :: F, m20)
                refine w_t (np := 88) (l2 := [some (eR a0), some (eI (a1)), some (eI (v27)), some (eI (a1)), some (eI (0))]) (s2 := [eR a0, eI (v34), eR a0]) rfl (s_an rfl (pos_g I22 (E21.g gA0 (by decide)) (by decide))) rfl ?_
                refine w_gf (np := 91) (v := eR v1) rfl rfl (I22.kd (E21.g gA0 (by decide)) (by decide) (n := 14) rfl) (by rw [(F23.k e2 gA0 (by decide) rfl)]; rfl) ?_
                refine w_t (np := 92) (l2 := [some (eR a0), some (eI (a1)), some (eI (v27)), some (eI (a1)), some (eI (0))]) (s2 := [eI (a1), eR v1, eI (v34), eR a0]) rfl rfl rfl ?_
                refine w_t (np := 93) (l2 := [some (eR a0), some (eI (a1)), some (eI (v27)), some (eI (a1)), some (eI (0))]) (s2 := [eI (0), eI (a1), eR v1, eI (v34), eR a0]) rfl rfl rfl ?_
                refine w_cw (np := 96) (as := [eI (a1), eI (0)]) (l2 := [some (eR v1), some (eI (a1)), some (eI (0))]) (rest := [eI (v34), eR a0]) rfl rfl rfl (Nat.ble_eq.mp rfl) rfl rfl rfl (I22.kd (E21.g b3 (by decide)) (by decide) (n := 8) rfl) rfl ?_
                refine s_22 (a1 := a1) (a2 := 0) I22 (E21.g b3 (by decide)) (by omega) (by decide) ?_
                intro v36 b37
                show ex_q (dt_fg L ρ) rc (d + 6, (186, 96, [some (eR a0), some (eI (a1)), some (eI (v27)), some (eI (a1)), some (eI (0))], [eJ (v36), eI (v34), eR a0]), f :: F, m20)
                refine w_t (np := 97) (l2 := [some (eR a0), some (eI (a1)), some (eI (v27)), some (eI (a1)), some (eI (0))]) (s2 := [eR a0, eJ (v36), eI (v34), eR a0]) rfl (s_an rfl (pos_g I22 (E21.g gA0 (by decide)) (by decide))) rfl ?_
                refine w_gf (np := 100) (v := eR v1) rfl rfl (I22.kd (E21.g gA0 (by decide)) (by decide) (n := 14) rfl) (by rw [(F23.k e2 gA0 (by decide) rfl)]; rfl) ?_
                refine w_t (np := 101) (l2 := [some (eR a0), some (eI (a1)), some (eI (v27)), some (eI (a1)), some (eI (0))]) (s2 := [eI (a1), eR v1, eJ (v36), eI (v34), eR a0]) rfl rfl rfl ?_
                refine w_t (np := 102) (l2 := [some (eR a0), some (eI (a1)), some (eI (v27)), some (eI (a1)), some (eI (0))]) (s2 := [eI (0), eI (a1), eR v1, eJ (v36), eI (v34), eR a0]) rfl rfl rfl ?_
                refine w_cw (np := 105) (as := [eI (a1), eI (0)]) (l2 := [some (eR v1), some (eI (a1)), some (eI (0))]) (rest := [eJ (v36), eI (v34), eR a0]) rfl rfl rfl (Nat.ble_eq.mp rfl) rfl rfl rfl (I22.kd (E21.g b3 (by decide)) (by decide) (n := 8) rfl) rfl ?_
                refine s_23 (a1 := a1) (a2 := 0) I22 (E21.g b3 (by decide)) (by omega) (by decide) ?_
                intro v38 b39
                show ex_q (dt_fg L ρ) rc (d + 6, (186, 105, [some (eR a0), some (eI (a1)), some (eI (v27)), some (eI (a1)), some (eI (0))], [eI (v38), eJ (v36), eI (v34), eR a0]), f :: F, m20)
                refine w_t (np := 107) (l2 := [some (eR a0), some (eI (a1)), some (eI (v27)), some (eI (a1)), some (eI (0))]) (s2 := [eI (0), eI (v38), eJ (v36), eI (v34), eR a0]) rfl rfl rfl ?_
                refine w_cw (np := 110) (as := [eI (v34), eJ (v36), eI (v38), eI (0)]) (l2 := [some (eR a0), some (eI (v34)), some (eJ (v36)), none, some (eI (v38)), some (eI (0)), none]) (rest := []) rfl rfl rfl (Nat.ble_eq.mp rfl) rfl rfl rfl (I22.kd (E21.g gA0 (by decide)) (by decide) (n := 14) rfl) rfl ?_
                refine s_211 (a1 := v34) (a4 := v38) (a5 := 0) I22 (E21.g gA0 (by decide)) (by omega) b37 (by omega) (by decide) ?_
                intro m40 v43 I41 F42 b44
                have F45 : Fr l_186 7 8159 g μ m40 := F26.t3 E21 F42 rfl
                show ex_q (dt_fg L ρ) rc (d + 6, (186, 110, [some (eR a0), some (eI (a1)), some (eI (v27)), some (eI (a1)), some (eI (0))], [eI (v43)]), f :: F, m40)
                exact b_ri rfl rfl (K g19 m40 (v43) E21 I41 F45 (by omega))
          · have b30 : -1 ≤ v27 ∧ v27 ≤ -1 := by omega
            refine w_t (np := 49) (l2 := [some (eR a0), some (eI (a1)), some (eI (v27)), none, none]) (s2 := [eR a0]) rfl (s_an rfl (pos_g I22 (E21.g gA0 (by decide)) (by decide))) rfl ?_
            refine w_t (np := 50) (l2 := [some (eR a0), some (eI (a1)), some (eI (v27)), none, none]) (s2 := [eI (5), eR a0]) rfl rfl rfl ?_
            refine w_cw (np := 53) (as := [eI (5)]) (l2 := [some (eR a0), some (eI (5))]) (rest := []) rfl rfl rfl (Nat.ble_eq.mp rfl) rfl rfl rfl (I22.kd (E21.g gA0 (by decide)) (by decide) (n := 14) rfl) rfl ?_
            refine w_t (np := 1) (l2 := [some (eR a0), some (eI (5))]) (s2 := [eR a0]) rfl (s_an rfl (pos_g I22 (E21.g gA0 (by decide)) (by decide))) rfl ?_
            refine w_t (np := 2) (l2 := [some (eR a0), some (eI (5))]) (s2 := [eI (5), eR a0]) rfl rfl rfl ?_
            refine j_pf (np := 5) (w := 5) rfl rfl I22 (E21.g gA0 (by decide)) (by decide) (n := 14) rfl rfl (hO_i (lo := -2147483648) (hi := 2147483647) rfl (by decide)) ?_
            intro m30 I31 W32
            have F33 : Fr l_186 7 8159 g μ m30 := F26.w3 E21 W32 (E21.g gA0 (by decide)) rfl
            refine w_t (np := 6) (l2 := [some (eR a0), some (eI (5))]) (s2 := [eI (-1)]) rfl rfl rfl ?_
            refine b_ri rfl rfl ?_
            show ex_q (dt_fg L ρ) rc (d + 6, (186, 53, [some (eR a0), some (eI (a1)), some (eI (v27)), none, none], [eI (-1)]), f :: F, m30)
            exact b_ri rfl rfl (K g19 m30 (-1) E21 I31 F33 (by decide))
        · have b19 : 24 ≤ v15 ∧ v15 ≤ 24 := by omega
          refine w_t (np := 30) (l2 := [some (eR a0), some (eI (a1)), none, none, none]) (s2 := [eR a0]) rfl (s_an rfl (pos_g hI gA0 (by decide))) rfl ?_
          refine w_t (np := 31) (l2 := [some (eR a0), some (eI (a1)), none, none, none]) (s2 := [eI (3), eR a0]) rfl rfl rfl ?_
          refine w_cw (np := 34) (as := [eI (3)]) (l2 := [some (eR a0), some (eI (3))]) (rest := []) rfl rfl rfl (Nat.ble_eq.mp rfl) rfl rfl rfl (hI.kd gA0 (by decide) (n := 14) rfl) rfl ?_
          refine w_t (np := 1) (l2 := [some (eR a0), some (eI (3))]) (s2 := [eR a0]) rfl (s_an rfl (pos_g hI gA0 (by decide))) rfl ?_
          refine w_t (np := 2) (l2 := [some (eR a0), some (eI (3))]) (s2 := [eI (3), eR a0]) rfl rfl rfl ?_
          refine j_pf (np := 5) (w := 3) rfl rfl hI gA0 (by decide) (n := 14) rfl rfl (hO_i (lo := -2147483648) (hi := 2147483647) rfl (by decide)) ?_
          intro m19 I20 W21
          have F22 : Fr l_186 0 0 g μ m19 := F0.w W21 gA0 rfl
          refine w_t (np := 6) (l2 := [some (eR a0), some (eI (3))]) (s2 := [eI (-1)]) rfl rfl rfl ?_
          refine b_ri rfl rfl ?_
          show ex_q (dt_fg L ρ) rc (d + 6, (186, 34, [some (eR a0), some (eI (a1)), none, none, none], [eI (-1)]), f :: F, m19)
          exact b_ri rfl rfl (K g m19 (-1) I20.re I20 (F22.up rfl rfl) (by decide))
      · refine w_t (np := 13) (l2 := [some (eR v1), some (eI (a1))]) (s2 := [eI (1)]) rfl rfl rfl ?_
        refine w_go (t1 := 17) rfl rfl ?_
        refine b_rz rfl rfl (Or.inr rfl) ?_
        show ex_q (dt_fg L ρ) rc (d + 6, (186, 8, [some (eR a0), some (eI (a1)), none, none, none], [eI (1)]), f :: F, μ)
        refine b_ieq (t1 := 17) (t2 := 11) rfl rfl rfl rfl (fun g10 => absurd g10 (by decide)) (fun g10 => ?_)
        refine w_t (np := 12) (l2 := [some (eR a0), some (eI (a1)), none, none, none]) (s2 := [eR a0]) rfl (s_an rfl (pos_g hI gA0 (by decide))) rfl ?_
        refine w_t (np := 13) (l2 := [some (eR a0), some (eI (a1)), none, none, none]) (s2 := [eI (2), eR a0]) rfl rfl rfl ?_
        refine w_cw (np := 16) (as := [eI (2)]) (l2 := [some (eR a0), some (eI (2))]) (rest := []) rfl rfl rfl (Nat.ble_eq.mp rfl) rfl rfl rfl (hI.kd gA0 (by decide) (n := 14) rfl) rfl ?_
        refine w_t (np := 1) (l2 := [some (eR a0), some (eI (2))]) (s2 := [eR a0]) rfl (s_an rfl (pos_g hI gA0 (by decide))) rfl ?_
        refine w_t (np := 2) (l2 := [some (eR a0), some (eI (2))]) (s2 := [eI (2), eR a0]) rfl rfl rfl ?_
        refine j_pf (np := 5) (w := 2) rfl rfl hI gA0 (by decide) (n := 14) rfl rfl (hO_i (lo := -2147483648) (hi := 2147483647) rfl (by decide)) ?_
        intro m11 I12 W13
        have F14 : Fr l_186 0 0 g μ m11 := F0.w W13 gA0 rfl
        refine w_t (np := 6) (l2 := [some (eR a0), some (eI (2))]) (s2 := [eI (-1)]) rfl rfl rfl ?_
        refine b_ri rfl rfl ?_
        show ex_q (dt_fg L ρ) rc (d + 6, (186, 16, [some (eR a0), some (eI (a1)), none, none, none], [eI (-1)]), f :: F, m11)
        exact b_ri rfl rfl (K g m11 (-1) I12.re I12 (F14.up rfl rfl) (by decide))
  · refine w_t (np := 5) (l2 := [some (eR a0), some (eI (a1)), none, none, none]) (s2 := [eI (a1), eR v1]) rfl rfl rfl ?_
    refine w_cw (np := 8) (as := [eI (a1)]) (l2 := [some (eR v1), some (eI (a1))]) (rest := []) rfl rfl rfl (Nat.ble_eq.mp rfl) rfl rfl rfl (hI.kd b3 (by decide) (n := 8) rfl) rfl ?_
    refine w_t (np := 1) (l2 := [some (eR v1), some (eI (a1))]) (s2 := [eI (a1)]) rfl rfl rfl ?_
    refine b_ilt (t1 := 12) (t2 := 4) rfl rfl rfl (ev_w_in (by omega) (by omega)) (fun g5 => ?_) (fun g5 => ?_)
    · have b6 : -2147483648 ≤ a1 ∧ a1 ≤ -1 := by omega
      refine w_t (np := 13) (l2 := [some (eR v1), some (eI (a1))]) (s2 := [eI (1)]) rfl rfl rfl ?_
      refine w_go (t1 := 17) rfl rfl ?_
      refine b_rz rfl rfl (Or.inr rfl) ?_
      show ex_q (dt_fg L ρ) rc (d + 6, (186, 8, [some (eR a0), some (eI (a1)), none, none, none], [eI (1)]), f :: F, μ)
      refine b_ieq (t1 := 17) (t2 := 11) rfl rfl rfl rfl (fun g6 => absurd g6 (by decide)) (fun g6 => ?_)
      refine w_t (np := 12) (l2 := [some (eR a0), some (eI (a1)), none, none, none]) (s2 := [eR a0]) rfl (s_an rfl (pos_g hI gA0 (by decide))) rfl ?_
      refine w_t (np := 13) (l2 := [some (eR a0), some (eI (a1)), none, none, none]) (s2 := [eI (2), eR a0]) rfl rfl rfl ?_
      refine w_cw (np := 16) (as := [eI (2)]) (l2 := [some (eR a0), some (eI (2))]) (rest := []) rfl rfl rfl (Nat.ble_eq.mp rfl) rfl rfl rfl (hI.kd gA0 (by decide) (n := 14) rfl) rfl ?_
      refine w_t (np := 1) (l2 := [some (eR a0), some (eI (2))]) (s2 := [eR a0]) rfl (s_an rfl (pos_g hI gA0 (by decide))) rfl ?_
      refine w_t (np := 2) (l2 := [some (eR a0), some (eI (2))]) (s2 := [eI (2), eR a0]) rfl rfl rfl ?_
      refine j_pf (np := 5) (w := 2) rfl rfl hI gA0 (by decide) (n := 14) rfl rfl (hO_i (lo := -2147483648) (hi := 2147483647) rfl (by decide)) ?_
      intro m7 I8 W9
      have F10 : Fr l_186 0 0 g μ m7 := F0.w W9 gA0 rfl
      refine w_t (np := 6) (l2 := [some (eR a0), some (eI (2))]) (s2 := [eI (-1)]) rfl rfl rfl ?_
      refine b_ri rfl rfl ?_
      show ex_q (dt_fg L ρ) rc (d + 6, (186, 16, [some (eR a0), some (eI (a1)), none, none, none], [eI (-1)]), f :: F, m7)
      exact b_ri rfl rfl (K g m7 (-1) I8.re I8 (F10.up rfl rfl) (by decide))
    · have b6 : 0 ≤ a1 ∧ a1 ≤ 2147483647 := by omega
      refine w_t (np := 5) (l2 := [some (eR v1), some (eI (a1))]) (s2 := [eI (a1)]) rfl rfl rfl ?_
      refine w_t (np := 6) (l2 := [some (eR v1), some (eI (a1))]) (s2 := [eR v1, eI (a1)]) rfl (s_an rfl (pos_g hI b3 (by decide))) rfl ?_
      refine j_gi (np := 9) rfl rfl rfl hI b3 (by decide) (n := 8) rfl rfl (lo := 0) (hi := 890) rfl ?_
      intro v6 e7 b8
      refine b_clt (t1 := 16) (t2 := 12) rfl rfl rfl (ev_w_in (by omega) (by omega)) (ev_w_in (by omega) (by omega)) (fun g9 => ?_) (fun g9 => ?_)
      · have b10 : 0 ≤ a1 ∧ a1 ≤ 889 := by omega
        have b11 : 1 ≤ v6 ∧ v6 ≤ 890 := by omega
        refine w_t (np := 17) (l2 := [some (eR v1), some (eI (a1))]) (s2 := [eI (0)]) rfl rfl rfl ?_
        refine b_rz rfl rfl (Or.inl rfl) ?_
        show ex_q (dt_fg L ρ) rc (d + 6, (186, 8, [some (eR a0), some (eI (a1)), none, none, none], [eI (0)]), f :: F, μ)
        refine b_ieq (t1 := 17) (t2 := 11) rfl rfl rfl rfl (fun g10 => ?_) (fun g10 => absurd g10 (by decide))
        refine w_t (np := 18) (l2 := [some (eR a0), some (eI (a1)), none, none, none]) (s2 := [eR a0]) rfl (s_an rfl (pos_g hI gA0 (by decide))) rfl ?_
        refine j_gr (np := 21) rfl rfl hI gA0 (by decide) (n := 14) rfl rfl rfl ?_
        intro v11 e12 b13 z14
        have b13 : g v11 = 29 := Nat.eq_of_beq_eq_true b13
        refine j_gi (np := 24) rfl rfl rfl hI b13 (by decide) (n := 7) rfl rfl (lo := 0) (hi := 24) rfl ?_
        intro v15 e16 b17
        refine w_t (np := 26) (l2 := [some (eR a0), some (eI (a1)), none, none, none]) (s2 := [eI (24), eI (v15)]) rfl rfl rfl ?_
        refine b_clt (t1 := 35) (t2 := 29) rfl rfl rfl (ev_w_in (by omega) (by omega)) rfl (fun g18 => ?_) (fun g18 => ?_)
        · have b19 : 0 ≤ v15 ∧ v15 ≤ 23 := by omega
          refine w_t (np := 36) (l2 := [some (eR a0), some (eI (a1)), none, none, none]) (s2 := [eR a0]) rfl (s_an rfl (pos_g hI gA0 (by decide))) rfl ?_
          refine w_cw (np := 39) (as := []) (l2 := [some (eR a0)]) (rest := []) rfl rfl rfl (Nat.ble_eq.mp rfl) rfl rfl rfl (hI.kd gA0 (by decide) (n := 14) rfl) rfl ?_
          refine s_209 hI gA0 ?_
          intro g19 m20 v24 E21 I22 F23 b25
          have F26 : Fr l_186 7 8159 g μ m20 := F0.t F23 rfl
          show ex_q (dt_fg L ρ) rc (d + 6, (186, 39, [some (eR a0), some (eI (a1)), none, none, none], [eR v24]), f :: F, m20)
          refine w_t (np := 40) (l2 := [some (eR a0), some (eI (a1)), none, none, none]) (s2 := [eI (a1), eR v24]) rfl rfl rfl ?_
          refine w_cw (np := 43) (as := [eI (a1)]) (l2 := [some (eR v24), some (eI (a1)), none, none]) (rest := []) rfl rfl rfl (Nat.ble_eq.mp rfl) rfl rfl rfl (I22.kd b25 (by decide) (n := 15) rfl) rfl ?_
          refine s_117 (a1 := a1) I22 b25 (by omega) ?_
          intro v27 b28
          show ex_q (dt_fg L ρ) rc (d + 6, (186, 43, [some (eR a0), some (eI (a1)), none, none, none], [eI (v27)]), f :: F, m20)
          refine w_t (np := 44) (l2 := [some (eR a0), some (eI (a1)), some (eI (v27)), none, none]) (s2 := []) rfl rfl rfl ?_
          refine w_t (np := 45) (l2 := [some (eR a0), some (eI (a1)), some (eI (v27)), none, none]) (s2 := [eI (v27)]) rfl rfl rfl ?_
          refine b_ige (t1 := 54) (t2 := 48) rfl rfl rfl (ev_w_in (by omega) (by omega)) (fun g29 => ?_) (fun g29 => ?_)
          · have b30 : 0 ≤ v27 ∧ v27 ≤ 889 := by omega
            refine w_t (np := 55) (l2 := [some (eR a0), some (eI (a1)), some (eI (v27)), none, none]) (s2 := [eI (a1)]) rfl rfl rfl ?_
            refine w_t (np := 56) (l2 := [some (eR a0), some (eI (a1)), some (eI (v27)), none, none]) (s2 := [eI (v27), eI (a1)]) rfl rfl rfl ?_
            refine w_cu (np := 59) (as := [eI (a1), eI (v27)]) (l2 := [some (eI (a1)), some (eI (v27))]) (rest := []) rfl rfl rfl (Nat.ble_eq.mp rfl) rfl rfl rfl rfl ?_
            refine w_t (np := 1) (l2 := [some (eI (a1)), some (eI (v27))]) (s2 := [eI (a1)]) rfl rfl rfl ?_
            refine w_t (np := 2) (l2 := [some (eI (a1)), some (eI (v27))]) (s2 := [eI (v27), eI (a1)]) rfl rfl rfl ?_
            refine b_cgt (t1 := 9) (t2 := 5) rfl rfl rfl (ev_w_in (by omega) (by omega)) (ev_w_in (by omega) (by omega)) (fun g30 => ?_) (fun g30 => ?_)
            · have b31 : 1 ≤ a1 ∧ a1 ≤ 889 := by omega
              have b32 : 0 ≤ v27 ∧ v27 ≤ 888 := by omega
              refine w_t (np := 10) (l2 := [some (eI (a1)), some (eI (v27))]) (s2 := [eI (v27)]) rfl rfl rfl ?_
              refine b_ri rfl rfl ?_
              show ex_q (dt_fg L ρ) rc (d + 6, (186, 59, [some (eR a0), some (eI (a1)), some (eI (v27)), none, none], [eI (v27)]), f :: F, m20)
              refine w_t (np := 60) (l2 := [some (eR a0), some (eI (a1)), some (eI (v27)), some (eI (v27)), none]) (s2 := []) rfl rfl rfl ?_
              refine w_t (np := 61) (l2 := [some (eR a0), some (eI (a1)), some (eI (v27)), some (eI (v27)), none]) (s2 := [eR a0]) rfl (s_an rfl (pos_g I22 (E21.g gA0 (by decide)) (by decide))) rfl ?_
              refine w_gf (np := 64) (v := eR v1) rfl rfl (I22.kd (E21.g gA0 (by decide)) (by decide) (n := 14) rfl) (by rw [(F23.k e2 gA0 (by decide) rfl)]; rfl) ?_
              refine w_t (np := 65) (l2 := [some (eR a0), some (eI (a1)), some (eI (v27)), some (eI (v27)), none]) (s2 := [eI (v27), eR v1]) rfl rfl rfl ?_
              refine w_cw (np := 68) (as := [eI (v27)]) (l2 := [some (eR v1), some (eI (v27))]) (rest := []) rfl rfl rfl (Nat.ble_eq.mp rfl) rfl rfl rfl (I22.kd (E21.g b3 (by decide)) (by decide) (n := 8) rfl) rfl ?_
              refine s_24_2 (a1 := v27) I22 (E21.g b3 (by decide)) (by omega) ?_
              intro v31 b32
              show ex_q (dt_fg L ρ) rc (d + 6, (186, 68, [some (eR a0), some (eI (a1)), some (eI (v27)), some (eI (v27)), none], [eI (v31)]), f :: F, m20)
              refine b_ile (t1 := 75) (t2 := 71) rfl rfl rfl (ev_w_in (by omega) (by omega)) (fun g33 => ?_) (fun g33 => ?_)
              · have b34 : -1 ≤ v31 ∧ v31 ≤ 0 := by omega
                refine w_t (np := 76) (l2 := [some (eR a0), some (eI (a1)), some (eI (v27)), some (eI (v27)), none]) (s2 := [eI (1)]) rfl rfl rfl ?_
                refine w_t (np := 78) (l2 := [some (eR a0), some (eI (a1)), some (eI (v27)), some (eI (v27)), some (eI (1))]) (s2 := []) rfl rfl rfl ?_
                refine w_t (np := 79) (l2 := [some (eR a0), some (eI (a1)), some (eI (v27)), some (eI (v27)), some (eI (1))]) (s2 := [eR a0]) rfl (s_an rfl (pos_g I22 (E21.g gA0 (by decide)) (by decide))) rfl ?_
                refine w_t (np := 80) (l2 := [some (eR a0), some (eI (a1)), some (eI (v27)), some (eI (v27)), some (eI (1))]) (s2 := [eR a0, eR a0]) rfl (s_an rfl (pos_g I22 (E21.g gA0 (by decide)) (by decide))) rfl ?_
                refine w_gf (np := 83) (v := eR v1) rfl rfl (I22.kd (E21.g gA0 (by decide)) (by decide) (n := 14) rfl) (by rw [(F23.k e2 gA0 (by decide) rfl)]; rfl) ?_
                refine w_t (np := 84) (l2 := [some (eR a0), some (eI (a1)), some (eI (v27)), some (eI (v27)), some (eI (1))]) (s2 := [eI (v27), eR v1, eR a0]) rfl rfl rfl ?_
                refine w_cw (np := 87) (as := [eI (v27)]) (l2 := [some (eR v1), some (eI (v27))]) (rest := [eR a0]) rfl rfl rfl (Nat.ble_eq.mp rfl) rfl rfl rfl (I22.kd (E21.g b3 (by decide)) (by decide) (n := 8) rfl) rfl ?_
                refine s_19_2 (a1 := v27) I22 (E21.g b3 (by decide)) (by omega) ?_
                intro v34 b35
                show ex_q (dt_fg L ρ) rc (d + 6, (186, 87, [some (eR a0), some (eI (a1)), some (eI (v27)), some (eI (v27)), some (eI (1))], [eI (v34), eR a0]), f :: F, m20)
                refine w_t (np := 88) (l2 := [some (eR a0), some (eI (a1)), some (eI (v27)), some (eI (v27)), some (eI (1))]) (s2 := [eR a0, eI (v34), eR a0]) rfl (s_an rfl (pos_g I22 (E21.g gA0 (by decide)) (by decide))) rfl ?_
                refine w_gf (np := 91) (v := eR v1) rfl rfl (I22.kd (E21.g gA0 (by decide)) (by decide) (n := 14) rfl) (by rw [(F23.k e2 gA0 (by decide) rfl)]; rfl) ?_
                refine w_t (np := 92) (l2 := [some (eR a0), some (eI (a1)), some (eI (v27)), some (eI (v27)), some (eI (1))]) (s2 := [eI (v27), eR v1, eI (v34), eR a0]) rfl rfl rfl ?_
                refine w_t (np := 93) (l2 := [some (eR a0), some (eI (a1)), some (eI (v27)), some (eI (v27)), some (eI (1))]) (s2 := [eI (0), eI (v27), eR v1, eI (v34), eR a0]) rfl rfl rfl ?_
                refine w_cw (np := 96) (as := [eI (v27), eI (0)]) (l2 := [some (eR v1), some (eI (v27)), some (eI (0))]) (rest := [eI (v34), eR a0]) rfl rfl rfl (Nat.ble_eq.mp rfl) rfl rfl rfl (I22.kd (E21.g b3 (by decide)) (by decide) (n := 8) rfl) rfl ?_
                refine s_22_2 (a1 := v27) (a2 := 0) I22 (E21.g b3 (by decide)) (by omega) (by decide) ?_
                intro v36 b37
                show ex_q (dt_fg L ρ) rc (d + 6, (186, 96, [some (eR a0), some (eI (a1)), some (eI (v27)), some (eI (v27)), some (eI (1))], [eJ (v36), eI (v34), eR a0]), f :: F, m20)
                refine w_t (np := 97) (l2 := [some (eR a0), some (eI (a1)), some (eI (v27)), some (eI (v27)), some (eI (1))]) (s2 := [eR a0, eJ (v36), eI (v34), eR a0]) rfl (s_an rfl (pos_g I22 (E21.g gA0 (by decide)) (by decide))) rfl ?_
                refine w_gf (np := 100) (v := eR v1) rfl rfl (I22.kd (E21.g gA0 (by decide)) (by decide) (n := 14) rfl) (by rw [(F23.k e2 gA0 (by decide) rfl)]; rfl) ?_
                refine w_t (np := 101) (l2 := [some (eR a0), some (eI (a1)), some (eI (v27)), some (eI (v27)), some (eI (1))]) (s2 := [eI (v27), eR v1, eJ (v36), eI (v34), eR a0]) rfl rfl rfl ?_
                refine w_t (np := 102) (l2 := [some (eR a0), some (eI (a1)), some (eI (v27)), some (eI (v27)), some (eI (1))]) (s2 := [eI (0), eI (v27), eR v1, eJ (v36), eI (v34), eR a0]) rfl rfl rfl ?_
                refine w_cw (np := 105) (as := [eI (v27), eI (0)]) (l2 := [some (eR v1), some (eI (v27)), some (eI (0))]) (rest := [eJ (v36), eI (v34), eR a0]) rfl rfl rfl (Nat.ble_eq.mp rfl) rfl rfl rfl (I22.kd (E21.g b3 (by decide)) (by decide) (n := 8) rfl) rfl ?_
                refine s_23_2 (a1 := v27) (a2 := 0) I22 (E21.g b3 (by decide)) (by omega) (by decide) ?_
                intro v38 b39
                show ex_q (dt_fg L ρ) rc (d + 6, (186, 105, [some (eR a0), some (eI (a1)), some (eI (v27)), some (eI (v27)), some (eI (1))], [eI (v38), eJ (v36), eI (v34), eR a0]), f :: F, m20)
                refine w_t (np := 107) (l2 := [some (eR a0), some (eI (a1)), some (eI (v27)), some (eI (v27)), some (eI (1))]) (s2 := [eI (1), eI (v38), eJ (v36), eI (v34), eR a0]) rfl rfl rfl ?_
                refine w_cw (np := 110) (as := [eI (v34), eJ (v36), eI (v38), eI (1)]) (l2 := [some (eR a0), some (eI (v34)), some (eJ (v36)), none, some (eI (v38)), some (eI (1)), none]) (rest := []) rfl rfl rfl (Nat.ble_eq.mp rfl) rfl rfl rfl (I22.kd (E21.g gA0 (by decide)) (by decide) (n := 14) rfl) rfl ?_
                refine s_211 (a1 := v34) (a4 := v38) (a5 := 1) I22 (E21.g gA0 (by decide)) (by omega) b37 (by omega) (by decide) ?_
                intro m40 v43 I41 F42 b44
                have F45 : Fr l_186 7 8159 g μ m40 := F26.t3 E21 F42 rfl
                show ex_q (dt_fg L ρ) rc (d + 6, (186, 110, [some (eR a0), some (eI (a1)), some (eI (v27)), some (eI (v27)), some (eI (1))], [eI (v43)]), f :: F, m40)
                exact b_ri rfl rfl (K g19 m40 (v43) E21 I41 F45 (by omega))
              · have b34 : 1 ≤ v31 ∧ v31 ≤ 1 := by omega
                refine w_t (np := 72) (l2 := [some (eR a0), some (eI (a1)), some (eI (v27)), some (eI (v27)), none]) (s2 := [eI (0)]) rfl rfl rfl ?_
                refine w_go (t1 := 76) rfl rfl ?_
                refine w_t (np := 78) (l2 := [some (eR a0), some (eI (a1)), some (eI (v27)), some (eI (v27)), some (eI (0))]) (s2 := []) rfl rfl rfl ?_
                refine w_t (np := 79) (l2 := [some (eR a0), some (eI (a1)), some (eI (v27)), some (eI (v27)), some (eI (0))]) (s2 := [eR a0]) rfl (s_an rfl (pos_g I22 (E21.g gA0 (by decide)) (by decide))) rfl ?_
                refine w_t (np := 80) (l2 := [some (eR a0), some (eI (a1)), some (eI (v27)), some (eI (v27)), some (eI (0))]) (s2 := [eR a0, eR a0]) rfl (s_an rfl (pos_g I22 (E21.g gA0 (by decide)) (by decide))) rfl ?_
                refine w_gf (np := 83) (v := eR v1) rfl rfl (I22.kd (E21.g gA0 (by decide)) (by decide) (n := 14) rfl) (by rw [(F23.k e2 gA0 (by decide) rfl)]; rfl) ?_
                refine w_t (np := 84) (l2 := [some (eR a0), some (eI (a1)), some (eI (v27)), some (eI (v27)), some (eI (0))]) (s2 := [eI (v27), eR v1, eR a0]) rfl rfl rfl ?_
                refine w_cw (np := 87) (as := [eI (v27)]) (l2 := [some (eR v1), some (eI (v27))]) (rest := [eR a0]) rfl rfl rfl (Nat.ble_eq.mp rfl) rfl rfl rfl (I22.kd (E21.g b3 (by decide)) (by decide) (n := 8) rfl) rfl ?_
                refine s_19_2 (a1 := v27) I22 (E21.g b3 (by decide)) (by omega) ?_
                intro v34 b35
                show ex_q (dt_fg L ρ) rc (d + 6, (186, 87, [some (eR a0), some (eI (a1)), some (eI (v27)), some (eI (v27)), some (eI (0))], [eI (v34), eR a0]), f :: F, m20)
                refine w_t (np := 88) (l2 := [some (eR a0), some (eI (a1)), some (eI (v27)), some (eI (v27)), some (eI (0))]) (s2 := [eR a0, eI (v34), eR a0]) rfl (s_an rfl (pos_g I22 (E21.g gA0 (by decide)) (by decide))) rfl ?_
                refine w_gf (np := 91) (v := eR v1) rfl rfl (I22.kd (E21.g gA0 (by decide)) (by decide) (n := 14) rfl) (by rw [(F23.k e2 gA0 (by decide) rfl)]; rfl) ?_
                refine w_t (np := 92) (l2 := [some (eR a0), some (eI (a1)), some (eI (v27)), some (eI (v27)), some (eI (0))]) (s2 := [eI (v27), eR v1, eI (v34), eR a0]) rfl rfl rfl ?_
                refine w_t (np := 93) (l2 := [some (eR a0), some (eI (a1)), some (eI (v27)), some (eI (v27)), some (eI (0))]) (s2 := [eI (0), eI (v27), eR v1, eI (v34), eR a0]) rfl rfl rfl ?_
                refine w_cw (np := 96) (as := [eI (v27), eI (0)]) (l2 := [some (eR v1), some (eI (v27)), some (eI (0))]) (rest := [eI (v34), eR a0]) rfl rfl rfl (Nat.ble_eq.mp rfl) rfl rfl rfl (I22.kd (E21.g b3 (by decide)) (by decide) (n := 8) rfl) rfl ?_
                refine s_22_2 (a1 := v27) (a2 := 0) I22 (E21.g b3 (by decide)) (by omega) (by decide) ?_
                intro v36 b37
                show ex_q (dt_fg L ρ) rc (d + 6, (186, 96, [some (eR a0), some (eI (a1)), some (eI (v27)), some (eI (v27)), some (eI (0))], [eJ (v36), eI (v34), eR a0]), f :: F, m20)
                refine w_t (np := 97) (l2 := [some (eR a0), some (eI (a1)), some (eI (v27)), some (eI (v27)), some (eI (0))]) (s2 := [eR a0, eJ (v36), eI (v34), eR a0]) rfl (s_an rfl (pos_g I22 (E21.g gA0 (by decide)) (by decide))) rfl ?_
                refine w_gf (np := 100) (v := eR v1) rfl rfl (I22.kd (E21.g gA0 (by decide)) (by decide) (n := 14) rfl) (by rw [(F23.k e2 gA0 (by decide) rfl)]; rfl) ?_
                refine w_t (np := 101) (l2 := [some (eR a0), some (eI (a1)), some (eI (v27)), some (eI (v27)), some (eI (0))]) (s2 := [eI (v27), eR v1, eJ (v36), eI (v34), eR a0]) rfl rfl rfl ?_
                refine w_t (np := 102) (l2 := [some (eR a0), some (eI (a1)), some (eI (v27)), some (eI (v27)), some (eI (0))]) (s2 := [eI (0), eI (v27), eR v1, eJ (v36), eI (v34), eR a0]) rfl rfl rfl ?_
                refine w_cw (np := 105) (as := [eI (v27), eI (0)]) (l2 := [some (eR v1), some (eI (v27)), some (eI (0))]) (rest := [eJ (v36), eI (v34), eR a0]) rfl rfl rfl (Nat.ble_eq.mp rfl) rfl rfl rfl (I22.kd (E21.g b3 (by decide)) (by decide) (n := 8) rfl) rfl ?_
                refine s_23_2 (a1 := v27) (a2 := 0) I22 (E21.g b3 (by decide)) (by omega) (by decide) ?_
                intro v38 b39
                show ex_q (dt_fg L ρ) rc (d + 6, (186, 105, [some (eR a0), some (eI (a1)), some (eI (v27)), some (eI (v27)), some (eI (0))], [eI (v38), eJ (v36), eI (v34), eR a0]), f :: F, m20)
                refine w_t (np := 107) (l2 := [some (eR a0), some (eI (a1)), some (eI (v27)), some (eI (v27)), some (eI (0))]) (s2 := [eI (0), eI (v38), eJ (v36), eI (v34), eR a0]) rfl rfl rfl ?_
                refine w_cw (np := 110) (as := [eI (v34), eJ (v36), eI (v38), eI (0)]) (l2 := [some (eR a0), some (eI (v34)), some (eJ (v36)), none, some (eI (v38)), some (eI (0)), none]) (rest := []) rfl rfl rfl (Nat.ble_eq.mp rfl) rfl rfl rfl (I22.kd (E21.g gA0 (by decide)) (by decide) (n := 14) rfl) rfl ?_
                refine s_211 (a1 := v34) (a4 := v38) (a5 := 0) I22 (E21.g gA0 (by decide)) (by omega) b37 (by omega) (by decide) ?_
                intro m40 v43 I41 F42 b44
                have F45 : Fr l_186 7 8159 g μ m40 := F26.t3 E21 F42 rfl
                show ex_q (dt_fg L ρ) rc (d + 6, (186, 110, [some (eR a0), some (eI (a1)), some (eI (v27)), some (eI (v27)), some (eI (0))], [eI (v43)]), f :: F, m40)
                exact b_ri rfl rfl (K g19 m40 (v43) E21 I41 F45 (by omega))
            · refine w_t (np := 6) (l2 := [some (eI (a1)), some (eI (v27))]) (s2 := [eI (a1)]) rfl rfl rfl ?_
              refine w_go (t1 := 10) rfl rfl ?_
              refine b_ri rfl rfl ?_
              show ex_q (dt_fg L ρ) rc (d + 6, (186, 59, [some (eR a0), some (eI (a1)), some (eI (v27)), none, none], [eI (a1)]), f :: F, m20)
              refine w_t (np := 60) (l2 := [some (eR a0), some (eI (a1)), some (eI (v27)), some (eI (a1)), none]) (s2 := []) rfl rfl rfl ?_
              refine w_t (np := 61) (l2 := [some (eR a0), some (eI (a1)), some (eI (v27)), some (eI (a1)), none]) (s2 := [eR a0]) rfl (s_an rfl (pos_g I22 (E21.g gA0 (by decide)) (by decide))) rfl ?_
              refine w_gf (np := 64) (v := eR v1) rfl rfl (I22.kd (E21.g gA0 (by decide)) (by decide) (n := 14) rfl) (by rw [(F23.k e2 gA0 (by decide) rfl)]; rfl) ?_
              refine w_t (np := 65) (l2 := [some (eR a0), some (eI (a1)), some (eI (v27)), some (eI (a1)), none]) (s2 := [eI (a1), eR v1]) rfl rfl rfl ?_
              refine w_cw (np := 68) (as := [eI (a1)]) (l2 := [some (eR v1), some (eI (a1))]) (rest := []) rfl rfl rfl (Nat.ble_eq.mp rfl) rfl rfl rfl (I22.kd (E21.g b3 (by decide)) (by decide) (n := 8) rfl) rfl ?_
              refine s_24_2 (a1 := a1) I22 (E21.g b3 (by decide)) (by omega) ?_
              intro v31 b32
              show ex_q (dt_fg L ρ) rc (d + 6, (186, 68, [some (eR a0), some (eI (a1)), some (eI (v27)), some (eI (a1)), none], [eI (v31)]), f :: F, m20)
              refine b_ile (t1 := 75) (t2 := 71) rfl rfl rfl (ev_w_in (by omega) (by omega)) (fun g33 => ?_) (fun g33 => ?_)
              · have b34 : -1 ≤ v31 ∧ v31 ≤ 0 := by omega
                refine w_t (np := 76) (l2 := [some (eR a0), some (eI (a1)), some (eI (v27)), some (eI (a1)), none]) (s2 := [eI (1)]) rfl rfl rfl ?_
                refine w_t (np := 78) (l2 := [some (eR a0), some (eI (a1)), some (eI (v27)), some (eI (a1)), some (eI (1))]) (s2 := []) rfl rfl rfl ?_
                refine w_t (np := 79) (l2 := [some (eR a0), some (eI (a1)), some (eI (v27)), some (eI (a1)), some (eI (1))]) (s2 := [eR a0]) rfl (s_an rfl (pos_g I22 (E21.g gA0 (by decide)) (by decide))) rfl ?_
                refine w_t (np := 80) (l2 := [some (eR a0), some (eI (a1)), some (eI (v27)), some (eI (a1)), some (eI (1))]) (s2 := [eR a0, eR a0]) rfl (s_an rfl (pos_g I22 (E21.g gA0 (by decide)) (by decide))) rfl ?_
                refine w_gf (np := 83) (v := eR v1) rfl rfl (I22.kd (E21.g gA0 (by decide)) (by decide) (n := 14) rfl) (by rw [(F23.k e2 gA0 (by decide) rfl)]; rfl) ?_
                refine w_t (np := 84) (l2 := [some (eR a0), some (eI (a1)), some (eI (v27)), some (eI (a1)), some (eI (1))]) (s2 := [eI (a1), eR v1, eR a0]) rfl rfl rfl ?_
                refine w_cw (np := 87) (as := [eI (a1)]) (l2 := [some (eR v1), some (eI (a1))]) (rest := [eR a0]) rfl rfl rfl (Nat.ble_eq.mp rfl) rfl rfl rfl (I22.kd (E21.g b3 (by decide)) (by decide) (n := 8) rfl) rfl ?_
                refine s_19_2 (a1 := a1) I22 (E21.g b3 (by decide)) (by omega) ?_
                intro v34 b35
                show ex_q (dt_fg L ρ) rc (d + 6, (186, 87, [some (eR a0), some (eI (a1)), some (eI (v27)), some (eI (a1)), some (eI (1))], [eI (v34), eR a0]), f :: F, m20)
                refine w_t (np := 88) (l2 := [some (eR a0), some (eI (a1)), some (eI (v27)), some (eI (a1)), some (eI (1))]) (s2 := [eR a0, eI (v34), eR a0]) rfl (s_an rfl (pos_g I22 (E21.g gA0 (by decide)) (by decide))) rfl ?_
                refine w_gf (np := 91) (v := eR v1) rfl rfl (I22.kd (E21.g gA0 (by decide)) (by decide) (n := 14) rfl) (by rw [(F23.k e2 gA0 (by decide) rfl)]; rfl) ?_
                refine w_t (np := 92) (l2 := [some (eR a0), some (eI (a1)), some (eI (v27)), some (eI (a1)), some (eI (1))]) (s2 := [eI (a1), eR v1, eI (v34), eR a0]) rfl rfl rfl ?_
                refine w_t (np := 93) (l2 := [some (eR a0), some (eI (a1)), some (eI (v27)), some (eI (a1)), some (eI (1))]) (s2 := [eI (0), eI (a1), eR v1, eI (v34), eR a0]) rfl rfl rfl ?_
                refine w_cw (np := 96) (as := [eI (a1), eI (0)]) (l2 := [some (eR v1), some (eI (a1)), some (eI (0))]) (rest := [eI (v34), eR a0]) rfl rfl rfl (Nat.ble_eq.mp rfl) rfl rfl rfl (I22.kd (E21.g b3 (by decide)) (by decide) (n := 8) rfl) rfl ?_
                refine s_22_2 (a1 := a1) (a2 := 0) I22 (E21.g b3 (by decide)) (by omega) (by decide) ?_
                intro v36 b37
                show ex_q (dt_fg L ρ) rc (d + 6, (186, 96, [some (eR a0), some (eI (a1)), some (eI (v27)), some (eI (a1)), some (eI (1))], [eJ (v36), eI (v34), eR a0]), f :: F, m20)
                refine w_t (np := 97) (l2 := [some (eR a0), some (eI (a1)), some (eI (v27)), some (eI (a1)), some (eI (1))]) (s2 := [eR a0, eJ (v36), eI (v34), eR a0]) rfl (s_an rfl (pos_g I22 (E21.g gA0 (by decide)) (by decide))) rfl ?_
                refine w_gf (np := 100) (v := eR v1) rfl rfl (I22.kd (E21.g gA0 (by decide)) (by decide) (n := 14) rfl) (by rw [(F23.k e2 gA0 (by decide) rfl)]; rfl) ?_
                refine w_t (np := 101) (l2 := [some (eR a0), some (eI (a1)), some (eI (v27)), some (eI (a1)), some (eI (1))]) (s2 := [eI (a1), eR v1, eJ (v36), eI (v34), eR a0]) rfl rfl rfl ?_
                refine w_t (np := 102) (l2 := [some (eR a0), some (eI (a1)), some (eI (v27)), some (eI (a1)), some (eI (1))]) (s2 := [eI (0), eI (a1), eR v1, eJ (v36), eI (v34), eR a0]) rfl rfl rfl ?_
                refine w_cw (np := 105) (as := [eI (a1), eI (0)]) (l2 := [some (eR v1), some (eI (a1)), some (eI (0))]) (rest := [eJ (v36), eI (v34), eR a0]) rfl rfl rfl (Nat.ble_eq.mp rfl) rfl rfl rfl (I22.kd (E21.g b3 (by decide)) (by decide) (n := 8) rfl) rfl ?_
                refine s_23_2 (a1 := a1) (a2 := 0) I22 (E21.g b3 (by decide)) (by omega) (by decide) ?_
                intro v38 b39
                show ex_q (dt_fg L ρ) rc (d + 6, (186, 105, [some (eR a0), some (eI (a1)), some (eI (v27)), some (eI (a1)), some (eI (1))], [eI (v38), eJ (v36), eI (v34), eR a0]), f :: F, m20)
                refine w_t (np := 107) (l2 := [some (eR a0), some (eI (a1)), some (eI (v27)), some (eI (a1)), some (eI (1))]) (s2 := [eI (1), eI (v38), eJ (v36), eI (v34), eR a0]) rfl rfl rfl ?_
                refine w_cw (np := 110) (as := [eI (v34), eJ (v36), eI (v38), eI (1)]) (l2 := [some (eR a0), some (eI (v34)), some (eJ (v36)), none, some (eI (v38)), some (eI (1)), none]) (rest := []) rfl rfl rfl (Nat.ble_eq.mp rfl) rfl rfl rfl (I22.kd (E21.g gA0 (by decide)) (by decide) (n := 14) rfl) rfl ?_
                refine s_211 (a1 := v34) (a4 := v38) (a5 := 1) I22 (E21.g gA0 (by decide)) (by omega) b37 (by omega) (by decide) ?_
                intro m40 v43 I41 F42 b44
                have F45 : Fr l_186 7 8159 g μ m40 := F26.t3 E21 F42 rfl
                show ex_q (dt_fg L ρ) rc (d + 6, (186, 110, [some (eR a0), some (eI (a1)), some (eI (v27)), some (eI (a1)), some (eI (1))], [eI (v43)]), f :: F, m40)
                exact b_ri rfl rfl (K g19 m40 (v43) E21 I41 F45 (by omega))
              · have b34 : 1 ≤ v31 ∧ v31 ≤ 1 := by omega
                refine w_t (np := 72) (l2 := [some (eR a0), some (eI (a1)), some (eI (v27)), some (eI (a1)), none]) (s2 := [eI (0)]) rfl rfl rfl ?_
                refine w_go (t1 := 76) rfl rfl ?_
                refine w_t (np := 78) (l2 := [some (eR a0), some (eI (a1)), some (eI (v27)), some (eI (a1)), some (eI (0))]) (s2 := []) rfl rfl rfl ?_
                refine w_t (np := 79) (l2 := [some (eR a0), some (eI (a1)), some (eI (v27)), some (eI (a1)), some (eI (0))]) (s2 := [eR a0]) rfl (s_an rfl (pos_g I22 (E21.g gA0 (by decide)) (by decide))) rfl ?_
                refine w_t (np := 80) (l2 := [some (eR a0), some (eI (a1)), some (eI (v27)), some (eI (a1)), some (eI (0))]) (s2 := [eR a0, eR a0]) rfl (s_an rfl (pos_g I22 (E21.g gA0 (by decide)) (by decide))) rfl ?_
                refine w_gf (np := 83) (v := eR v1) rfl rfl (I22.kd (E21.g gA0 (by decide)) (by decide) (n := 14) rfl) (by rw [(F23.k e2 gA0 (by decide) rfl)]; rfl) ?_
                refine w_t (np := 84) (l2 := [some (eR a0), some (eI (a1)), some (eI (v27)), some (eI (a1)), some (eI (0))]) (s2 := [eI (a1), eR v1, eR a0]) rfl rfl rfl ?_
                refine w_cw (np := 87) (as := [eI (a1)]) (l2 := [some (eR v1), some (eI (a1))]) (rest := [eR a0]) rfl rfl rfl (Nat.ble_eq.mp rfl) rfl rfl rfl (I22.kd (E21.g b3 (by decide)) (by decide) (n := 8) rfl) rfl ?_
                refine s_19_2 (a1 := a1) I22 (E21.g b3 (by decide)) (by omega) ?_
                intro v34 b35
                show ex_q (dt_fg L ρ) rc (d + 6, (186, 87, [some (eR a0), some (eI (a1)), some (eI (v27)), some (eI (a1)), some (eI (0))], [eI (v34), eR a0]), f :: F, m20)
                refine w_t (np := 88) (l2 := [some (eR a0), some (eI (a1)), some (eI (v27)), some (eI (a1)), some (eI (0))]) (s2 := [eR a0, eI (v34), eR a0]) rfl (s_an rfl (pos_g I22 (E21.g gA0 (by decide)) (by decide))) rfl ?_
                refine w_gf (np := 91) (v := eR v1) rfl rfl (I22.kd (E21.g gA0 (by decide)) (by decide) (n := 14) rfl) (by rw [(F23.k e2 gA0 (by decide) rfl)]; rfl) ?_
                refine w_t (np := 92) (l2 := [some (eR a0), some (eI (a1)), some (eI (v27)), some (eI (a1)), some (eI (0))]) (s2 := [eI (a1), eR v1, eI (v34), eR a0]) rfl rfl rfl ?_
                refine w_t (np := 93) (l2 := [some (eR a0), some (eI (a1)), some (eI (v27)), some (eI (a1)), some (eI (0))]) (s2 := [eI (0), eI (a1), eR v1, eI (v34), eR a0]) rfl rfl rfl ?_
                refine w_cw (np := 96) (as := [eI (a1), eI (0)]) (l2 := [some (eR v1), some (eI (a1)), some (eI (0))]) (rest := [eI (v34), eR a0]) rfl rfl rfl (Nat.ble_eq.mp rfl) rfl rfl rfl (I22.kd (E21.g b3 (by decide)) (by decide) (n := 8) rfl) rfl ?_
                refine s_22_2 (a1 := a1) (a2 := 0) I22 (E21.g b3 (by decide)) (by omega) (by decide) ?_
                intro v36 b37
                show ex_q (dt_fg L ρ) rc (d + 6, (186, 96, [some (eR a0), some (eI (a1)), some (eI (v27)), some (eI (a1)), some (eI (0))], [eJ (v36), eI (v34), eR a0]), f :: F, m20)
                refine w_t (np := 97) (l2 := [some (eR a0), some (eI (a1)), some (eI (v27)), some (eI (a1)), some (eI (0))]) (s2 := [eR a0, eJ (v36), eI (v34), eR a0]) rfl (s_an rfl (pos_g I22 (E21.g gA0 (by decide)) (by decide))) rfl ?_
                refine w_gf (np := 100) (v := eR v1) rfl rfl (I22.kd (E21.g gA0 (by decide)) (by decide) (n := 14) rfl) (by rw [(F23.k e2 gA0 (by decide) rfl)]; rfl) ?_
                refine w_t (np := 101) (l2 := [some (eR a0), some (eI (a1)), some (eI (v27)), some (eI (a1)), some (eI (0))]) (s2 := [eI (a1), eR v1, eJ (v36), eI (v34), eR a0]) rfl rfl rfl ?_
                refine w_t (np := 102) (l2 := [some (eR a0), some (eI (a1)), some (eI (v27)), some (eI (a1)), some (eI (0))]) (s2 := [eI (0), eI (a1), eR v1, eJ (v36), eI (v34), eR a0]) rfl rfl rfl ?_
                refine w_cw (np := 105) (as := [eI (a1), eI (0)]) (l2 := [some (eR v1), some (eI (a1)), some (eI (0))]) (rest := [eJ (v36), eI (v34), eR a0]) rfl rfl rfl (Nat.ble_eq.mp rfl) rfl rfl rfl (I22.kd (E21.g b3 (by decide)) (by decide) (n := 8) rfl) rfl ?_
                refine s_23_2 (a1 := a1) (a2 := 0) I22 (E21.g b3 (by decide)) (by omega) (by decide) ?_
                intro v38 b39
                show ex_q (dt_fg L ρ) rc (d + 6, (186, 105, [some (eR a0), some (eI (a1)), some (eI (v27)), some (eI (a1)), some (eI (0))], [eI (v38), eJ (v36), eI (v34), eR a0]), f :: F, m20)
                refine w_t (np := 107) (l2 := [some (eR a0), some (eI (a1)), some (eI (v27)), some (eI (a1)), some (eI (0))]) (s2 := [eI (0), eI (v38), eJ (v36), eI (v34), eR a0]) rfl rfl rfl ?_
                refine w_cw (np := 110) (as := [eI (v34), eJ (v36), eI (v38), eI (0)]) (l2 := [some (eR a0), some (eI (v34)), some (eJ (v36)), none, some (eI (v38)), some (eI (0)), none]) (rest := []) rfl rfl rfl (Nat.ble_eq.mp rfl) rfl rfl rfl (I22.kd (E21.g gA0 (by decide)) (by decide) (n := 14) rfl) rfl ?_
                refine s_211 (a1 := v34) (a4 := v38) (a5 := 0) I22 (E21.g gA0 (by decide)) (by omega) b37 (by omega) (by decide) ?_
                intro m40 v43 I41 F42 b44
                have F45 : Fr l_186 7 8159 g μ m40 := F26.t3 E21 F42 rfl
                show ex_q (dt_fg L ρ) rc (d + 6, (186, 110, [some (eR a0), some (eI (a1)), some (eI (v27)), some (eI (a1)), some (eI (0))], [eI (v43)]), f :: F, m40)
                exact b_ri rfl rfl (K g19 m40 (v43) E21 I41 F45 (by omega))
          · have b30 : -1 ≤ v27 ∧ v27 ≤ -1 := by omega
            refine w_t (np := 49) (l2 := [some (eR a0), some (eI (a1)), some (eI (v27)), none, none]) (s2 := [eR a0]) rfl (s_an rfl (pos_g I22 (E21.g gA0 (by decide)) (by decide))) rfl ?_
            refine w_t (np := 50) (l2 := [some (eR a0), some (eI (a1)), some (eI (v27)), none, none]) (s2 := [eI (5), eR a0]) rfl rfl rfl ?_
            refine w_cw (np := 53) (as := [eI (5)]) (l2 := [some (eR a0), some (eI (5))]) (rest := []) rfl rfl rfl (Nat.ble_eq.mp rfl) rfl rfl rfl (I22.kd (E21.g gA0 (by decide)) (by decide) (n := 14) rfl) rfl ?_
            refine w_t (np := 1) (l2 := [some (eR a0), some (eI (5))]) (s2 := [eR a0]) rfl (s_an rfl (pos_g I22 (E21.g gA0 (by decide)) (by decide))) rfl ?_
            refine w_t (np := 2) (l2 := [some (eR a0), some (eI (5))]) (s2 := [eI (5), eR a0]) rfl rfl rfl ?_
            refine j_pf (np := 5) (w := 5) rfl rfl I22 (E21.g gA0 (by decide)) (by decide) (n := 14) rfl rfl (hO_i (lo := -2147483648) (hi := 2147483647) rfl (by decide)) ?_
            intro m30 I31 W32
            have F33 : Fr l_186 7 8159 g μ m30 := F26.w3 E21 W32 (E21.g gA0 (by decide)) rfl
            refine w_t (np := 6) (l2 := [some (eR a0), some (eI (5))]) (s2 := [eI (-1)]) rfl rfl rfl ?_
            refine b_ri rfl rfl ?_
            show ex_q (dt_fg L ρ) rc (d + 6, (186, 53, [some (eR a0), some (eI (a1)), some (eI (v27)), none, none], [eI (-1)]), f :: F, m30)
            exact b_ri rfl rfl (K g19 m30 (-1) E21 I31 F33 (by decide))
        · have b19 : 24 ≤ v15 ∧ v15 ≤ 24 := by omega
          refine w_t (np := 30) (l2 := [some (eR a0), some (eI (a1)), none, none, none]) (s2 := [eR a0]) rfl (s_an rfl (pos_g hI gA0 (by decide))) rfl ?_
          refine w_t (np := 31) (l2 := [some (eR a0), some (eI (a1)), none, none, none]) (s2 := [eI (3), eR a0]) rfl rfl rfl ?_
          refine w_cw (np := 34) (as := [eI (3)]) (l2 := [some (eR a0), some (eI (3))]) (rest := []) rfl rfl rfl (Nat.ble_eq.mp rfl) rfl rfl rfl (hI.kd gA0 (by decide) (n := 14) rfl) rfl ?_
          refine w_t (np := 1) (l2 := [some (eR a0), some (eI (3))]) (s2 := [eR a0]) rfl (s_an rfl (pos_g hI gA0 (by decide))) rfl ?_
          refine w_t (np := 2) (l2 := [some (eR a0), some (eI (3))]) (s2 := [eI (3), eR a0]) rfl rfl rfl ?_
          refine j_pf (np := 5) (w := 3) rfl rfl hI gA0 (by decide) (n := 14) rfl rfl (hO_i (lo := -2147483648) (hi := 2147483647) rfl (by decide)) ?_
          intro m19 I20 W21
          have F22 : Fr l_186 0 0 g μ m19 := F0.w W21 gA0 rfl
          refine w_t (np := 6) (l2 := [some (eR a0), some (eI (3))]) (s2 := [eI (-1)]) rfl rfl rfl ?_
          refine b_ri rfl rfl ?_
          show ex_q (dt_fg L ρ) rc (d + 6, (186, 34, [some (eR a0), some (eI (a1)), none, none, none], [eI (-1)]), f :: F, m19)
          exact b_ri rfl rfl (K g m19 (-1) I20.re I20 (F22.up rfl rfl) (by decide))
      · refine w_t (np := 13) (l2 := [some (eR v1), some (eI (a1))]) (s2 := [eI (1)]) rfl rfl rfl ?_
        refine w_go (t1 := 17) rfl rfl ?_
        refine b_rz rfl rfl (Or.inr rfl) ?_
        show ex_q (dt_fg L ρ) rc (d + 6, (186, 8, [some (eR a0), some (eI (a1)), none, none, none], [eI (1)]), f :: F, μ)
        refine b_ieq (t1 := 17) (t2 := 11) rfl rfl rfl rfl (fun g10 => absurd g10 (by decide)) (fun g10 => ?_)
        refine w_t (np := 12) (l2 := [some (eR a0), some (eI (a1)), none, none, none]) (s2 := [eR a0]) rfl (s_an rfl (pos_g hI gA0 (by decide))) rfl ?_
        refine w_t (np := 13) (l2 := [some (eR a0), some (eI (a1)), none, none, none]) (s2 := [eI (2), eR a0]) rfl rfl rfl ?_
        refine w_cw (np := 16) (as := [eI (2)]) (l2 := [some (eR a0), some (eI (2))]) (rest := []) rfl rfl rfl (Nat.ble_eq.mp rfl) rfl rfl rfl (hI.kd gA0 (by decide) (n := 14) rfl) rfl ?_
        refine w_t (np := 1) (l2 := [some (eR a0), some (eI (2))]) (s2 := [eR a0]) rfl (s_an rfl (pos_g hI gA0 (by decide))) rfl ?_
        refine w_t (np := 2) (l2 := [some (eR a0), some (eI (2))]) (s2 := [eI (2), eR a0]) rfl rfl rfl ?_
        refine j_pf (np := 5) (w := 2) rfl rfl hI gA0 (by decide) (n := 14) rfl rfl (hO_i (lo := -2147483648) (hi := 2147483647) rfl (by decide)) ?_
        intro m11 I12 W13
        have F14 : Fr l_186 0 0 g μ m11 := F0.w W13 gA0 rfl
        refine w_t (np := 6) (l2 := [some (eR a0), some (eI (2))]) (s2 := [eI (-1)]) rfl rfl rfl ?_
        refine b_ri rfl rfl ?_
        show ex_q (dt_fg L ρ) rc (d + 6, (186, 16, [some (eR a0), some (eI (a1)), none, none, none], [eI (-1)]), f :: F, m11)
        exact b_ri rfl rfl (K g m11 (-1) I12.re I12 (F14.up rfl rfl) (by decide))
