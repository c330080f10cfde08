def l_61_11 : List Nat := [6155, 6149, 6150, 6151, 6152, 6153, 6154]
theorem s_61_11 {L : Nat} {ρ : Nat → Int} {rc : eQ} {d : Nat} {f : eFr} {F : List eFr} {μ : eM} {g : Nat → Nat} {a0 : Nat} {se : Int} (hI : SI g μ) (gA0 : g a0 = 24) (h_se : μ.1 a0 8 = se) (K : ∀ (μ2 : eM) (v : Int) (se2 : Int), SI g μ2 → Fr l_61_11 0 0 g μ μ2 → (0 ≤ v ∧ v ≤ 1) → μ2.1 a0 8 = se2 → (v = 0 ∨ (0 ≤ se2 ∧ se2 ≤ 9)) → ex_q (dt_fg L ρ) rc (d + 6, (f.1, f.2.1, f.2.2.1, eI v :: f.2.2.2), F, μ2)) : ex_q (dt_fg L ρ) rc (d + 5, (61, 0, [some (eR a0), some (eR 11), some (eI (9))], []), f :: F, μ) := by
  have F0 : Fr l_61_11 0 0 g μ μ := Fr.r
  have b_se : -2147483648 ≤ se ∧ se ≤ 2147483647 := by
    rw [← h_se]
    exact hI.int gA0 (by decide) (n := 11) rfl (by decide) rfl
  refine w_t (np := 1) (l2 := [some (eR a0), some (eR 11), some (eI (9))]) (s2 := [eR a0]) rfl (s_an rfl (pos_g hI gA0 (by decide))) rfl ?_
  refine w_t (np := 2) (l2 := [some (eR a0), some (eR 11), some (eI (9))]) (s2 := [eR 11, eR a0]) rfl (s_an rfl (by decide)) rfl ?_
  refine w_cw (np := 5) (as := [eR 11]) (l2 := [some (eR a0), some (eR 11), none]) (rest := []) rfl rfl rfl (Nat.ble_eq.mp rfl) rfl rfl rfl (hI.kd gA0 (by decide) (n := 11) rfl) rfl ?_
  refine s_70_11 hI gA0 ?_
  intro v1 b2
  show ex_q (dt_fg L ρ) rc (d + 5, (61, 5, [some (eR a0), some (eR 11), some (eI (9))], [eI (v1)]), f :: F, μ)
  refine b_ine (t1 := 13) (t2 := 8) rfl rfl rfl (ev_w_in (by omega) (by omega)) (fun g3 => ?_) (fun g3 => ?_)
  · have b4 : 1 ≤ v1 ∧ v1 ≤ 1 := by omega
    refine w_t (np := 14) (l2 := [some (eR a0), some (eR 11), some (eI (9))]) (s2 := [eR a0]) rfl (s_an rfl (pos_g hI gA0 (by decide))) rfl ?_
    refine w_cw (np := 17) (as := []) (l2 := [some (eR a0), none, none]) (rest := []) rfl rfl rfl (Nat.ble_eq.mp rfl) rfl rfl rfl (hI.kd gA0 (by decide) (n := 11) rfl) rfl ?_
    obtain ⟨v4, e5, b6⟩ := hI.pk (k := 7) gA0 (by decide) (n := 11) rfl rfl (lo := -2147483648) (hi := 2147483647) rfl
    obtain ⟨v7, e8, b9⟩ := hI.pk (k := 4) gA0 (by decide) (n := 11) rfl rfl (lo := -2147483648) (hi := 2147483647) rfl
    refine s_67v hI gA0 e5 e8 ?_
    intro m10 v13 v15 I11 F12 e14 e16 h17
    have F18 : Fr l_61_11 0 0 g μ m10 := F0.t F12 rfl
    have b19 : -2147483648 ≤ v13 ∧ v13 ≤ 2147483647 := by
      rw [← e14]
      exact I11.int gA0 (by decide) (n := 11) rfl (by decide) rfl
    have b20 : -2147483648 ≤ v15 ∧ v15 ≤ 2147483647 := by
      rw [← e16]
      exact I11.int gA0 (by decide) (n := 11) rfl (by decide) rfl
    show ex_q (dt_fg L ρ) rc (d + 5, (61, 17, [some (eR a0), some (eR 11), some (eI (9))], []), f :: F, m10)
    refine w_t (np := 18) (l2 := [some (eR a0), some (eR 11), some (eI (9))]) (s2 := [eR a0]) rfl (s_an rfl (pos_g I11 gA0 (by decide))) rfl ?_
    refine w_gf (np := 21) (v := eI (v15)) rfl rfl (I11.kd gA0 (by decide) (n := 11) rfl) (by rw [e16]; rfl) ?_
    refine w_t (np := 22) (l2 := [some (eR a0), some (eR 11), some (eI (9))]) (s2 := [eI (2), eI (v15)]) rfl rfl rfl ?_
    refine b_ceq (t1 := 30) (t2 := 25) rfl rfl rfl (ev_w_in (by omega) (by omega)) rfl (fun g21 => ?_) (fun g21 => ?_)
    · have b22 : 2 ≤ v15 ∧ v15 ≤ 2 := by omega
      refine w_t (np := 31) (l2 := [some (eR a0), some (eR 11), some (eI (9))]) (s2 := [eR a0]) rfl (s_an rfl (pos_g I11 gA0 (by decide))) rfl ?_
      refine w_gf (np := 34) (v := eI (v13)) rfl rfl (I11.kd gA0 (by decide) (n := 11) rfl) (by rw [e14]; rfl) ?_
      refine w_t (np := 35) (l2 := [some (eR a0), some (eR 11), some (eI (9))]) (s2 := [eI (9), eI (v13)]) rfl rfl rfl ?_
      refine b_cle (t1 := 48) (t2 := 38) rfl rfl rfl (ev_w_in (by omega) (by omega)) rfl (fun g22 => ?_) (fun g22 => ?_)
      · have b23 : -2147483648 ≤ v13 ∧ v13 ≤ 9 := by omega
        refine w_t (np := 49) (l2 := [some (eR a0), some (eR 11), some (eI (9))]) (s2 := [eR a0]) rfl (s_an rfl (pos_g I11 gA0 (by decide))) rfl ?_
        refine w_t (np := 50) (l2 := [some (eR a0), some (eR 11), some (eI (9))]) (s2 := [eR a0, eR a0]) rfl (s_an rfl (pos_g I11 gA0 (by decide))) rfl ?_
        refine w_gf (np := 53) (v := eI (v13)) rfl rfl (I11.kd gA0 (by decide) (n := 11) rfl) (by rw [e14]; rfl) ?_
        refine j_pf (np := 56) (w := v13) rfl rfl I11 gA0 (by decide) (n := 11) rfl rfl (hO_i (lo := -2147483648) (hi := 2147483647) rfl (by omega)) ?_
        intro m23 I24 W25
        have F26 : Fr l_61_11 0 0 g μ m23 := F18.w W25 gA0 rfl
        refine w_t (np := 57) (l2 := [some (eR a0), some (eR 11), some (eI (9))]) (s2 := [eR a0]) rfl (s_an rfl (pos_g I24 gA0 (by decide))) rfl ?_
        refine w_cw (np := 60) (as := []) (l2 := [some (eR a0), none, none]) (rest := []) rfl rfl rfl (Nat.ble_eq.mp rfl) rfl rfl rfl (I24.kd gA0 (by decide) (n := 11) rfl) rfl ?_
        refine s_67v I24 gA0 (W25.slot e14 (by decide)) (W25.slot e16 (by decide)) ?_
        intro m27 v30 v32 I28 F29 e31 e33 h34
        have F35 : Fr l_61_11 0 0 g μ m27 := F26.t F29 rfl
        have b36 : -2147483648 ≤ v30 ∧ v30 ≤ 2147483647 := by
          rw [← e31]
          exact I28.int gA0 (by decide) (n := 11) rfl (by decide) rfl
        have b37 : -2147483648 ≤ v32 ∧ v32 ≤ 2147483647 := by
          rw [← e33]
          exact I28.int gA0 (by decide) (n := 11) rfl (by decide) rfl
        show ex_q (dt_fg L ρ) rc (d + 5, (61, 60, [some (eR a0), some (eR 11), some (eI (9))], []), f :: F, m27)
        refine w_t (np := 61) (l2 := [some (eR a0), some (eR 11), some (eI (9))]) (s2 := [eI (1)]) rfl rfl rfl ?_
        exact b_rz rfl rfl (Or.inr rfl) (K m27 (1) (v13) I28 F35 (by decide) (F29.k W25.at gA0 (by decide) rfl) (by omega))
      · have b23 : 10 ≤ v13 ∧ v13 ≤ 2147483647 := by omega
        refine w_t (np := 39) (l2 := [some (eR a0), some (eR 11), some (eI (9))]) (s2 := [eR a0]) rfl (s_an rfl (pos_g I11 gA0 (by decide))) rfl ?_
        refine w_t (np := 40) (l2 := [some (eR a0), some (eR 11), some (eI (9))]) (s2 := [eI (3), eR a0]) rfl rfl rfl ?_
        refine w_t (np := 41) (l2 := [some (eR a0), some (eR 11), some (eI (9))]) (s2 := [eR a0, eI (3), eR a0]) rfl (s_an rfl (pos_g I11 gA0 (by decide))) rfl ?_
        refine j_gi (np := 44) rfl rfl rfl I11 gA0 (by decide) (n := 11) rfl rfl (lo := 0) (hi := 900) rfl ?_
        intro v23 e24 b25
        refine w_cw (np := 47) (as := [eI (3), eI (v23)]) (l2 := [some (eR a0), some (eI (3)), some (eI (v23))]) (rest := []) rfl rfl rfl (Nat.ble_eq.mp rfl) rfl rfl rfl (I11.kd gA0 (by decide) (n := 11) rfl) rfl ?_
        refine w_t (np := 1) (l2 := [some (eR a0), some (eI (3)), some (eI (v23))]) (s2 := [eR a0]) rfl (s_an rfl (pos_g I11 gA0 (by decide))) rfl ?_
        refine w_t (np := 2) (l2 := [some (eR a0), some (eI (3)), some (eI (v23))]) (s2 := [eI (3), eR a0]) rfl rfl rfl ?_
        refine j_pf (np := 5) (w := 3) rfl rfl I11 gA0 (by decide) (n := 11) rfl rfl (hO_i (lo := -2147483648) (hi := 2147483647) rfl (by decide)) ?_
        intro m26 I27 W28
        have F29 : Fr l_61_11 0 0 g μ m26 := F18.w W28 gA0 rfl
        refine w_t (np := 6) (l2 := [some (eR a0), some (eI (3)), some (eI (v23))]) (s2 := [eR a0]) rfl (s_an rfl (pos_g I27 gA0 (by decide))) rfl ?_
        refine w_t (np := 7) (l2 := [some (eR a0), some (eI (3)), some (eI (v23))]) (s2 := [eI (v23), eR a0]) rfl rfl rfl ?_
        refine j_pf (np := 10) (w := v23) rfl rfl I27 gA0 (by decide) (n := 11) rfl rfl (hO_i (lo := -2147483648) (hi := 2147483647) rfl (by omega)) ?_
        intro m30 I31 W32
        have F33 : Fr l_61_11 0 0 g μ m30 := F29.w W32 gA0 rfl
        refine w_t (np := 11) (l2 := [some (eR a0), some (eI (3)), some (eI (v23))]) (s2 := [eI (0)]) rfl rfl rfl ?_
        refine b_rz rfl rfl (Or.inl rfl) ?_
        show ex_q (dt_fg L ρ) rc (d + 5, (61, 47, [some (eR a0), some (eR 11), some (eI (9))], [eI (0)]), f :: F, m30)
        exact b_rz rfl rfl (Or.inl rfl) (K m30 (0) (se) I31 F33 (by decide) (W32.slot (W28.slot (F12.k h_se gA0 (by decide) rfl) (by decide)) (by decide)) (by omega))
    · refine w_t (np := 26) (l2 := [some (eR a0), some (eR 11), some (eI (9))]) (s2 := [eR a0]) rfl (s_an rfl (pos_g I11 gA0 (by decide))) rfl ?_
      refine w_cw (np := 29) (as := []) (l2 := [some (eR a0)]) (rest := []) rfl rfl rfl (Nat.ble_eq.mp rfl) rfl rfl rfl (I11.kd gA0 (by decide) (n := 11) rfl) rfl ?_
      refine w_t (np := 1) (l2 := [some (eR a0)]) (s2 := [eR a0]) rfl (s_an rfl (pos_g I11 gA0 (by decide))) rfl ?_
      refine w_t (np := 2) (l2 := [some (eR a0)]) (s2 := [eR a0, eR a0]) rfl (s_an rfl (pos_g I11 gA0 (by decide))) rfl ?_
      refine w_gf (np := 5) (v := eI (v15)) rfl rfl (I11.kd gA0 (by decide) (n := 11) rfl) (by rw [e16]; rfl) ?_
      refine w_t (np := 6) (l2 := [some (eR a0)]) (s2 := [eI (4), eI (v15), eR a0]) rfl rfl rfl ?_
      refine b_cne (t1 := 13) (t2 := 9) rfl rfl rfl (ev_w_in (by omega) (by omega)) rfl (fun g22 => ?_) (fun g22 => ?_)
      · refine w_t (np := 14) (l2 := [some (eR a0)]) (s2 := [eI (2), eR a0]) rfl rfl rfl ?_
        refine w_t (np := 15) (l2 := [some (eR a0)]) (s2 := [eR a0, eI (2), eR a0]) rfl (s_an rfl (pos_g I11 gA0 (by decide))) rfl ?_
        refine j_gi (np := 18) rfl rfl rfl I11 gA0 (by decide) (n := 11) rfl rfl (lo := 0) (hi := 900) rfl ?_
        intro v23 e24 b25
        refine w_cw (np := 21) (as := [eI (2), eI (v23)]) (l2 := [some (eR a0), some (eI (2)), some (eI (v23))]) (rest := []) rfl rfl rfl (Nat.ble_eq.mp rfl) rfl rfl rfl (I11.kd gA0 (by decide) (n := 11) rfl) rfl ?_
        refine w_t (np := 1) (l2 := [some (eR a0), some (eI (2)), some (eI (v23))]) (s2 := [eR a0]) rfl (s_an rfl (pos_g I11 gA0 (by decide))) rfl ?_
        refine w_t (np := 2) (l2 := [some (eR a0), some (eI (2)), some (eI (v23))]) (s2 := [eI (2), eR a0]) rfl rfl rfl ?_
        refine j_pf (np := 5) (w := 2) rfl rfl I11 gA0 (by decide) (n := 11) rfl rfl (hO_i (lo := -2147483648) (hi := 2147483647) rfl (by decide)) ?_
        intro m26 I27 W28
        have F29 : Fr l_61_11 0 0 g μ m26 := F18.w W28 gA0 rfl
        refine w_t (np := 6) (l2 := [some (eR a0), some (eI (2)), some (eI (v23))]) (s2 := [eR a0]) rfl (s_an rfl (pos_g I27 gA0 (by decide))) rfl ?_
        refine w_t (np := 7) (l2 := [some (eR a0), some (eI (2)), some (eI (v23))]) (s2 := [eI (v23), eR a0]) rfl rfl rfl ?_
        refine j_pf (np := 10) (w := v23) rfl rfl I27 gA0 (by decide) (n := 11) rfl rfl (hO_i (lo := -2147483648) (hi := 2147483647) rfl (by omega)) ?_
        intro m30 I31 W32
        have F33 : Fr l_61_11 0 0 g μ m30 := F29.w W32 gA0 rfl
        refine w_t (np := 11) (l2 := [some (eR a0), some (eI (2)), some (eI (v23))]) (s2 := [eI (0)]) rfl rfl rfl ?_
        refine b_rz rfl rfl (Or.inl rfl) ?_
        show ex_q (dt_fg L ρ) rc (d + 4, (62, 21, [some (eR a0)], [eI (0)]), (61, 29, [some (eR a0), some (eR 11), some (eI (9))], []) :: f :: F, m30)
        refine b_rz rfl rfl (Or.inl rfl) ?_
        show ex_q (dt_fg L ρ) rc (d + 5, (61, 29, [some (eR a0), some (eR 11), some (eI (9))], [eI (0)]), f :: F, m30)
        exact b_rz rfl rfl (Or.inl rfl) (K m30 (0) (se) I31 F33 (by decide) (W32.slot (W28.slot (F12.k h_se gA0 (by decide) rfl) (by decide)) (by decide)) (by omega))
      · have b23 : 4 ≤ v15 ∧ v15 ≤ 4 := by omega
        refine w_t (np := 10) (l2 := [some (eR a0)]) (s2 := [eI (1), eR a0]) rfl rfl rfl ?_
        refine w_go (t1 := 14) rfl rfl ?_
        refine w_t (np := 15) (l2 := [some (eR a0)]) (s2 := [eR a0, eI (1), eR a0]) rfl (s_an rfl (pos_g I11 gA0 (by decide))) rfl ?_
        refine j_gi (np := 18) rfl rfl rfl I11 gA0 (by decide) (n := 11) rfl rfl (lo := 0) (hi := 900) rfl ?_
        intro v23 e24 b25
        refine w_cw (np := 21) (as := [eI (1), eI (v23)]) (l2 := [some (eR a0), some (eI (1)), some (eI (v23))]) (rest := []) rfl rfl rfl (Nat.ble_eq.mp rfl) rfl rfl rfl (I11.kd gA0 (by decide) (n := 11) rfl) rfl ?_
        refine w_t (np := 1) (l2 := [some (eR a0), some (eI (1)), some (eI (v23))]) (s2 := [eR a0]) rfl (s_an rfl (pos_g I11 gA0 (by decide))) rfl ?_
        refine w_t (np := 2) (l2 := [some (eR a0), some (eI (1)), some (eI (v23))]) (s2 := [eI (1), eR a0]) rfl rfl rfl ?_
        refine j_pf (np := 5) (w := 1) rfl rfl I11 gA0 (by decide) (n := 11) rfl rfl (hO_i (lo := -2147483648) (hi := 2147483647) rfl (by decide)) ?_
        intro m26 I27 W28
        have F29 : Fr l_61_11 0 0 g μ m26 := F18.w W28 gA0 rfl
        refine w_t (np := 6) (l2 := [some (eR a0), some (eI (1)), some (eI (v23))]) (s2 := [eR a0]) rfl (s_an rfl (pos_g I27 gA0 (by decide))) rfl ?_
        refine w_t (np := 7) (l2 := [some (eR a0), some (eI (1)), some (eI (v23))]) (s2 := [eI (v23), eR a0]) rfl rfl rfl ?_
        refine j_pf (np := 10) (w := v23) rfl rfl I27 gA0 (by decide) (n := 11) rfl rfl (hO_i (lo := -2147483648) (hi := 2147483647) rfl (by omega)) ?_
        intro m30 I31 W32
        have F33 : Fr l_61_11 0 0 g μ m30 := F29.w W32 gA0 rfl
        refine w_t (np := 11) (l2 := [some (eR a0), some (eI (1)), some (eI (v23))]) (s2 := [eI (0)]) rfl rfl rfl ?_
        refine b_rz rfl rfl (Or.inl rfl) ?_
        show ex_q (dt_fg L ρ) rc (d + 4, (62, 21, [some (eR a0)], [eI (0)]), (61, 29, [some (eR a0), some (eR 11), some (eI (9))], []) :: f :: F, m30)
        refine b_rz rfl rfl (Or.inl rfl) ?_
        show ex_q (dt_fg L ρ) rc (d + 5, (61, 29, [some (eR a0), some (eR 11), some (eI (9))], [eI (0)]), f :: F, m30)
        exact b_rz rfl rfl (Or.inl rfl) (K m30 (0) (se) I31 F33 (by decide) (W32.slot (W28.slot (F12.k h_se gA0 (by decide) rfl) (by decide)) (by decide)) (by omega))
  · have b4 : 0 ≤ v1 ∧ v1 ≤ 0 := by omega
    refine w_t (np := 9) (l2 := [some (eR a0), some (eR 11), some (eI (9))]) (s2 := [eR a0]) rfl (s_an rfl (pos_g hI gA0 (by decide))) rfl ?_
    refine w_cw (np := 12) (as := []) (l2 := [some (eR a0)]) (rest := []) rfl rfl rfl (Nat.ble_eq.mp rfl) rfl rfl rfl (hI.kd gA0 (by decide) (n := 11) rfl) rfl ?_
    refine w_t (np := 1) (l2 := [some (eR a0)]) (s2 := [eR a0]) rfl (s_an rfl (pos_g hI gA0 (by decide))) rfl ?_
    refine w_t (np := 2) (l2 := [some (eR a0)]) (s2 := [eR a0, eR a0]) rfl (s_an rfl (pos_g hI gA0 (by decide))) rfl ?_
    refine j_gi (np := 5) rfl rfl rfl hI gA0 (by decide) (n := 11) rfl rfl (lo := -2147483648) (hi := 2147483647) rfl ?_
    intro v4 e5 b6
    refine w_t (np := 6) (l2 := [some (eR a0)]) (s2 := [eI (4), eI (v4), eR a0]) rfl rfl rfl ?_
    refine b_cne (t1 := 13) (t2 := 9) rfl rfl rfl (ev_w_in (by omega) (by omega)) rfl (fun g7 => ?_) (fun g7 => ?_)
    · refine w_t (np := 14) (l2 := [some (eR a0)]) (s2 := [eI (2), eR a0]) rfl rfl rfl ?_
      refine w_t (np := 15) (l2 := [some (eR a0)]) (s2 := [eR a0, eI (2), eR a0]) rfl (s_an rfl (pos_g hI gA0 (by decide))) rfl ?_
      refine j_gi (np := 18) rfl rfl rfl hI gA0 (by decide) (n := 11) rfl rfl (lo := 0) (hi := 900) rfl ?_
      intro v8 e9 b10
      refine w_cw (np := 21) (as := [eI (2), eI (v8)]) (l2 := [some (eR a0), some (eI (2)), some (eI (v8))]) (rest := []) rfl rfl rfl (Nat.ble_eq.mp rfl) rfl rfl rfl (hI.kd gA0 (by decide) (n := 11) rfl) rfl ?_
      refine w_t (np := 1) (l2 := [some (eR a0), some (eI (2)), some (eI (v8))]) (s2 := [eR a0]) rfl (s_an rfl (pos_g hI gA0 (by decide))) rfl ?_
      refine w_t (np := 2) (l2 := [some (eR a0), some (eI (2)), some (eI (v8))]) (s2 := [eI (2), eR a0]) rfl rfl rfl ?_
      refine j_pf (np := 5) (w := 2) rfl rfl hI gA0 (by decide) (n := 11) rfl rfl (hO_i (lo := -2147483648) (hi := 2147483647) rfl (by decide)) ?_
      intro m11 I12 W13
      have F14 : Fr l_61_11 0 0 g μ m11 := F0.w W13 gA0 rfl
      refine w_t (np := 6) (l2 := [some (eR a0), some (eI (2)), some (eI (v8))]) (s2 := [eR a0]) rfl (s_an rfl (pos_g I12 gA0 (by decide))) rfl ?_
      refine w_t (np := 7) (l2 := [some (eR a0), some (eI (2)), some (eI (v8))]) (s2 := [eI (v8), eR a0]) rfl rfl rfl ?_
      refine j_pf (np := 10) (w := v8) rfl rfl I12 gA0 (by decide) (n := 11) rfl rfl (hO_i (lo := -2147483648) (hi := 2147483647) rfl (by omega)) ?_
      intro m15 I16 W17
      have F18 : Fr l_61_11 0 0 g μ m15 := F14.w W17 gA0 rfl
      refine w_t (np := 11) (l2 := [some (eR a0), some (eI (2)), some (eI (v8))]) (s2 := [eI (0)]) rfl rfl rfl ?_
      refine b_rz rfl rfl (Or.inl rfl) ?_
      show ex_q (dt_fg L ρ) rc (d + 4, (62, 21, [some (eR a0)], [eI (0)]), (61, 12, [some (eR a0), some (eR 11), some (eI (9))], []) :: f :: F, m15)
      refine b_rz rfl rfl (Or.inl rfl) ?_
      show ex_q (dt_fg L ρ) rc (d + 5, (61, 12, [some (eR a0), some (eR 11), some (eI (9))], [eI (0)]), f :: F, m15)
      exact b_rz rfl rfl (Or.inl rfl) (K m15 (0) (se) I16 F18 (by decide) (W17.slot (W13.slot h_se (by decide)) (by decide)) (by omega))
    · have b8 : 4 ≤ v4 ∧ v4 ≤ 4 := by omega
      refine w_t (np := 10) (l2 := [some (eR a0)]) (s2 := [eI (1), eR a0]) rfl rfl rfl ?_
      refine w_go (t1 := 14) rfl rfl ?_
      refine w_t (np := 15) (l2 := [some (eR a0)]) (s2 := [eR a0, eI (1), eR a0]) rfl (s_an rfl (pos_g hI gA0 (by decide))) rfl ?_
      refine j_gi (np := 18) rfl rfl rfl hI gA0 (by decide) (n := 11) rfl rfl (lo := 0) (hi := 900) rfl ?_
      intro v8 e9 b10
      refine w_cw (np := 21) (as := [eI (1), eI (v8)]) (l2 := [some (eR a0), some (eI (1)), some (eI (v8))]) (rest := []) rfl rfl rfl (Nat.ble_eq.mp rfl) rfl rfl rfl (hI.kd gA0 (by decide) (n := 11) rfl) rfl ?_
      refine w_t (np := 1) (l2 := [some (eR a0), some (eI (1)), some (eI (v8))]) (s2 := [eR a0]) rfl (s_an rfl (pos_g hI gA0 (by decide))) rfl ?_
      refine w_t (np := 2) (l2 := [some (eR a0), some (eI (1)), some (eI (v8))]) (s2 := [eI (1), eR a0]) rfl rfl rfl ?_
      refine j_pf (np := 5) (w := 1) rfl rfl hI gA0 (by decide) (n := 11) rfl rfl (hO_i (lo := -2147483648) (hi := 2147483647) rfl (by decide)) ?_
      intro m11 I12 W13
      have F14 : Fr l_61_11 0 0 g μ m11 := F0.w W13 gA0 rfl
      refine w_t (np := 6) (l2 := [some (eR a0), some (eI (1)), some (eI (v8))]) (s2 := [eR a0]) rfl (s_an rfl (pos_g I12 gA0 (by decide))) rfl ?_
      refine w_t (np := 7) (l2 := [some (eR a0), some (eI (1)), some (eI (v8))]) (s2 := [eI (v8), eR a0]) rfl rfl rfl ?_
      refine j_pf (np := 10) (w := v8) rfl rfl I12 gA0 (by decide) (n := 11) rfl rfl (hO_i (lo := -2147483648) (hi := 2147483647) rfl (by omega)) ?_
      intro m15 I16 W17
      have F18 : Fr l_61_11 0 0 g μ m15 := F14.w W17 gA0 rfl
      refine w_t (np := 11) (l2 := [some (eR a0), some (eI (1)), some (eI (v8))]) (s2 := [eI (0)]) rfl rfl rfl ?_
      refine b_rz rfl rfl (Or.inl rfl) ?_
      show ex_q (dt_fg L ρ) rc (d + 4, (62, 21, [some (eR a0)], [eI (0)]), (61, 12, [some (eR a0), some (eR 11), some (eI (9))], []) :: f :: F, m15)
      refine b_rz rfl rfl (Or.inl rfl) ?_
      show ex_q (dt_fg L ρ) rc (d + 5, (61, 12, [some (eR a0), some (eR 11), some (eI (9))], [eI (0)]), f :: F, m15)
      exact b_rz rfl rfl (Or.inl rfl) (K m15 (0) (se) I16 F18 (by decide) (W17.slot (W13.slot h_se (by decide)) (by decide)) (by omega))
def l_61_12 : List Nat := [6155, 6149, 6150, 6151, 6152, 6153, 6154]
theorem s_61_12 {L : Nat} {ρ : Nat → Int} {rc : eQ} {d : Nat} {f : eFr} {F : List eFr} {μ : eM} {g : Nat → Nat} {a0 : Nat} {se : Int} (hI : SI g μ) (gA0 : g a0 = 24) (h_se : μ.1 a0 8 = se) (K : ∀ (μ2 : eM) (v : Int) (se2 : Int), SI g μ2 → Fr l_61_12 0 0 g μ μ2 → (0 ≤ v ∧ v ≤ 1) → μ2.1 a0 8 = se2 → (v = 0 ∨ (0 ≤ se2 ∧ se2 ≤ 1)) → ex_q (dt_fg L ρ) rc (d + 6, (f.1, f.2.1, f.2.2.1, eI v :: f.2.2.2), F, μ2)) : ex_q (dt_fg L ρ) rc (d + 5, (61, 0, [some (eR a0), some (eR 12), some (eI (1))], []), f :: F, μ) := by
  have F0 : Fr l_61_12 0 0 g μ μ := Fr.r
  have b_se : -2147483648 ≤ se ∧ se ≤ 2147483647 := by
    rw [← h_se]
    exact hI.int gA0 (by decide) (n := 11) rfl (by decide) rfl
  refine w_t (np := 1) (l2 := [some (eR a0), some (eR 12), some (eI (1))]) (s2 := [eR a0]) rfl (s_an rfl (pos_g hI gA0 (by decide))) rfl ?_
  refine w_t (np := 2) (l2 := [some (eR a0), some (eR 12), some (eI (1))]) (s2 := [eR 12, eR a0]) rfl (s_an rfl (by decide)) rfl ?_
  refine w_cw (np := 5) (as := [eR 12]) (l2 := [some (eR a0), some (eR 12), none]) (rest := []) rfl rfl rfl (Nat.ble_eq.mp rfl) rfl rfl rfl (hI.kd gA0 (by decide) (n := 11) rfl) rfl ?_
  refine s_70_12 hI gA0 ?_
  intro v1 b2
  show ex_q (dt_fg L ρ) rc (d + 5, (61, 5, [some (eR a0), some (eR 12), some (eI (1))], [eI (v1)]), f :: F, μ)
  refine b_ine (t1 := 13) (t2 := 8) rfl rfl rfl (ev_w_in (by omega) (by omega)) (fun g3 => ?_) (fun g3 => ?_)
  · have b4 : 1 ≤ v1 ∧ v1 ≤ 1 := by omega
    refine w_t (np := 14) (l2 := [some (eR a0), some (eR 12), some (eI (1))]) (s2 := [eR a0]) rfl (s_an rfl (pos_g hI gA0 (by decide))) rfl ?_
    refine w_cw (np := 17) (as := []) (l2 := [some (eR a0), none, none]) (rest := []) rfl rfl rfl (Nat.ble_eq.mp rfl) rfl rfl rfl (hI.kd gA0 (by decide) (n := 11) rfl) rfl ?_
    obtain ⟨v4, e5, b6⟩ := hI.pk (k := 7) gA0 (by decide) (n := 11) rfl rfl (lo := -2147483648) (hi := 2147483647) rfl
    obtain ⟨v7, e8, b9⟩ := hI.pk (k := 4) gA0 (by decide) (n := 11) rfl rfl (lo := -2147483648) (hi := 2147483647) rfl
    refine s_67v hI gA0 e5 e8 ?_
    intro m10 v13 v15 I11 F12 e14 e16 h17
    have F18 : Fr l_61_12 0 0 g μ m10 := F0.t F12 rfl
    have b19 : -2147483648 ≤ v13 ∧ v13 ≤ 2147483647 := by
      rw [← e14]
      exact I11.int gA0 (by decide) (n := 11) rfl (by decide) rfl
    have b20 : -2147483648 ≤ v15 ∧ v15 ≤ 2147483647 := by
      rw [← e16]
      exact I11.int gA0 (by decide) (n := 11) rfl (by decide) rfl
    show ex_q (dt_fg L ρ) rc (d + 5, (61, 17, [some (eR a0), some (eR 12), some (eI (1))], []), f :: F, m10)
    refine w_t (np := 18) (l2 := [some (eR a0), some (eR 12), some (eI (1))]) (s2 := [eR a0]) rfl (s_an rfl (pos_g I11 gA0 (by decide))) rfl ?_
    refine w_gf (np := 21) (v := eI (v15)) rfl rfl (I11.kd gA0 (by decide) (n := 11) rfl) (by rw [e16]; rfl) ?_
    refine w_t (np := 22) (l2 := [some (eR a0), some (eR 12), some (eI (1))]) (s2 := [eI (2), eI (v15)]) rfl rfl rfl ?_
    refine b_ceq (t1 := 30) (t2 := 25) rfl rfl rfl (ev_w_in (by omega) (by omega)) rfl (fun g21 => ?_) (fun g21 => ?_)
    · have b22 : 2 ≤ v15 ∧ v15 ≤ 2 := by omega
      refine w_t (np := 31) (l2 := [some (eR a0), some (eR 12), some (eI (1))]) (s2 := [eR a0]) rfl (s_an rfl (pos_g I11 gA0 (by decide))) rfl ?_
      refine w_gf (np := 34) (v := eI (v13)) rfl rfl (I11.kd gA0 (by decide) (n := 11) rfl) (by rw [e14]; rfl) ?_
      refine w_t (np := 35) (l2 := [some (eR a0), some (eR 12), some (eI (1))]) (s2 := [eI (1), eI (v13)]) rfl rfl rfl ?_
      refine b_cle (t1 := 48) (t2 := 38) rfl rfl rfl (ev_w_in (by omega) (by omega)) rfl (fun g22 => ?_) (fun g22 => ?_)
      · have b23 : -2147483648 ≤ v13 ∧ v13 ≤ 1 := by omega
        refine w_t (np := 49) (l2 := [some (eR a0), some (eR 12), some (eI (1))]) (s2 := [eR a0]) rfl (s_an rfl (pos_g I11 gA0 (by decide))) rfl ?_
        refine w_t (np := 50) (l2 := [some (eR a0), some (eR 12), some (eI (1))]) (s2 := [eR a0, eR a0]) rfl (s_an rfl (pos_g I11 gA0 (by decide))) rfl ?_
        refine w_gf (np := 53) (v := eI (v13)) rfl rfl (I11.kd gA0 (by decide) (n := 11) rfl) (by rw [e14]; rfl) ?_
        refine j_pf (np := 56) (w := v13) rfl rfl I11 gA0 (by decide) (n := 11) rfl rfl (hO_i (lo := -2147483648) (hi := 2147483647) rfl (by omega)) ?_
        intro m23 I24 W25
        have F26 : Fr l_61_12 0 0 g μ m23 := F18.w W25 gA0 rfl
        refine w_t (np := 57) (l2 := [some (eR a0), some (eR 12), some (eI (1))]) (s2 := [eR a0]) rfl (s_an rfl (pos_g I24 gA0 (by decide))) rfl ?_
        refine w_cw (np := 60) (as := []) (l2 := [some (eR a0), none, none]) (rest := []) rfl rfl rfl (Nat.ble_eq.mp rfl) rfl rfl rfl (I24.kd gA0 (by decide) (n := 11) rfl) rfl ?_
        refine s_67v I24 gA0 (W25.slot e14 (by decide)) (W25.slot e16 (by decide)) ?_
        intro m27 v30 v32 I28 F29 e31 e33 h34
        have F35 : Fr l_61_12 0 0 g μ m27 := F26.t F29 rfl
        have b36 : -2147483648 ≤ v30 ∧ v30 ≤ 2147483647 := by
          rw [← e31]
          exact I28.int gA0 (by decide) (n := 11) rfl (by decide) rfl
        have b37 : -2147483648 ≤ v32 ∧ v32 ≤ 2147483647 := by
          rw [← e33]
          exact I28.int gA0 (by decide) (n := 11) rfl (by decide) rfl
        show ex_q (dt_fg L ρ) rc (d + 5, (61, 60, [some (eR a0), some (eR 12), some (eI (1))], []), f :: F, m27)
        refine w_t (np := 61) (l2 := [some (eR a0), some (eR 12), some (eI (1))]) (s2 := [eI (1)]) rfl rfl rfl ?_
        exact b_rz rfl rfl (Or.inr rfl) (K m27 (1) (v13) I28 F35 (by decide) (F29.k W25.at gA0 (by decide) rfl) (by omega))
      · have b23 : 2 ≤ v13 ∧ v13 ≤ 2147483647 := by omega
        refine w_t (np := 39) (l2 := [some (eR a0), some (eR 12), some (eI (1))]) (s2 := [eR a0]) rfl (s_an rfl (pos_g I11 gA0 (by decide))) rfl ?_
        refine w_t (np := 40) (l2 := [some (eR a0), some (eR 12), some (eI (1))]) (s2 := [eI (3), eR a0]) rfl rfl rfl ?_
        refine w_t (np := 41) (l2 := [some (eR a0), some (eR 12), some (eI (1))]) (s2 := [eR a0, eI (3), eR a0]) rfl (s_an rfl (pos_g I11 gA0 (by decide))) rfl ?_
        refine j_gi (np := 44) rfl rfl rfl I11 gA0 (by decide) (n := 11) rfl rfl (lo := 0) (hi := 900) rfl ?_
        intro v23 e24 b25
        refine w_cw (np := 47) (as := [eI (3), eI (v23)]) (l2 := [some (eR a0), some (eI (3)), some (eI (v23))]) (rest := []) rfl rfl rfl (Nat.ble_eq.mp rfl) rfl rfl rfl (I11.kd gA0 (by decide) (n := 11) rfl) rfl ?_
        refine w_t (np := 1) (l2 := [some (eR a0), some (eI (3)), some (eI (v23))]) (s2 := [eR a0]) rfl (s_an rfl (pos_g I11 gA0 (by decide))) rfl ?_
        refine w_t (np := 2) (l2 := [some (eR a0), some (eI (3)), some (eI (v23))]) (s2 := [eI (3), eR a0]) rfl rfl rfl ?_
        refine j_pf (np := 5) (w := 3) rfl rfl I11 gA0 (by decide) (n := 11) rfl rfl (hO_i (lo := -2147483648) (hi := 2147483647) rfl (by decide)) ?_
        intro m26 I27 W28
        have F29 : Fr l_61_12 0 0 g μ m26 := F18.w W28 gA0 rfl
        refine w_t (np := 6) (l2 := [some (eR a0), some (eI (3)), some (eI (v23))]) (s2 := [eR a0]) rfl (s_an rfl (pos_g I27 gA0 (by decide))) rfl ?_
        refine w_t (np := 7) (l2 := [some (eR a0), some (eI (3)), some (eI (v23))]) (s2 := [eI (v23), eR a0]) rfl rfl rfl ?_
        refine j_pf (np := 10) (w := v23) rfl rfl I27 gA0 (by decide) (n := 11) rfl rfl (hO_i (lo := -2147483648) (hi := 2147483647) rfl (by omega)) ?_
        intro m30 I31 W32
        have F33 : Fr l_61_12 0 0 g μ m30 := F29.w W32 gA0 rfl
        refine w_t (np := 11) (l2 := [some (eR a0), some (eI (3)), some (eI (v23))]) (s2 := [eI (0)]) rfl rfl rfl ?_
        refine b_rz rfl rfl (Or.inl rfl) ?_
        show ex_q (dt_fg L ρ) rc (d + 5, (61, 47, [some (eR a0), some (eR 12), some (eI (1))], [eI (0)]), f :: F, m30)
        exact b_rz rfl rfl (Or.inl rfl) (K m30 (0) (se) I31 F33 (by decide) (W32.slot (W28.slot (F12.k h_se gA0 (by decide) rfl) (by decide)) (by decide)) (by omega))
    · refine w_t (np := 26) (l2 := [some (eR a0), some (eR 12), some (eI (1))]) (s2 := [eR a0]) rfl (s_an rfl (pos_g I11 gA0 (by decide))) rfl ?_
      refine w_cw (np := 29) (as := []) (l2 := [some (eR a0)]) (rest := []) rfl rfl rfl (Nat.ble_eq.mp rfl) rfl rfl rfl (I11.kd gA0 (by decide) (n := 11) rfl) rfl ?_
      refine w_t (np := 1) (l2 := [some (eR a0)]) (s2 := [eR a0]) rfl (s_an rfl (pos_g I11 gA0 (by decide))) rfl ?_
      refine w_t (np := 2) (l2 := [some (eR a0)]) (s2 := [eR a0, eR a0]) rfl (s_an rfl (pos_g I11 gA0 (by decide))) rfl ?_
      refine w_gf (np := 5) (v := eI (v15)) rfl rfl (I11.kd gA0 (by decide) (n := 11) rfl) (by rw [e16]; rfl) ?_
      refine w_t (np := 6) (l2 := [some (eR a0)]) (s2 := [eI (4), eI (v15), eR a0]) rfl rfl rfl ?_
      refine b_cne (t1 := 13) (t2 := 9) rfl rfl rfl (ev_w_in (by omega) (by omega)) rfl (fun g22 => ?_) (fun g22 => ?_)
      · refine w_t (np := 14) (l2 := [some (eR a0)]) (s2 := [eI (2), eR a0]) rfl rfl rfl ?_
        refine w_t (np := 15) (l2 := [some (eR a0)]) (s2 := [eR a0, eI (2), eR a0]) rfl (s_an rfl (pos_g I11 gA0 (by decide))) rfl ?_
        refine j_gi (np := 18) rfl rfl rfl I11 gA0 (by decide) (n := 11) rfl rfl (lo := 0) (hi := 900) rfl ?_
        intro v23 e24 b25
        refine w_cw (np := 21) (as := [eI (2), eI (v23)]) (l2 := [some (eR a0), some (eI (2)), some (eI (v23))]) (rest := []) rfl rfl rfl (Nat.ble_eq.mp rfl) rfl rfl rfl (I11.kd gA0 (by decide) (n := 11) rfl) rfl ?_
        refine w_t (np := 1) (l2 := [some (eR a0), some (eI (2)), some (eI (v23))]) (s2 := [eR a0]) rfl (s_an rfl (pos_g I11 gA0 (by decide))) rfl ?_
        refine w_t (np := 2) (l2 := [some (eR a0), some (eI (2)), some (eI (v23))]) (s2 := [eI (2), eR a0]) rfl rfl rfl ?_
        refine j_pf (np := 5) (w := 2) rfl rfl I11 gA0 (by decide) (n := 11) rfl rfl (hO_i (lo := -2147483648) (hi := 2147483647) rfl (by decide)) ?_
        intro m26 I27 W28
        have F29 : Fr l_61_12 0 0 g μ m26 := F18.w W28 gA0 rfl
        refine w_t (np := 6) (l2 := [some (eR a0), some (eI (2)), some (eI (v23))]) (s2 := [eR a0]) rfl (s_an rfl (pos_g I27 gA0 (by decide))) rfl ?_
        refine w_t (np := 7) (l2 := [some (eR a0), some (eI (2)), some (eI (v23))]) (s2 := [eI (v23), eR a0]) rfl rfl rfl ?_
        refine j_pf (np := 10) (w := v23) rfl rfl I27 gA0 (by decide) (n := 11) rfl rfl (hO_i (lo := -2147483648) (hi := 2147483647) rfl (by omega)) ?_
        intro m30 I31 W32
        have F33 : Fr l_61_12 0 0 g μ m30 := F29.w W32 gA0 rfl
        refine w_t (np := 11) (l2 := [some (eR a0), some (eI (2)), some (eI (v23))]) (s2 := [eI (0)]) rfl rfl rfl ?_
        refine b_rz rfl rfl (Or.inl rfl) ?_
        show ex_q (dt_fg L ρ) rc (d + 4, (62, 21, [some (eR a0)], [eI (0)]), (61, 29, [some (eR a0), some (eR 12), some (eI (1))], []) :: f :: F, m30)
        refine b_rz rfl rfl (Or.inl rfl) ?_
        show ex_q (dt_fg L ρ) rc (d + 5, (61, 29, [some (eR a0), some (eR 12), some (eI (1))], [eI (0)]), f :: F, m30)
        exact b_rz rfl rfl (Or.inl rfl) (K m30 (0) (se) I31 F33 (by decide) (W32.slot (W28.slot (F12.k h_se gA0 (by decide) rfl) (by decide)) (by decide)) (by omega))
      · have b23 : 4 ≤ v15 ∧ v15 ≤ 4 := by omega
        refine w_t (np := 10) (l2 := [some (eR a0)]) (s2 := [eI (1), eR a0]) rfl rfl rfl ?_
        refine w_go (t1 := 14) rfl rfl ?_
        refine w_t (np := 15) (l2 := [some (eR a0)]) (s2 := [eR a0, eI (1), eR a0]) rfl (s_an rfl (pos_g I11 gA0 (by decide))) rfl ?_
        refine j_gi (np := 18) rfl rfl rfl I11 gA0 (by decide) (n := 11) rfl rfl (lo := 0) (hi := 900) rfl ?_
        intro v23 e24 b25
        refine w_cw (np := 21) (as := [eI (1), eI (v23)]) (l2 := [some (eR a0), some (eI (1)), some (eI (v23))]) (rest := []) rfl rfl rfl (Nat.ble_eq.mp rfl) rfl rfl rfl (I11.kd gA0 (by decide) (n := 11) rfl) rfl ?_
        refine w_t (np := 1) (l2 := [some (eR a0), some (eI (1)), some (eI (v23))]) (s2 := [eR a0]) rfl (s_an rfl (pos_g I11 gA0 (by decide))) rfl ?_
        refine w_t (np := 2) (l2 := [some (eR a0), some (eI (1)), some (eI (v23))]) (s2 := [eI (1), eR a0]) rfl rfl rfl ?_
        refine j_pf (np := 5) (w := 1) rfl rfl I11 gA0 (by decide) (n := 11) rfl rfl (hO_i (lo := -2147483648) (hi := 2147483647) rfl (by decide)) ?_
        intro m26 I27 W28
        have F29 : Fr l_61_12 0 0 g μ m26 := F18.w W28 gA0 rfl
        refine w_t (np := 6) (l2 := [some (eR a0), some (eI (1)), some (eI (v23))]) (s2 := [eR a0]) rfl (s_an rfl (pos_g I27 gA0 (by decide))) rfl ?_
        refine w_t (np := 7) (l2 := [some (eR a0), some (eI (1)), some (eI (v23))]) (s2 := [eI (v23), eR a0]) rfl rfl rfl ?_
        refine j_pf (np := 10) (w := v23) rfl rfl I27 gA0 (by decide) (n := 11) rfl rfl (hO_i (lo := -2147483648) (hi := 2147483647) rfl (by omega)) ?_
        intro m30 I31 W32
        have F33 : Fr l_61_12 0 0 g μ m30 := F29.w W32 gA0 rfl
        refine w_t (np := 11) (l2 := [some (eR a0), some (eI (1)), some (eI (v23))]) (s2 := [eI (0)]) rfl rfl rfl ?_
        refine b_rz rfl rfl (Or.inl rfl) ?_
        show ex_q (dt_fg L ρ) rc (d + 4, (62, 21, [some (eR a0)], [eI (0)]), (61, 29, [some (eR a0), some (eR 12), some (eI (1))], []) :: f :: F, m30)
        refine b_rz rfl rfl (Or.inl rfl) ?_
        show ex_q (dt_fg L ρ) rc (d + 5, (61, 29, [some (eR a0), some (eR 12), some (eI (1))], [eI (0)]), f :: F, m30)
        exact b_rz rfl rfl (Or.inl rfl) (K m30 (0) (se) I31 F33 (by decide) (W32.slot (W28.slot (F12.k h_se gA0 (by decide) rfl) (by decide)) (by decide)) (by omega))
  · have b4 : 0 ≤ v1 ∧ v1 ≤ 0 := by omega
    refine w_t (np := 9) (l2 := [some (eR a0), some (eR 12), some (eI (1))]) (s2 := [eR a0]) rfl (s_an rfl (pos_g hI gA0 (by decide))) rfl ?_
    refine w_cw (np := 12) (as := []) (l2 := [some (eR a0)]) (rest := []) rfl rfl rfl (Nat.ble_eq.mp rfl) rfl rfl rfl (hI.kd gA0 (by decide) (n := 11) rfl) rfl ?_
    refine w_t (np := 1) (l2 := [some (eR a0)]) (s2 := [eR a0]) rfl (s_an rfl (pos_g hI gA0 (by decide))) rfl ?_
    refine w_t (np := 2) (l2 := [some (eR a0)]) (s2 := [eR a0, eR a0]) rfl (s_an rfl (pos_g hI gA0 (by decide))) rfl ?_
    refine j_gi (np := 5) rfl rfl rfl hI gA0 (by decide) (n := 11) rfl rfl (lo := -2147483648) (hi := 2147483647) rfl ?_
    intro v4 e5 b6
    refine w_t (np := 6) (l2 := [some (eR a0)]) (s2 := [eI (4), eI (v4), eR a0]) rfl rfl rfl ?_
    refine b_cne (t1 := 13) (t2 := 9) rfl rfl rfl (ev_w_in (by omega) (by omega)) rfl (fun g7 => ?_) (fun g7 => ?_)
    · refine w_t (np := 14) (l2 := [some (eR a0)]) (s2 := [eI (2), eR a0]) rfl rfl rfl ?_
      refine w_t (np := 15) (l2 := [some (eR a0)]) (s2 := [eR a0, eI (2), eR a0]) rfl (s_an rfl (pos_g hI gA0 (by decide))) rfl ?_
      refine j_gi (np := 18) rfl rfl rfl hI gA0 (by decide) (n := 11) rfl rfl (lo := 0) (hi := 900) rfl ?_
      intro v8 e9 b10
      refine w_cw (np := 21) (as := [eI (2), eI (v8)]) (l2 := [some (eR a0), some (eI (2)), some (eI (v8))]) (rest := []) rfl rfl rfl (Nat.ble_eq.mp rfl) rfl rfl rfl (hI.kd gA0 (by decide) (n := 11) rfl) rfl ?_
      refine w_t (np := 1) (l2 := [some (eR a0), some (eI (2)), some (eI (v8))]) (s2 := [eR a0]) rfl (s_an rfl (pos_g hI gA0 (by decide))) rfl ?_
      refine w_t (np := 2) (l2 := [some (eR a0), some (eI (2)), some (eI (v8))]) (s2 := [eI (2), eR a0]) rfl rfl rfl ?_
      refine j_pf (np := 5) (w := 2) rfl rfl hI gA0 (by decide) (n := 11) rfl rfl (hO_i (lo := -2147483648) (hi := 2147483647) rfl (by decide)) ?_
      intro m11 I12 W13
      have F14 : Fr l_61_12 0 0 g μ m11 := F0.w W13 gA0 rfl
      refine w_t (np := 6) (l2 := [some (eR a0), some (eI (2)), some (eI (v8))]) (s2 := [eR a0]) rfl (s_an rfl (pos_g I12 gA0 (by decide))) rfl ?_
      refine w_t (np := 7) (l2 := [some (eR a0), some (eI (2)), some (eI (v8))]) (s2 := [eI (v8), eR a0]) rfl rfl rfl ?_
      refine j_pf (np := 10) (w := v8) rfl rfl I12 gA0 (by decide) (n := 11) rfl rfl (hO_i (lo := -2147483648) (hi := 2147483647) rfl (by omega)) ?_
      intro m15 I16 W17
      have F18 : Fr l_61_12 0 0 g μ m15 := F14.w W17 gA0 rfl
      refine w_t (np := 11) (l2 := [some (eR a0), some (eI (2)), some (eI (v8))]) (s2 := [eI (0)]) rfl rfl rfl ?_
      refine b_rz rfl rfl (Or.inl rfl) ?_
      show ex_q (dt_fg L ρ) rc (d + 4, (62, 21, [some (eR a0)], [eI (0)]), (61, 12, [some (eR a0), some (eR 12), some (eI (1))], []) :: f :: F, m15)
      refine b_rz rfl rfl (Or.inl rfl) ?_
      show ex_q (dt_fg L ρ) rc (d + 5, (61, 12, [some (eR a0), some (eR 12), some (eI (1))], [eI (0)]), f :: F, m15)
      exact b_rz rfl rfl (Or.inl rfl) (K m15 (0) (se) I16 F18 (by decide) (W17.slot (W13.slot h_se (by decide)) (by decide)) (by omega))
    · have b8 : 4 ≤ v4 ∧ v4 ≤ 4 := by omega
      refine w_t (np := 10) (l2 := [some (eR a0)]) (s2 := [eI (1), eR a0]) rfl rfl rfl ?_
      refine w_go (t1 := 14) rfl rfl ?_
      refine w_t (np := 15) (l2 := [some (eR a0)]) (s2 := [eR a0, eI (1), eR a0]) rfl (s_an rfl (pos_g hI gA0 (by decide))) rfl ?_
      refine j_gi (np := 18) rfl rfl rfl hI gA0 (by decide) (n := 11) rfl rfl (lo := 0) (hi := 900) rfl ?_
      intro v8 e9 b10
      refine w_cw (np := 21) (as := [eI (1), eI (v8)]) (l2 := [some (eR a0), some (eI (1)), some (eI (v8))]) (rest := []) rfl rfl rfl (Nat.ble_eq.mp rfl) rfl rfl rfl (hI.kd gA0 (by decide) (n := 11) rfl) rfl ?_
      refine w_t (np := 1) (l2 := [some (eR a0), some (eI (1)), some (eI (v8))]) (s2 := [eR a0]) rfl (s_an rfl (pos_g hI gA0 (by decide))) rfl ?_
      refine w_t (np := 2) (l2 := [some (eR a0), some (eI (1)), some (eI (v8))]) (s2 := [eI (1), eR a0]) rfl rfl rfl ?_
      refine j_pf (np := 5) (w := 1) rfl rfl hI gA0 (by decide) (n := 11) rfl rfl (hO_i (lo := -2147483648) (hi := 2147483647) rfl (by decide)) ?_
      intro m11 I12 W13
      have F14 : Fr l_61_12 0 0 g μ m11 := F0.w W13 gA0 rfl
      refine w_t (np := 6) (l2 := [some (eR a0), some (eI (1)), some (eI (v8))]) (s2 := [eR a0]) rfl (s_an rfl (pos_g I12 gA0 (by decide))) rfl ?_
      refine w_t (np := 7) (l2 := [some (eR a0), some (eI (1)), some (eI (v8))]) (s2 := [eI (v8), eR a0]) rfl rfl rfl ?_
      refine j_pf (np := 10) (w := v8) rfl rfl I12 gA0 (by decide) (n := 11) rfl rfl (hO_i (lo := -2147483648) (hi := 2147483647) rfl (by omega)) ?_
      intro m15 I16 W17
      have F18 : Fr l_61_12 0 0 g μ m15 := F14.w W17 gA0 rfl
      refine w_t (np := 11) (l2 := [some (eR a0), some (eI (1)), some (eI (v8))]) (s2 := [eI (0)]) rfl rfl rfl ?_
      refine b_rz rfl rfl (Or.inl rfl) ?_
      show ex_q (dt_fg L ρ) rc (d + 4, (62, 21, [some (eR a0)], [eI (0)]), (61, 12, [some (eR a0), some (eR 12), some (eI (1))], []) :: f :: F, m15)
      refine b_rz rfl rfl (Or.inl rfl) ?_
      show ex_q (dt_fg L ρ) rc (d + 5, (61, 12, [some (eR a0), some (eR 12), some (eI (1))], [eI (0)]), f :: F, m15)
      exact b_rz rfl rfl (Or.inl rfl) (K m15 (0) (se) I16 F18 (by decide) (W17.slot (W13.slot h_se (by decide)) (by decide)) (by omega))
