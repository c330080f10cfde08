def l_315 : List Nat := [13313, 13314, 13315, 13316, 13317, 13362, 13318, 21504, 21248, 20224]
theorem s_315 {L : Nat} {ρ : Nat → Int} {rc : eQ} {d : Nat} {f : eFr} {F : List eFr} {μ : eM} {g : Nat → Nat} {a0 : Nat} {a1 : Int} (hI : SI g μ) (gA0 : g a0 = 52) (bA1 : -2147483648 ≤ a1 ∧ a1 ≤ 2147483647) (h_LG : LG g μ) (K : ∀ (μ2 : eM) (v : Int), SI g μ2 → Fr l_315 0 0 g μ μ2 → (-2147483648 ≤ v ∧ v ≤ 2147483647) → ex_q (dt_fg L ρ) rc (d + 9, (f.1, f.2.1, f.2.2.1, eI v :: f.2.2.2), F, μ2)) : ex_q (dt_fg L ρ) rc (d + 8, (315, 0, [some (eR a0), some (eI (a1)), none, none, none, none], []), f :: F, μ) := by
  have F0 : Fr l_315 0 0 g μ μ := Fr.r
  refine w_t (np := 1) (l2 := [some (eR a0), some (eI (a1)), none, none, none, none]) (s2 := [eR a0]) rfl (s_an rfl (pos_g hI gA0 (by decide))) rfl ?_
  refine w_t (np := 2) (l2 := [some (eR a0), some (eI (a1)), none, none, none, none]) (s2 := [eR a0, eR a0]) rfl (s_an rfl (pos_g hI gA0 (by decide))) rfl ?_
  refine w_t (np := 3) (l2 := [some (eR a0), some (eI (a1)), none, none, none, none]) (s2 := [eI (a1), eR a0, eR a0]) rfl rfl rfl ?_
  refine w_cw (np := 6) (as := [eI (a1)]) (l2 := [some (eR a0), some (eI (a1))]) (rest := [eR a0]) rfl rfl rfl (Nat.ble_eq.mp rfl) rfl rfl rfl (hI.kd gA0 (by decide) (n := 69) rfl) rfl ?_
  refine w_t (np := 1) (l2 := [some (eR a0), some (eI (a1))]) (s2 := [eI (a1)]) rfl rfl rfl ?_
  refine w_t (np := 2) (l2 := [some (eR a0), some (eI (a1))]) (s2 := [eI (0), eI (a1)]) rfl rfl rfl ?_
  refine w_t (np := 3) (l2 := [some (eR a0), some (eI (a1))]) (s2 := [eR a0, eI (0), eI (a1)]) rfl (s_an rfl (pos_g hI gA0 (by decide))) rfl ?_
  refine j_gi (np := 6) rfl rfl rfl hI gA0 (by decide) (n := 69) rfl rfl (lo := 0) (hi := 890) rfl ?_
  intro v1 e2 b3
  refine w_t (np := 7) (l2 := [some (eR a0), some (eI (a1))]) (s2 := [eI (1), eI (v1), eI (0), eI (a1)]) rfl rfl rfl ?_
  obtain ⟨v4, e5⟩ : ∃ zz : Int, zz = (v1) - (1) := ⟨_, rfl⟩
  have b6 : -1 ≤ v4 ∧ v4 ≤ 889 := by omega
  refine w_t (np := 8) (l2 := [some (eR a0), some (eI (a1))]) (s2 := [eI (v4), eI (0), eI (a1)]) rfl (b_isub (by rw [← e5]; exact ev_w_in (by omega) (by omega))) rfl ?_
  refine w_cu (np := 11) (as := [eI (a1), eI (0), eI (v4)]) (l2 := [some (eI (a1)), some (eI (0)), some (eI (v4))]) (rest := []) rfl rfl rfl (Nat.ble_eq.mp rfl) rfl rfl rfl rfl ?_
  refine w_t (np := 1) (l2 := [some (eI (a1)), some (eI (0)), some (eI (v4))]) (s2 := [eI (a1)]) rfl rfl rfl ?_
  refine w_t (np := 2) (l2 := [some (eI (a1)), some (eI (0)), some (eI (v4))]) (s2 := [eI (0), eI (a1)]) rfl rfl rfl ?_
  refine b_clt (t1 := 14) (t2 := 5) rfl rfl rfl (ev_w_in (by omega) (by omega)) rfl (fun g7 => ?_) (fun g7 => ?_)
  · have b8 : -2147483648 ≤ a1 ∧ a1 ≤ -1 := by omega
    refine w_t (np := 15) (l2 := [some (eI (a1)), some (eI (0)), some (eI (v4))]) (s2 := [eI (0)]) rfl rfl rfl ?_
    refine b_rz rfl rfl (Or.inl rfl) ?_
    show ex_q (dt_fg L ρ) rc (d + 7, (243, 11, [some (eR a0), some (eI (a1))], [eI (0)]), (315, 6, [some (eR a0), some (eI (a1)), none, none, none, none], [eR a0]) :: f :: F, μ)
    refine b_rz rfl rfl (Or.inl rfl) ?_
    show ex_q (dt_fg L ρ) rc (d + 8, (315, 6, [some (eR a0), some (eI (a1)), none, none, none, none], [eI (0), eR a0]), f :: F, μ)
    refine b_ine (t1 := 13) (t2 := 9) rfl rfl rfl rfl (fun g8 => absurd g8 (by decide)) (fun g8 => ?_)
    refine w_t (np := 10) (l2 := [some (eR a0), some (eI (a1)), none, none, none, none]) (s2 := [eI (2), eR a0]) rfl rfl rfl ?_
    refine w_go (t1 := 40) rfl rfl ?_
    refine w_cw (np := 43) (as := [eI (2)]) (l2 := [some (eR a0), some (eI (2))]) (rest := []) rfl rfl rfl (Nat.ble_eq.mp rfl) rfl rfl rfl (hI.kd gA0 (by decide) (n := 69) rfl) rfl ?_
    refine w_t (np := 1) (l2 := [some (eR a0), some (eI (2))]) (s2 := [eR a0]) rfl (s_an rfl (pos_g hI gA0 (by decide))) rfl ?_
    refine w_t (np := 2) (l2 := [some (eR a0), some (eI (2))]) (s2 := [eI (0), eR a0]) rfl rfl rfl ?_
    refine j_pf (np := 5) (w := 0) rfl rfl hI gA0 (by decide) (n := 69) rfl rfl (hO_i (lo := -2147483648) (hi := 2147483647) rfl (by decide)) ?_
    intro m9 I10 W11
    have F12 : Fr l_315 0 0 g μ m9 := F0.w W11 gA0 rfl
    have p13 : LG g m9 := LG.fr h_LG (Fr.f W11 gA0) rfl
    refine w_t (np := 6) (l2 := [some (eR a0), some (eI (2))]) (s2 := [eR a0]) rfl (s_an rfl (pos_g I10 gA0 (by decide))) rfl ?_
    refine w_t (np := 7) (l2 := [some (eR a0), some (eI (2))]) (s2 := [eI (2), eR a0]) rfl rfl rfl ?_
    refine j_pf (np := 10) (w := 2) rfl rfl I10 gA0 (by decide) (n := 69) rfl rfl (hO_i (lo := -2147483648) (hi := 2147483647) rfl (by decide)) ?_
    intro m14 I15 W16
    have F17 : Fr l_315 0 0 g μ m14 := F12.w W16 gA0 rfl
    have p18 : LG g m14 := LG.fr p13 (Fr.f W16 gA0) rfl
    refine w_t (np := 11) (l2 := [some (eR a0), some (eI (2))]) (s2 := [eI (2)]) rfl rfl rfl ?_
    refine b_ine (t1 := 18) (t2 := 14) rfl rfl rfl rfl (fun g19 => ?_) (fun g19 => absurd g19 (by decide))
    refine w_t (np := 19) (l2 := [some (eR a0), some (eI (2))]) (s2 := [eI (0)]) rfl rfl rfl ?_
    refine b_rz rfl rfl (Or.inl rfl) ?_
    show ex_q (dt_fg L ρ) rc (d + 8, (315, 43, [some (eR a0), some (eI (a1)), none, none, none, none], [eI (0)]), f :: F, m14)
    refine b_ine (t1 := 48) (t2 := 46) rfl rfl rfl rfl (fun g20 => absurd g20 (by decide)) (fun g20 => ?_)
    refine w_t (np := 47) (l2 := [some (eR a0), some (eI (a1)), none, none, none, none]) (s2 := [eI (-1)]) rfl rfl rfl ?_
    exact b_ri rfl rfl (K m14 (-1) I15 F17 (by decide))
  · have b8 : 0 ≤ a1 ∧ a1 ≤ 2147483647 := by omega
    refine w_t (np := 6) (l2 := [some (eI (a1)), some (eI (0)), some (eI (v4))]) (s2 := [eI (a1)]) rfl rfl rfl ?_
    refine w_t (np := 7) (l2 := [some (eI (a1)), some (eI (0)), some (eI (v4))]) (s2 := [eI (v4), eI (a1)]) rfl rfl rfl ?_
    refine b_cgt (t1 := 14) (t2 := 10) rfl rfl rfl (ev_w_in (by omega) (by omega)) (ev_w_in (by omega) (by omega)) (fun g8 => ?_) (fun g8 => ?_)
    · refine w_t (np := 15) (l2 := [some (eI (a1)), some (eI (0)), some (eI (v4))]) (s2 := [eI (0)]) rfl rfl rfl ?_
      refine b_rz rfl rfl (Or.inl rfl) ?_
      show ex_q (dt_fg L ρ) rc (d + 7, (243, 11, [some (eR a0), some (eI (a1))], [eI (0)]), (315, 6, [some (eR a0), some (eI (a1)), none, none, none, none], [eR a0]) :: f :: F, μ)
      refine b_rz rfl rfl (Or.inl rfl) ?_
      show ex_q (dt_fg L ρ) rc (d + 8, (315, 6, [some (eR a0), some (eI (a1)), none, none, none, none], [eI (0), eR a0]), f :: F, μ)
      refine b_ine (t1 := 13) (t2 := 9) rfl rfl rfl rfl (fun g9 => absurd g9 (by decide)) (fun g9 => ?_)
      refine w_t (np := 10) (l2 := [some (eR a0), some (eI (a1)), none, none, none, none]) (s2 := [eI (2), eR a0]) rfl rfl rfl ?_
      refine w_go (t1 := 40) rfl rfl ?_
      refine w_cw (np := 43) (as := [eI (2)]) (l2 := [some (eR a0), some (eI (2))]) (rest := []) rfl rfl rfl (Nat.ble_eq.mp rfl) rfl rfl rfl (hI.kd gA0 (by decide) (n := 69) rfl) rfl ?_
      refine w_t (np := 1) (l2 := [some (eR a0), some (eI (2))]) (s2 := [eR a0]) rfl (s_an rfl (pos_g hI gA0 (by decide))) rfl ?_
      refine w_t (np := 2) (l2 := [some (eR a0), some (eI (2))]) (s2 := [eI (0), eR a0]) rfl rfl rfl ?_
      refine j_pf (np := 5) (w := 0) rfl rfl hI gA0 (by decide) (n := 69) rfl rfl (hO_i (lo := -2147483648) (hi := 2147483647) rfl (by decide)) ?_
      intro m10 I11 W12
      have F13 : Fr l_315 0 0 g μ m10 := F0.w W12 gA0 rfl
      have p14 : LG g m10 := LG.fr h_LG (Fr.f W12 gA0) rfl
      refine w_t (np := 6) (l2 := [some (eR a0), some (eI (2))]) (s2 := [eR a0]) rfl (s_an rfl (pos_g I11 gA0 (by decide))) rfl ?_
      refine w_t (np := 7) (l2 := [some (eR a0), some (eI (2))]) (s2 := [eI (2), eR a0]) rfl rfl rfl ?_
      refine j_pf (np := 10) (w := 2) rfl rfl I11 gA0 (by decide) (n := 69) rfl rfl (hO_i (lo := -2147483648) (hi := 2147483647) rfl (by decide)) ?_
      intro m15 I16 W17
      have F18 : Fr l_315 0 0 g μ m15 := F13.w W17 gA0 rfl
      have p19 : LG g m15 := LG.fr p14 (Fr.f W17 gA0) rfl
      refine w_t (np := 11) (l2 := [some (eR a0), some (eI (2))]) (s2 := [eI (2)]) rfl rfl rfl ?_
      refine b_ine (t1 := 18) (t2 := 14) rfl rfl rfl rfl (fun g20 => ?_) (fun g20 => absurd g20 (by decide))
      refine w_t (np := 19) (l2 := [some (eR a0), some (eI (2))]) (s2 := [eI (0)]) rfl rfl rfl ?_
      refine b_rz rfl rfl (Or.inl rfl) ?_
      show ex_q (dt_fg L ρ) rc (d + 8, (315, 43, [some (eR a0), some (eI (a1)), none, none, none, none], [eI (0)]), f :: F, m15)
      refine b_ine (t1 := 48) (t2 := 46) rfl rfl rfl rfl (fun g21 => absurd g21 (by decide)) (fun g21 => ?_)
      refine w_t (np := 47) (l2 := [some (eR a0), some (eI (a1)), none, none, none, none]) (s2 := [eI (-1)]) rfl rfl rfl ?_
      exact b_ri rfl rfl (K m15 (-1) I16 F18 (by decide))
    · have b9 : 0 ≤ a1 ∧ a1 ≤ 889 := by omega
      have b10 : 0 ≤ v4 ∧ v4 ≤ 889 := by omega
      refine w_t (np := 11) (l2 := [some (eI (a1)), some (eI (0)), some (eI (v4))]) (s2 := [eI (1)]) rfl rfl rfl ?_
      refine w_go (t1 := 15) rfl rfl ?_
      refine b_rz rfl rfl (Or.inr rfl) ?_
      show ex_q (dt_fg L ρ) rc (d + 7, (243, 11, [some (eR a0), some (eI (a1))], [eI (1)]), (315, 6, [some (eR a0), some (eI (a1)), none, none, none, none], [eR a0]) :: f :: F, μ)
      refine b_rz rfl rfl (Or.inr rfl) ?_
      show ex_q (dt_fg L ρ) rc (d + 8, (315, 6, [some (eR a0), some (eI (a1)), none, none, none, none], [eI (1), eR a0]), f :: F, μ)
      refine b_ine (t1 := 13) (t2 := 9) rfl rfl rfl rfl (fun g9 => ?_) (fun g9 => absurd g9 (by decide))
      refine w_t (np := 14) (l2 := [some (eR a0), some (eI (a1)), none, none, none, none]) (s2 := [eR a0, eR a0]) rfl (s_an rfl (pos_g hI gA0 (by decide))) rfl ?_
      refine j_gi (np := 17) rfl rfl rfl hI gA0 (by decide) (n := 69) rfl rfl (lo := 0) (hi := 24) rfl ?_
      intro v10 e11 b12
      refine w_t (np := 19) (l2 := [some (eR a0), some (eI (a1)), none, none, none, none]) (s2 := [eI (24), eI (v10), eR a0]) rfl rfl rfl ?_
      refine b_cne (t1 := 26) (t2 := 22) rfl rfl rfl (ev_w_in (by omega) (by omega)) rfl (fun g13 => ?_) (fun g13 => ?_)
      · have b14 : 0 ≤ v10 ∧ v10 ≤ 23 := by omega
        refine w_t (np := 27) (l2 := [some (eR a0), some (eI (a1)), none, none, none, none]) (s2 := [eR a0, eR a0]) rfl (s_an rfl (pos_g hI gA0 (by decide))) rfl ?_
        refine j_gr (np := 30) rfl rfl hI gA0 (by decide) (n := 69) rfl rfl rfl ?_
        intro v14 e15 b16 z17
        have b16 : g v14 = 67 := Nat.eq_of_beq_eq_true b16
        refine w_t (np := 31) (l2 := [some (eR a0), some (eI (a1)), none, none, none, none]) (s2 := [eI (a1), eR v14, eR a0]) rfl rfl rfl ?_
        refine j_al (np := 32) rfl rfl hI b16 (by decide) (n := 890) rfl rfl (lo := -1) (hi := 889) (fun _ => rfl) (by omega) (by omega) ?_
        intro v18 e19 b20
        refine b_ige (t1 := 39) (t2 := 35) rfl rfl rfl (ev_w_in (by omega) (by omega)) (fun g21 => ?_) (fun g21 => ?_)
        · have b22 : 0 ≤ v18 ∧ v18 ≤ 889 := by omega
          refine w_t (np := 40) (l2 := [some (eR a0), some (eI (a1)), none, none, none, none]) (s2 := [eI (0), eR a0]) rfl rfl rfl ?_
          refine w_cw (np := 43) (as := [eI (0)]) (l2 := [some (eR a0), some (eI (0))]) (rest := []) rfl rfl rfl (Nat.ble_eq.mp rfl) rfl rfl rfl (hI.kd gA0 (by decide) (n := 69) rfl) rfl ?_
          refine w_t (np := 1) (l2 := [some (eR a0), some (eI (0))]) (s2 := [eR a0]) rfl (s_an rfl (pos_g hI gA0 (by decide))) rfl ?_
          refine w_t (np := 2) (l2 := [some (eR a0), some (eI (0))]) (s2 := [eI (0), eR a0]) rfl rfl rfl ?_
          refine j_pf (np := 5) (w := 0) rfl rfl hI gA0 (by decide) (n := 69) rfl rfl (hO_i (lo := -2147483648) (hi := 2147483647) rfl (by decide)) ?_
          intro m22 I23 W24
          have F25 : Fr l_315 0 0 g μ m22 := F0.w W24 gA0 rfl
          have p26 : LG g m22 := LG.fr h_LG (Fr.f W24 gA0) rfl
          refine w_t (np := 6) (l2 := [some (eR a0), some (eI (0))]) (s2 := [eR a0]) rfl (s_an rfl (pos_g I23 gA0 (by decide))) rfl ?_
          refine w_t (np := 7) (l2 := [some (eR a0), some (eI (0))]) (s2 := [eI (0), eR a0]) rfl rfl rfl ?_
          refine j_pf (np := 10) (w := 0) rfl rfl I23 gA0 (by decide) (n := 69) rfl rfl (hO_i (lo := -2147483648) (hi := 2147483647) rfl (by decide)) ?_
          intro m27 I28 W29
          have F30 : Fr l_315 0 0 g μ m27 := F25.w W29 gA0 rfl
          have p31 : LG g m27 := LG.fr p26 (Fr.f W29 gA0) rfl
          refine w_t (np := 11) (l2 := [some (eR a0), some (eI (0))]) (s2 := [eI (0)]) rfl rfl rfl ?_
          refine b_ine (t1 := 18) (t2 := 14) rfl rfl rfl rfl (fun g32 => absurd g32 (by decide)) (fun g32 => ?_)
          refine w_t (np := 15) (l2 := [some (eR a0), some (eI (0))]) (s2 := [eI (1)]) rfl rfl rfl ?_
          refine w_go (t1 := 19) rfl rfl ?_
          refine b_rz rfl rfl (Or.inr rfl) ?_
          show ex_q (dt_fg L ρ) rc (d + 8, (315, 43, [some (eR a0), some (eI (a1)), none, none, none, none], [eI (1)]), f :: F, m27)
          refine b_ine (t1 := 48) (t2 := 46) rfl rfl rfl rfl (fun g33 => ?_) (fun g33 => absurd g33 (by decide))
          refine w_t (np := 49) (l2 := [some (eR a0), some (eI (a1)), none, none, none, none]) (s2 := [eR a0]) rfl (s_an rfl (pos_g I28 gA0 (by decide))) rfl ?_
          refine w_gf (np := 52) (v := eR v14) rfl rfl (I28.kd gA0 (by decide) (n := 69) rfl) (by rw [(W29.slot (W24.slot e15 (by decide)) (by decide))]; rfl) ?_
          refine w_t (np := 53) (l2 := [some (eR a0), some (eI (a1)), none, none, none, none]) (s2 := [eI (a1), eR v14]) rfl rfl rfl ?_
          refine j_al (np := 54) rfl rfl I28 b16 (by decide) (n := 890) rfl rfl (lo := -1) (hi := 889) (fun _ => rfl) (by omega) (by omega) ?_
          intro v34 e35 b36
          have e35 := e35.symm.trans (W29.addr (W24.addr e19 gA0 b16 (by decide)) gA0 b16 (by decide))
          rw [e35]
          refine w_t (np := 55) (l2 := [some (eR a0), some (eI (a1)), none, none, none, none]) (s2 := [eI (a1), eI (v18)]) rfl rfl rfl ?_
          refine b_cge (t1 := 67) (t2 := 58) rfl rfl rfl (ev_w_in (by omega) (by omega)) (ev_w_in (by omega) (by omega)) (fun g37 => ?_) (fun g37 => ?_)
          · refine w_t (np := 68) (l2 := [some (eR a0), some (eI (a1)), none, none, none, none]) (s2 := [eI (a1)]) rfl rfl rfl ?_
            refine w_t (np := 69) (l2 := [some (eR a0), some (eI (a1)), some (eI (a1)), none, none, none]) (s2 := []) rfl rfl rfl ?_
            refine w_t (np := 70) (l2 := [some (eR a0), some (eI (a1)), some (eI (a1)), none, none, none]) (s2 := [eR a0]) rfl (s_an rfl (pos_g I28 gA0 (by decide))) rfl ?_
            refine w_t (np := 71) (l2 := [some (eR a0), some (eI (a1)), some (eI (a1)), none, none, none]) (s2 := [eI (a1), eR a0]) rfl rfl rfl ?_
            refine w_t (np := 72) (l2 := [some (eR a0), some (eI (a1)), some (eI (a1)), none, none, none]) (s2 := [eI (0), eI (a1), eR a0]) rfl rfl rfl ?_
            refine w_cw (np := 75) (as := [eI (a1), eI (0)]) (l2 := [some (eR a0), some (eI (a1)), some (eI (0))]) (rest := []) rfl rfl rfl (Nat.ble_eq.mp rfl) rfl rfl rfl (I28.kd gA0 (by decide) (n := 69) rfl) rfl ?_
            refine w_t (np := 1) (l2 := [some (eR a0), some (eI (a1)), some (eI (0))]) (s2 := [eR a0]) rfl (s_an rfl (pos_g I28 gA0 (by decide))) rfl ?_
            refine j_gr (np := 4) rfl rfl I28 gA0 (by decide) (n := 69) rfl rfl rfl ?_
            intro v38 e39 b40 z41
            have b40 : g v38 = 64 := Nat.eq_of_beq_eq_true b40
            refine w_t (np := 5) (l2 := [some (eR a0), some (eI (a1)), some (eI (0))]) (s2 := [eI (3), eR v38]) rfl rfl rfl ?_
            refine w_t (np := 6) (l2 := [some (eR a0), some (eI (a1)), some (eI (0))]) (s2 := [eI (a1), eI (3), eR v38]) rfl rfl rfl ?_
            obtain ⟨v42, e43⟩ : ∃ zz : Int, zz = (3) * (a1) := ⟨_, rfl⟩
            have b44 : 0 ≤ v42 ∧ v42 ≤ 2667 := by omega
            refine w_t (np := 7) (l2 := [some (eR a0), some (eI (a1)), some (eI (0))]) (s2 := [eI (v42), eR v38]) rfl (b_imul (by rw [← e43]; exact ev_w_in (by omega) (by omega))) rfl ?_
            refine w_t (np := 8) (l2 := [some (eR a0), some (eI (a1)), some (eI (0))]) (s2 := [eI (0), eI (v42), eR v38]) rfl rfl rfl ?_
            refine w_t (np := 9) (l2 := [some (eR a0), some (eI (a1)), some (eI (0))]) (s2 := [eI (v42), eR v38]) rfl (b_iadd (by rw [Int.add_zero]; exact ev_w_in (by omega) (by omega))) rfl ?_
            refine j_al (np := 10) rfl rfl I28 b40 (by decide) (n := 2670) rfl rfl (lo := 0) (hi := 2669) (fun _ => rfl) (by omega) (by omega) ?_
            intro v45 e46 b47
            refine b_ri rfl rfl ?_
            show ex_q (dt_fg L ρ) rc (d + 8, (315, 75, [some (eR a0), some (eI (a1)), some (eI (a1)), none, none, none], [eI (v45)]), f :: F, m27)
            refine w_t (np := 76) (l2 := [some (eR a0), some (eI (a1)), some (eI (a1)), some (eI (v45)), none, none]) (s2 := []) rfl rfl rfl ?_
            refine w_t (np := 77) (l2 := [some (eR a0), some (eI (a1)), some (eI (a1)), some (eI (v45)), none, none]) (s2 := [eR a0]) rfl (s_an rfl (pos_g I28 gA0 (by decide))) rfl ?_
            refine w_t (np := 78) (l2 := [some (eR a0), some (eI (a1)), some (eI (a1)), some (eI (v45)), none, none]) (s2 := [eI (v45), eR a0]) rfl rfl rfl ?_
            refine w_t (np := 79) (l2 := [some (eR a0), some (eI (a1)), some (eI (a1)), some (eI (v45)), none, none]) (s2 := [eR a0, eI (v45), eR a0]) rfl (s_an rfl (pos_g I28 gA0 (by decide))) rfl ?_
            refine w_t (np := 80) (l2 := [some (eR a0), some (eI (a1)), some (eI (a1)), some (eI (v45)), none, none]) (s2 := [eI (a1), eR a0, eI (v45), eR a0]) rfl rfl rfl ?_
            refine w_t (np := 81) (l2 := [some (eR a0), some (eI (a1)), some (eI (a1)), some (eI (v45)), none, none]) (s2 := [eI (1), eI (a1), eR a0, eI (v45), eR a0]) rfl rfl rfl ?_
            refine w_cw (np := 84) (as := [eI (a1), eI (1)]) (l2 := [some (eR a0), some (eI (a1)), some (eI (1))]) (rest := [eI (v45), eR a0]) rfl rfl rfl (Nat.ble_eq.mp rfl) rfl rfl rfl (I28.kd gA0 (by decide) (n := 69) rfl) rfl ?_
            refine w_t (np := 1) (l2 := [some (eR a0), some (eI (a1)), some (eI (1))]) (s2 := [eR a0]) rfl (s_an rfl (pos_g I28 gA0 (by decide))) rfl ?_
            refine w_gf (np := 4) (v := eR v38) rfl rfl (I28.kd gA0 (by decide) (n := 69) rfl) (by rw [e39]; rfl) ?_
            refine w_t (np := 5) (l2 := [some (eR a0), some (eI (a1)), some (eI (1))]) (s2 := [eI (3), eR v38]) rfl rfl rfl ?_
            refine w_t (np := 6) (l2 := [some (eR a0), some (eI (a1)), some (eI (1))]) (s2 := [eI (a1), eI (3), eR v38]) rfl rfl rfl ?_
            obtain ⟨v48, e49⟩ : ∃ zz : Int, zz = (3) * (a1) := ⟨_, rfl⟩
            have b50 : 0 ≤ v48 ∧ v48 ≤ 2667 := by omega
            refine w_t (np := 7) (l2 := [some (eR a0), some (eI (a1)), some (eI (1))]) (s2 := [eI (v48), eR v38]) rfl (b_imul (by rw [← e49]; exact ev_w_in (by omega) (by omega))) rfl ?_
            refine w_t (np := 8) (l2 := [some (eR a0), some (eI (a1)), some (eI (1))]) (s2 := [eI (1), eI (v48), eR v38]) rfl rfl rfl ?_
            obtain ⟨v51, e52⟩ : ∃ zz : Int, zz = (v48) + (1) := ⟨_, rfl⟩
            have b53 : 1 ≤ v51 ∧ v51 ≤ 2668 := by omega
            refine w_t (np := 9) (l2 := [some (eR a0), some (eI (a1)), some (eI (1))]) (s2 := [eI (v51), eR v38]) rfl (b_iadd (by rw [← e52]; exact ev_w_in (by omega) (by omega))) rfl ?_
            refine j_al (np := 10) rfl rfl I28 b40 (by decide) (n := 2670) rfl rfl (lo := 0) (hi := 2669) (fun _ => rfl) (by omega) (by omega) ?_
            intro v54 e55 b56
            refine b_ri rfl rfl ?_
            show ex_q (dt_fg L ρ) rc (d + 8, (315, 84, [some (eR a0), some (eI (a1)), some (eI (a1)), some (eI (v45)), none, none], [eI (v54), eI (v45), eR a0]), f :: F, m27)
            obtain ⟨D57, h58⟩ := LG.d (i := a1) (c := (v51) - 3 * (a1)) (v0 := v42) (v1 := v51) I28 p31 gA0 b40 (W29.slot (W24.slot e2 (by decide)) (by decide)) (by omega) (by omega) e46 (by omega) (by omega) e55
            refine w_cw (np := 87) (as := [eI (v45), eI (v54)]) (l2 := [some (eR a0), some (eI (v45)), some (eI (v54)), none]) (rest := []) rfl rfl rfl (Nat.ble_eq.mp rfl) rfl rfl rfl (I28.kd gA0 (by decide) (n := 69) rfl) rfl ?_
            refine s_249 (a1 := v45) (a2 := v54) I28 gA0 (by omega) (by omega) h58 ?_
            intro v59 b60
            show ex_q (dt_fg L ρ) rc (d + 8, (315, 87, [some (eR a0), some (eI (a1)), some (eI (a1)), some (eI (v45)), none, none], [eI (v59)]), f :: F, m27)
            refine w_t (np := 89) (l2 := [some (eR a0), some (eI (a1)), some (eI (a1)), some (eI (v45)), some (eI (v59)), none]) (s2 := []) rfl rfl rfl ?_
            refine w_t (np := 90) (l2 := [some (eR a0), some (eI (a1)), some (eI (a1)), some (eI (v45)), some (eI (v59)), none]) (s2 := [eR a0]) rfl (s_an rfl (pos_g I28 gA0 (by decide))) rfl ?_
            refine w_t (np := 91) (l2 := [some (eR a0), some (eI (a1)), some (eI (a1)), some (eI (v45)), some (eI (v59)), none]) (s2 := [eI (v45), eR a0]) rfl rfl rfl ?_
            refine w_t (np := 92) (l2 := [some (eR a0), some (eI (a1)), some (eI (a1)), some (eI (v45)), some (eI (v59)), none]) (s2 := [eR a0, eI (v45), eR a0]) rfl (s_an rfl (pos_g I28 gA0 (by decide))) rfl ?_
            refine w_t (np := 93) (l2 := [some (eR a0), some (eI (a1)), some (eI (a1)), some (eI (v45)), some (eI (v59)), none]) (s2 := [eI (a1), eR a0, eI (v45), eR a0]) rfl rfl rfl ?_
            refine w_t (np := 94) (l2 := [some (eR a0), some (eI (a1)), some (eI (a1)), some (eI (v45)), some (eI (v59)), none]) (s2 := [eI (2), eI (a1), eR a0, eI (v45), eR a0]) rfl rfl rfl ?_
            refine w_cw (np := 97) (as := [eI (a1), eI (2)]) (l2 := [some (eR a0), some (eI (a1)), some (eI (2))]) (rest := [eI (v45), eR a0]) rfl rfl rfl (Nat.ble_eq.mp rfl) rfl rfl rfl (I28.kd gA0 (by decide) (n := 69) rfl) rfl ?_
            refine w_t (np := 1) (l2 := [some (eR a0), some (eI (a1)), some (eI (2))]) (s2 := [eR a0]) rfl (s_an rfl (pos_g I28 gA0 (by decide))) rfl ?_
            refine w_gf (np := 4) (v := eR v38) rfl rfl (I28.kd gA0 (by decide) (n := 69) rfl) (by rw [e39]; rfl) ?_
            refine w_t (np := 5) (l2 := [some (eR a0), some (eI (a1)), some (eI (2))]) (s2 := [eI (3), eR v38]) rfl rfl rfl ?_
            refine w_t (np := 6) (l2 := [some (eR a0), some (eI (a1)), some (eI (2))]) (s2 := [eI (a1), eI (3), eR v38]) rfl rfl rfl ?_
            obtain ⟨v61, e62⟩ : ∃ zz : Int, zz = (3) * (a1) := ⟨_, rfl⟩
            have b63 : 0 ≤ v61 ∧ v61 ≤ 2667 := by omega
            refine w_t (np := 7) (l2 := [some (eR a0), some (eI (a1)), some (eI (2))]) (s2 := [eI (v61), eR v38]) rfl (b_imul (by rw [← e62]; exact ev_w_in (by omega) (by omega))) rfl ?_
            refine w_t (np := 8) (l2 := [some (eR a0), some (eI (a1)), some (eI (2))]) (s2 := [eI (2), eI (v61), eR v38]) rfl rfl rfl ?_
            obtain ⟨v64, e65⟩ : ∃ zz : Int, zz = (v61) + (2) := ⟨_, rfl⟩
            have b66 : 2 ≤ v64 ∧ v64 ≤ 2669 := by omega
            refine w_t (np := 9) (l2 := [some (eR a0), some (eI (a1)), some (eI (2))]) (s2 := [eI (v64), eR v38]) rfl (b_iadd (by rw [← e65]; exact ev_w_in (by omega) (by omega))) rfl ?_
            refine j_al (np := 10) rfl rfl I28 b40 (by decide) (n := 2670) rfl rfl (lo := 0) (hi := 2669) (fun _ => rfl) (by omega) (by omega) ?_
            intro v67 e68 b69
            refine b_ri rfl rfl ?_
            show ex_q (dt_fg L ρ) rc (d + 8, (315, 97, [some (eR a0), some (eI (a1)), some (eI (a1)), some (eI (v45)), some (eI (v59)), none], [eI (v67), eI (v45), eR a0]), f :: F, m27)
            obtain ⟨D70, h71⟩ := LG.d (i := a1) (c := (v64) - 3 * (a1)) (v0 := v42) (v1 := v64) I28 p31 gA0 b40 (W29.slot (W24.slot e2 (by decide)) (by decide)) (by omega) (by omega) e46 (by omega) (by omega) e68
            refine w_cw (np := 100) (as := [eI (v45), eI (v67)]) (l2 := [some (eR a0), some (eI (v45)), some (eI (v67)), none]) (rest := []) rfl rfl rfl (Nat.ble_eq.mp rfl) rfl rfl rfl (I28.kd gA0 (by decide) (n := 69) rfl) rfl ?_
            refine s_249 (a1 := v45) (a2 := v67) I28 gA0 (by omega) (by omega) h71 ?_
            intro v72 b73
            show ex_q (dt_fg L ρ) rc (d + 8, (315, 100, [some (eR a0), some (eI (a1)), some (eI (a1)), some (eI (v45)), some (eI (v59)), none], [eI (v72)]), f :: F, m27)
            refine w_t (np := 102) (l2 := [some (eR a0), some (eI (a1)), some (eI (a1)), some (eI (v45)), some (eI (v59)), some (eI (v72))]) (s2 := []) rfl rfl rfl ?_
            refine w_t (np := 103) (l2 := [some (eR a0), some (eI (a1)), some (eI (a1)), some (eI (v45)), some (eI (v59)), some (eI (v72))]) (s2 := [eR a0]) rfl (s_an rfl (pos_g I28 gA0 (by decide))) rfl ?_
            refine w_t (np := 104) (l2 := [some (eR a0), some (eI (a1)), some (eI (a1)), some (eI (v45)), some (eI (v59)), some (eI (v72))]) (s2 := [eR a0, eR a0]) rfl (s_an rfl (pos_g I28 gA0 (by decide))) rfl ?_
            refine j_gr (np := 107) rfl rfl I28 gA0 (by decide) (n := 69) rfl rfl rfl ?_
            intro v74 e75 b76 z77
            have b76 : g v74 = 56 := Nat.eq_of_beq_eq_true b76
            refine w_t (np := 108) (l2 := [some (eR a0), some (eI (a1)), some (eI (a1)), some (eI (v45)), some (eI (v59)), some (eI (v72))]) (s2 := [eI (a1), eR v74, eR a0]) rfl rfl rfl ?_
            refine j_al (np := 109) rfl rfl I28 b76 (by decide) (n := 890) rfl rfl (lo := 0) (hi := 1) (fun _ => rfl) (by omega) (by omega) ?_
            intro v78 e79 b80
            refine w_t (np := 110) (l2 := [some (eR a0), some (eI (a1)), some (eI (a1)), some (eI (v45)), some (eI (v59)), some (eI (v72))]) (s2 := [eR a0, eI (v78), eR a0]) rfl (s_an rfl (pos_g I28 gA0 (by decide))) rfl ?_
            refine j_gr (np := 113) rfl rfl I28 gA0 (by decide) (n := 69) rfl rfl rfl ?_
            intro v81 e82 b83 z84
            have b83 : g v81 = 65 := Nat.eq_of_beq_eq_true b83
            refine w_t (np := 114) (l2 := [some (eR a0), some (eI (a1)), some (eI (a1)), some (eI (v45)), some (eI (v59)), some (eI (v72))]) (s2 := [eI (4), eR v81, eI (v78), eR a0]) rfl rfl rfl ?_
            refine w_t (np := 115) (l2 := [some (eR a0), some (eI (a1)), some (eI (a1)), some (eI (v45)), some (eI (v59)), some (eI (v72))]) (s2 := [eI (v45), eI (4), eR v81, eI (v78), eR a0]) rfl rfl rfl ?_
            obtain ⟨v85, e86⟩ : ∃ zz : Int, zz = (4) * (v45) := ⟨_, rfl⟩
            have b87 : 0 ≤ v85 ∧ v85 ≤ 10676 := by omega
            refine w_t (np := 116) (l2 := [some (eR a0), some (eI (a1)), some (eI (a1)), some (eI (v45)), some (eI (v59)), some (eI (v72))]) (s2 := [eI (v85), eR v81, eI (v78), eR a0]) rfl (b_imul (by rw [← e86]; exact ev_w_in (by omega) (by omega))) rfl ?_
            refine j_al (np := 117) rfl rfl I28 b83 (by decide) (n := 10680) rfl rfl (lo := -2147483648) (hi := 2147483647) (fun _ => rfl) (by omega) (by omega) ?_
            intro v88 e89 b90
            refine w_t (np := 118) (l2 := [some (eR a0), some (eI (a1)), some (eI (a1)), some (eI (v45)), some (eI (v59)), some (eI (v72))]) (s2 := [eR a0, eI (v88), eI (v78), eR a0]) rfl (s_an rfl (pos_g I28 gA0 (by decide))) rfl ?_
            refine w_gf (np := 121) (v := eR v81) rfl rfl (I28.kd gA0 (by decide) (n := 69) rfl) (by rw [e82]; rfl) ?_
            refine w_t (np := 122) (l2 := [some (eR a0), some (eI (a1)), some (eI (a1)), some (eI (v45)), some (eI (v59)), some (eI (v72))]) (s2 := [eI (4), eR v81, eI (v88), eI (v78), eR a0]) rfl rfl rfl ?_
            refine w_t (np := 123) (l2 := [some (eR a0), some (eI (a1)), some (eI (a1)), some (eI (v45)), some (eI (v59)), some (eI (v72))]) (s2 := [eI (v45), eI (4), eR v81, eI (v88), eI (v78), eR a0]) rfl rfl rfl ?_
            obtain ⟨v91, e92⟩ : ∃ zz : Int, zz = (4) * (v45) := ⟨_, rfl⟩
            have b93 : 0 ≤ v91 ∧ v91 ≤ 10676 := by omega
            refine w_t (np := 124) (l2 := [some (eR a0), some (eI (a1)), some (eI (a1)), some (eI (v45)), some (eI (v59)), some (eI (v72))]) (s2 := [eI (v91), eR v81, eI (v88), eI (v78), eR a0]) rfl (b_imul (by rw [← e92]; exact ev_w_in (by omega) (by omega))) rfl ?_
            refine w_t (np := 125) (l2 := [some (eR a0), some (eI (a1)), some (eI (a1)), some (eI (v45)), some (eI (v59)), some (eI (v72))]) (s2 := [eI (1), eI (v91), eR v81, eI (v88), eI (v78), eR a0]) rfl rfl rfl ?_
            obtain ⟨v94, e95⟩ : ∃ zz : Int, zz = (v91) + (1) := ⟨_, rfl⟩
            have b96 : 1 ≤ v94 ∧ v94 ≤ 10677 := by omega
            refine w_t (np := 126) (l2 := [some (eR a0), some (eI (a1)), some (eI (a1)), some (eI (v45)), some (eI (v59)), some (eI (v72))]) (s2 := [eI (v94), eR v81, eI (v88), eI (v78), eR a0]) rfl (b_iadd (by rw [← e95]; exact ev_w_in (by omega) (by omega))) rfl ?_
            refine j_al (np := 127) rfl rfl I28 b83 (by decide) (n := 10680) rfl rfl (lo := -2147483648) (hi := 2147483647) (fun _ => rfl) (by omega) (by omega) ?_
            intro v97 e98 b99
            refine w_t (np := 128) (l2 := [some (eR a0), some (eI (a1)), some (eI (a1)), some (eI (v45)), some (eI (v59)), some (eI (v72))]) (s2 := [eR a0, eI (v97), eI (v88), eI (v78), eR a0]) rfl (s_an rfl (pos_g I28 gA0 (by decide))) rfl ?_
            refine w_gf (np := 131) (v := eR v81) rfl rfl (I28.kd gA0 (by decide) (n := 69) rfl) (by rw [e82]; rfl) ?_
            refine w_t (np := 132) (l2 := [some (eR a0), some (eI (a1)), some (eI (a1)), some (eI (v45)), some (eI (v59)), some (eI (v72))]) (s2 := [eI (4), eR v81, eI (v97), eI (v88), eI (v78), eR a0]) rfl rfl rfl ?_
            refine w_t (np := 133) (l2 := [some (eR a0), some (eI (a1)), some (eI (a1)), some (eI (v45)), some (eI (v59)), some (eI (v72))]) (s2 := [eI (v45), eI (4), eR v81, eI (v97), eI (v88), eI (v78), eR a0]) rfl rfl rfl ?_
            obtain ⟨v100, e101⟩ : ∃ zz : Int, zz = (4) * (v45) := ⟨_, rfl⟩
            have b102 : 0 ≤ v100 ∧ v100 ≤ 10676 := by omega
            refine w_t (np := 134) (l2 := [some (eR a0), some (eI (a1)), some (eI (a1)), some (eI (v45)), some (eI (v59)), some (eI (v72))]) (s2 := [eI (v100), eR v81, eI (v97), eI (v88), eI (v78), eR a0]) rfl (b_imul (by rw [← e101]; exact ev_w_in (by omega) (by omega))) rfl ?_
            refine w_t (np := 135) (l2 := [some (eR a0), some (eI (a1)), some (eI (a1)), some (eI (v45)), some (eI (v59)), some (eI (v72))]) (s2 := [eI (2), eI (v100), eR v81, eI (v97), eI (v88), eI (v78), eR a0]) rfl rfl rfl ?_
            obtain ⟨v103, e104⟩ : ∃ zz : Int, zz = (v100) + (2) := ⟨_, rfl⟩
            have b105 : 2 ≤ v103 ∧ v103 ≤ 10678 := by omega
            refine w_t (np := 136) (l2 := [some (eR a0), some (eI (a1)), some (eI (a1)), some (eI (v45)), some (eI (v59)), some (eI (v72))]) (s2 := [eI (v103), eR v81, eI (v97), eI (v88), eI (v78), eR a0]) rfl (b_iadd (by rw [← e104]; exact ev_w_in (by omega) (by omega))) rfl ?_
            refine j_al (np := 137) rfl rfl I28 b83 (by decide) (n := 10680) rfl rfl (lo := -2147483648) (hi := 2147483647) (fun _ => rfl) (by omega) (by omega) ?_
            intro v106 e107 b108
            refine w_t (np := 138) (l2 := [some (eR a0), some (eI (a1)), some (eI (a1)), some (eI (v45)), some (eI (v59)), some (eI (v72))]) (s2 := [eR a0, eI (v106), eI (v97), eI (v88), eI (v78), eR a0]) rfl (s_an rfl (pos_g I28 gA0 (by decide))) rfl ?_
            refine w_gf (np := 141) (v := eR v81) rfl rfl (I28.kd gA0 (by decide) (n := 69) rfl) (by rw [e82]; rfl) ?_
            refine w_t (np := 142) (l2 := [some (eR a0), some (eI (a1)), some (eI (a1)), some (eI (v45)), some (eI (v59)), some (eI (v72))]) (s2 := [eI (4), eR v81, eI (v106), eI (v97), eI (v88), eI (v78), eR a0]) rfl rfl rfl ?_
            refine w_t (np := 143) (l2 := [some (eR a0), some (eI (a1)), some (eI (a1)), some (eI (v45)), some (eI (v59)), some (eI (v72))]) (s2 := [eI (v45), eI (4), eR v81, eI (v106), eI (v97), eI (v88), eI (v78), eR a0]) rfl rfl rfl ?_
            obtain ⟨v109, e110⟩ : ∃ zz : Int, zz = (4) * (v45) := ⟨_, rfl⟩
            have b111 : 0 ≤ v109 ∧ v109 ≤ 10676 := by omega
            refine w_t (np := 144) (l2 := [some (eR a0), some (eI (a1)), some (eI (a1)), some (eI (v45)), some (eI (v59)), some (eI (v72))]) (s2 := [eI (v109), eR v81, eI (v106), eI (v97), eI (v88), eI (v78), eR a0]) rfl (b_imul (by rw [← e110]; exact ev_w_in (by omega) (by omega))) rfl ?_
            refine w_t (np := 145) (l2 := [some (eR a0), some (eI (a1)), some (eI (a1)), some (eI (v45)), some (eI (v59)), some (eI (v72))]) (s2 := [eI (3), eI (v109), eR v81, eI (v106), eI (v97), eI (v88), eI (v78), eR a0]) rfl rfl rfl ?_
            obtain ⟨v112, e113⟩ : ∃ zz : Int, zz = (v109) + (3) := ⟨_, rfl⟩
            have b114 : 3 ≤ v112 ∧ v112 ≤ 10679 := by omega
            refine w_t (np := 146) (l2 := [some (eR a0), some (eI (a1)), some (eI (a1)), some (eI (v45)), some (eI (v59)), some (eI (v72))]) (s2 := [eI (v112), eR v81, eI (v106), eI (v97), eI (v88), eI (v78), eR a0]) rfl (b_iadd (by rw [← e113]; exact ev_w_in (by omega) (by omega))) rfl ?_
            refine j_al (np := 147) rfl rfl I28 b83 (by decide) (n := 10680) rfl rfl (lo := -2147483648) (hi := 2147483647) (fun _ => rfl) (by omega) (by omega) ?_
            intro v115 e116 b117
            refine w_t (np := 149) (l2 := [some (eR a0), some (eI (a1)), some (eI (a1)), some (eI (v45)), some (eI (v59)), some (eI (v72))]) (s2 := [eI (v59), eI (v115), eI (v106), eI (v97), eI (v88), eI (v78), eR a0]) rfl rfl rfl ?_
            refine w_t (np := 151) (l2 := [some (eR a0), some (eI (a1)), some (eI (a1)), some (eI (v45)), some (eI (v59)), some (eI (v72))]) (s2 := [eI (v72), eI (v59), eI (v115), eI (v106), eI (v97), eI (v88), eI (v78), eR a0]) rfl rfl rfl ?_
            refine w_t (np := 153) (l2 := [some (eR a0), some (eI (a1)), some (eI (a1)), some (eI (v45)), some (eI (v59)), some (eI (v72))]) (s2 := [eI (v59), eI (v72), eI (v59), eI (v115), eI (v106), eI (v97), eI (v88), eI (v78), eR a0]) rfl rfl rfl ?_
            obtain ⟨v118, e119⟩ : ∃ zz : Int, zz = (v72) - (v59) := ⟨_, rfl⟩
            have b120 : -9 ≤ v118 ∧ v118 ≤ 9 := by omega
            refine w_t (np := 154) (l2 := [some (eR a0), some (eI (a1)), some (eI (a1)), some (eI (v45)), some (eI (v59)), some (eI (v72))]) (s2 := [eI (v118), eI (v59), eI (v115), eI (v106), eI (v97), eI (v88), eI (v78), eR a0]) rfl (b_isub (by rw [← e119]; exact ev_w_in (by omega) (by omega))) rfl ?_
            refine w_cu (np := 157) (as := [eI (v118)]) (l2 := [some (eI (v118))]) (rest := [eI (v59), eI (v115), eI (v106), eI (v97), eI (v88), eI (v78), eR a0]) rfl rfl rfl (Nat.ble_eq.mp rfl) rfl rfl rfl rfl ?_
            refine s_217e (a0 := v118) I28 (by omega) ?_
            intro v121 b122 h123
            show ex_q (dt_fg L ρ) rc (d + 8, (315, 157, [some (eR a0), some (eI (a1)), some (eI (a1)), some (eI (v45)), some (eI (v59)), some (eI (v72))], [eI (v121), eI (v59), eI (v115), eI (v106), eI (v97), eI (v88), eI (v78), eR a0]), f :: F, m27)
            refine w_t (np := 158) (l2 := [some (eR a0), some (eI (a1)), some (eI (a1)), some (eI (v45)), some (eI (v59)), some (eI (v72))]) (s2 := [eR a0, eI (v121), eI (v59), eI (v115), eI (v106), eI (v97), eI (v88), eI (v78), eR a0]) rfl (s_an rfl (pos_g I28 gA0 (by decide))) rfl ?_
            refine w_gf (np := 161) (v := eR v74) rfl rfl (I28.kd gA0 (by decide) (n := 69) rfl) (by rw [e75]; rfl) ?_
            refine w_t (np := 162) (l2 := [some (eR a0), some (eI (a1)), some (eI (a1)), some (eI (v45)), some (eI (v59)), some (eI (v72))]) (s2 := [eI (a1), eR v74, eI (v121), eI (v59), eI (v115), eI (v106), eI (v97), eI (v88), eI (v78), eR a0]) rfl rfl rfl ?_
            refine j_al (np := 163) rfl rfl I28 b76 (by decide) (n := 890) rfl rfl (lo := 0) (hi := 1) (fun _ => rfl) (by omega) (by omega) ?_
            intro v124 e125 b126
            have e125 := e125.symm.trans e79
            rw [e125]
            refine w_cu (np := 166) (as := [eI (v78)]) (l2 := [some (eI (v78))]) (rest := [eI (v121), eI (v59), eI (v115), eI (v106), eI (v97), eI (v88), eI (v78), eR a0]) rfl rfl rfl (Nat.ble_eq.mp rfl) rfl rfl rfl rfl ?_
            refine w_t (np := 1) (l2 := [some (eI (v78))]) (s2 := [eI (v78)]) rfl rfl rfl ?_
            refine b_ine (t1 := 8) (t2 := 4) rfl rfl rfl (ev_w_in (by omega) (by omega)) (fun g127 => ?_) (fun g127 => ?_)
            · have b128 : 1 ≤ v78 ∧ v78 ≤ 1 := by omega
              refine w_t (np := 9) (l2 := [some (eI (v78))]) (s2 := [eI (3)]) rfl rfl rfl ?_
              refine b_ri rfl rfl ?_
              show ex_q (dt_fg L ρ) rc (d + 8, (315, 166, [some (eR a0), some (eI (a1)), some (eI (a1)), some (eI (v45)), some (eI (v59)), some (eI (v72))], [eI (3), eI (v121), eI (v59), eI (v115), eI (v106), eI (v97), eI (v88), eI (v78), eR a0]), f :: F, m27)
              refine b_cne (t1 := 173) (t2 := 169) rfl rfl rfl (ev_w_in (by omega) (by omega)) rfl (fun g128 => ?_) (fun g128 => ?_)
              · refine w_t (np := 174) (l2 := [some (eR a0), some (eI (a1)), some (eI (a1)), some (eI (v45)), some (eI (v59)), some (eI (v72))]) (s2 := [eI (1), eI (v59), eI (v115), eI (v106), eI (v97), eI (v88), eI (v78), eR a0]) rfl rfl rfl ?_
                refine w_cw (np := 177) (as := [eI (v78), eI (v88), eI (v97), eI (v106), eI (v115), eI (v59), eI (1)]) (l2 := [some (eR a0), some (eI (v78)), some (eI (v88)), some (eI (v97)), some (eI (v106)), some (eI (v115)), some (eI (v59)), some (eI (1)), none]) (rest := []) rfl rfl rfl (Nat.ble_eq.mp rfl) rfl rfl rfl (I28.kd gA0 (by decide) (n := 69) rfl) rfl ?_
                refine s_312 (a1 := v78) (a2 := v88) (a3 := v97) (a4 := v106) (a5 := v115) (a6 := v59) (a7 := 1) I28 gA0 (by omega) (by omega) (by omega) (by omega) (by omega) (by omega) (by decide) (W29.slot (W24.slot e11 (by decide)) (by decide)) (by omega) ?_
                intro m129 v132 I130 F131 e133 h134
                have F135 : Fr l_315 0 0 g μ m129 := F30.t F131 rfl
                have p136 : LG g m129 := LG.fr p31 F131 rfl
                have b137 : 0 ≤ v132 ∧ v132 ≤ 24 := by
                  rw [← e133]
                  exact I130.int gA0 (by decide) (n := 69) rfl (by decide) rfl
                show ex_q (dt_fg L ρ) rc (d + 8, (315, 177, [some (eR a0), some (eI (a1)), some (eI (a1)), some (eI (v45)), some (eI (v59)), some (eI (v72))], []), f :: F, m129)
                refine w_t (np := 178) (l2 := [some (eR a0), some (eI (a1)), some (eI (a1)), some (eI (v45)), some (eI (v59)), some (eI (v72))]) (s2 := [eR a0]) rfl (s_an rfl (pos_g I130 gA0 (by decide))) rfl ?_
                refine w_cw (np := 181) (as := []) (l2 := [some (eR a0), none]) (rest := []) rfl rfl rfl (Nat.ble_eq.mp rfl) rfl rfl rfl (I130.kd gA0 (by decide) (n := 69) rfl) rfl ?_
                refine s_313 I130 gA0 e133 (by omega) ?_
                intro m138 v141 v143 I139 F140 b142 e144
                have F145 : Fr l_315 0 0 g μ m138 := F135.t F140 rfl
                have p146 : LG g m138 := LG.fr p136 F140 rfl
                have b147 : 0 ≤ v143 ∧ v143 ≤ 24 := by
                  rw [← e144]
                  exact I139.int gA0 (by decide) (n := 69) rfl (by decide) rfl
                show ex_q (dt_fg L ρ) rc (d + 8, (315, 181, [some (eR a0), some (eI (a1)), some (eI (a1)), some (eI (v45)), some (eI (v59)), some (eI (v72))], [eI (v141)]), f :: F, m138)
                exact b_ri rfl rfl (K m138 (v141) I139 F145 (by omega))
              · have b129 : 3 ≤ v121 ∧ v121 ≤ 3 := by omega
                refine w_t (np := 170) (l2 := [some (eR a0), some (eI (a1)), some (eI (a1)), some (eI (v45)), some (eI (v59)), some (eI (v72))]) (s2 := [eI (0), eI (v59), eI (v115), eI (v106), eI (v97), eI (v88), eI (v78), eR a0]) rfl rfl rfl ?_
                refine w_go (t1 := 174) rfl rfl ?_
                refine w_cw (np := 177) (as := [eI (v78), eI (v88), eI (v97), eI (v106), eI (v115), eI (v59), eI (0)]) (l2 := [some (eR a0), some (eI (v78)), some (eI (v88)), some (eI (v97)), some (eI (v106)), some (eI (v115)), some (eI (v59)), some (eI (0)), none]) (rest := []) rfl rfl rfl (Nat.ble_eq.mp rfl) rfl rfl rfl (I28.kd gA0 (by decide) (n := 69) rfl) rfl ?_
                refine s_312 (a1 := v78) (a2 := v88) (a3 := v97) (a4 := v106) (a5 := v115) (a6 := v59) (a7 := 0) I28 gA0 (by omega) (by omega) (by omega) (by omega) (by omega) (by omega) (by decide) (W29.slot (W24.slot e11 (by decide)) (by decide)) (by omega) ?_
                intro m129 v132 I130 F131 e133 h134
                have F135 : Fr l_315 0 0 g μ m129 := F30.t F131 rfl
                have p136 : LG g m129 := LG.fr p31 F131 rfl
                have b137 : 0 ≤ v132 ∧ v132 ≤ 24 := by
                  rw [← e133]
                  exact I130.int gA0 (by decide) (n := 69) rfl (by decide) rfl
                show ex_q (dt_fg L ρ) rc (d + 8, (315, 177, [some (eR a0), some (eI (a1)), some (eI (a1)), some (eI (v45)), some (eI (v59)), some (eI (v72))], []), f :: F, m129)
                refine w_t (np := 178) (l2 := [some (eR a0), some (eI (a1)), some (eI (a1)), some (eI (v45)), some (eI (v59)), some (eI (v72))]) (s2 := [eR a0]) rfl (s_an rfl (pos_g I130 gA0 (by decide))) rfl ?_
                refine w_cw (np := 181) (as := []) (l2 := [some (eR a0), none]) (rest := []) rfl rfl rfl (Nat.ble_eq.mp rfl) rfl rfl rfl (I130.kd gA0 (by decide) (n := 69) rfl) rfl ?_
                refine s_313 I130 gA0 e133 (by omega) ?_
                intro m138 v141 v143 I139 F140 b142 e144
                have F145 : Fr l_315 0 0 g μ m138 := F135.t F140 rfl
                have p146 : LG g m138 := LG.fr p136 F140 rfl
                have b147 : 0 ≤ v143 ∧ v143 ≤ 24 := by
                  rw [← e144]
                  exact I139.int gA0 (by decide) (n := 69) rfl (by decide) rfl
                show ex_q (dt_fg L ρ) rc (d + 8, (315, 181, [some (eR a0), some (eI (a1)), some (eI (a1)), some (eI (v45)), some (eI (v59)), some (eI (v72))], [eI (v141)]), f :: F, m138)
                exact b_ri rfl rfl (K m138 (v141) I139 F145 (by omega))
            · have b128 : 0 ≤ v78 ∧ v78 ≤ 0 := by omega
              refine w_t (np := 5) (l2 := [some (eI (v78))]) (s2 := [eI (1)]) rfl rfl rfl ?_
              refine w_go (t1 := 9) rfl rfl ?_
              refine b_ri rfl rfl ?_
              show ex_q (dt_fg L ρ) rc (d + 8, (315, 166, [some (eR a0), some (eI (a1)), some (eI (a1)), some (eI (v45)), some (eI (v59)), some (eI (v72))], [eI (1), eI (v121), eI (v59), eI (v115), eI (v106), eI (v97), eI (v88), eI (v78), eR a0]), f :: F, m27)
              refine b_cne (t1 := 173) (t2 := 169) rfl rfl rfl (ev_w_in (by omega) (by omega)) rfl (fun g128 => ?_) (fun g128 => ?_)
              · refine w_t (np := 174) (l2 := [some (eR a0), some (eI (a1)), some (eI (a1)), some (eI (v45)), some (eI (v59)), some (eI (v72))]) (s2 := [eI (1), eI (v59), eI (v115), eI (v106), eI (v97), eI (v88), eI (v78), eR a0]) rfl rfl rfl ?_
                refine w_cw (np := 177) (as := [eI (v78), eI (v88), eI (v97), eI (v106), eI (v115), eI (v59), eI (1)]) (l2 := [some (eR a0), some (eI (v78)), some (eI (v88)), some (eI (v97)), some (eI (v106)), some (eI (v115)), some (eI (v59)), some (eI (1)), none]) (rest := []) rfl rfl rfl (Nat.ble_eq.mp rfl) rfl rfl rfl (I28.kd gA0 (by decide) (n := 69) rfl) rfl ?_
                refine s_312 (a1 := v78) (a2 := v88) (a3 := v97) (a4 := v106) (a5 := v115) (a6 := v59) (a7 := 1) I28 gA0 (by omega) (by omega) (by omega) (by omega) (by omega) (by omega) (by decide) (W29.slot (W24.slot e11 (by decide)) (by decide)) (by omega) ?_
                intro m129 v132 I130 F131 e133 h134
                have F135 : Fr l_315 0 0 g μ m129 := F30.t F131 rfl
                have p136 : LG g m129 := LG.fr p31 F131 rfl
                have b137 : 0 ≤ v132 ∧ v132 ≤ 24 := by
                  rw [← e133]
                  exact I130.int gA0 (by decide) (n := 69) rfl (by decide) rfl
                show ex_q (dt_fg L ρ) rc (d + 8, (315, 177, [some (eR a0), some (eI (a1)), some (eI (a1)), some (eI (v45)), some (eI (v59)), some (eI (v72))], []), f :: F, m129)
                refine w_t (np := 178) (l2 := [some (eR a0), some (eI (a1)), some (eI (a1)), some (eI (v45)), some (eI (v59)), some (eI (v72))]) (s2 := [eR a0]) rfl (s_an rfl (pos_g I130 gA0 (by decide))) rfl ?_
                refine w_cw (np := 181) (as := []) (l2 := [some (eR a0), none]) (rest := []) rfl rfl rfl (Nat.ble_eq.mp rfl) rfl rfl rfl (I130.kd gA0 (by decide) (n := 69) rfl) rfl ?_
                refine s_313 I130 gA0 e133 (by omega) ?_
                intro m138 v141 v143 I139 F140 b142 e144
                have F145 : Fr l_315 0 0 g μ m138 := F135.t F140 rfl
                have p146 : LG g m138 := LG.fr p136 F140 rfl
                have b147 : 0 ≤ v143 ∧ v143 ≤ 24 := by
                  rw [← e144]
                  exact I139.int gA0 (by decide) (n := 69) rfl (by decide) rfl
                show ex_q (dt_fg L ρ) rc (d + 8, (315, 181, [some (eR a0), some (eI (a1)), some (eI (a1)), some (eI (v45)), some (eI (v59)), some (eI (v72))], [eI (v141)]), f :: F, m138)
                exact b_ri rfl rfl (K m138 (v141) I139 F145 (by omega))
              · have b129 : 1 ≤ v121 ∧ v121 ≤ 1 := by omega
                refine w_t (np := 170) (l2 := [some (eR a0), some (eI (a1)), some (eI (a1)), some (eI (v45)), some (eI (v59)), some (eI (v72))]) (s2 := [eI (0), eI (v59), eI (v115), eI (v106), eI (v97), eI (v88), eI (v78), eR a0]) rfl rfl rfl ?_
                refine w_go (t1 := 174) rfl rfl ?_
                refine w_cw (np := 177) (as := [eI (v78), eI (v88), eI (v97), eI (v106), eI (v115), eI (v59), eI (0)]) (l2 := [some (eR a0), some (eI (v78)), some (eI (v88)), some (eI (v97)), some (eI (v106)), some (eI (v115)), some (eI (v59)), some (eI (0)), none]) (rest := []) rfl rfl rfl (Nat.ble_eq.mp rfl) rfl rfl rfl (I28.kd gA0 (by decide) (n := 69) rfl) rfl ?_
                refine s_312 (a1 := v78) (a2 := v88) (a3 := v97) (a4 := v106) (a5 := v115) (a6 := v59) (a7 := 0) I28 gA0 (by omega) (by omega) (by omega) (by omega) (by omega) (by omega) (by decide) (W29.slot (W24.slot e11 (by decide)) (by decide)) (by omega) ?_
                intro m129 v132 I130 F131 e133 h134
                have F135 : Fr l_315 0 0 g μ m129 := F30.t F131 rfl
                have p136 : LG g m129 := LG.fr p31 F131 rfl
                have b137 : 0 ≤ v132 ∧ v132 ≤ 24 := by
                  rw [← e133]
                  exact I130.int gA0 (by decide) (n := 69) rfl (by decide) rfl
                show ex_q (dt_fg L ρ) rc (d + 8, (315, 177, [some (eR a0), some (eI (a1)), some (eI (a1)), some (eI (v45)), some (eI (v59)), some (eI (v72))], []), f :: F, m129)
                refine w_t (np := 178) (l2 := [some (eR a0), some (eI (a1)), some (eI (a1)), some (eI (v45)), some (eI (v59)), some (eI (v72))]) (s2 := [eR a0]) rfl (s_an rfl (pos_g I130 gA0 (by decide))) rfl ?_
                refine w_cw (np := 181) (as := []) (l2 := [some (eR a0), none]) (rest := []) rfl rfl rfl (Nat.ble_eq.mp rfl) rfl rfl rfl (I130.kd gA0 (by decide) (n := 69) rfl) rfl ?_
                refine s_313 I130 gA0 e133 (by omega) ?_
                intro m138 v141 v143 I139 F140 b142 e144
                have F145 : Fr l_315 0 0 g μ m138 := F135.t F140 rfl
                have p146 : LG g m138 := LG.fr p136 F140 rfl
                have b147 : 0 ≤ v143 ∧ v143 ≤ 24 := by
                  rw [← e144]
                  exact I139.int gA0 (by decide) (n := 69) rfl (by decide) rfl
                show ex_q (dt_fg L ρ) rc (d + 8, (315, 181, [some (eR a0), some (eI (a1)), some (eI (a1)), some (eI (v45)), some (eI (v59)), some (eI (v72))], [eI (v141)]), f :: F, m138)
                exact b_ri rfl rfl (K m138 (v141) I139 F145 (by omega))
          · have b38 : 0 ≤ v18 ∧ v18 ≤ 888 := by omega
            have b39 : 1 ≤ a1 ∧ a1 ≤ 889 := by omega
            refine w_t (np := 59) (l2 := [some (eR a0), some (eI (a1)), none, none, none, none]) (s2 := [eR a0]) rfl (s_an rfl (pos_g I28 gA0 (by decide))) rfl ?_
            refine w_gf (np := 62) (v := eR v14) rfl rfl (I28.kd gA0 (by decide) (n := 69) rfl) (by rw [(W29.slot (W24.slot e15 (by decide)) (by decide))]; rfl) ?_
            refine w_t (np := 63) (l2 := [some (eR a0), some (eI (a1)), none, none, none, none]) (s2 := [eI (a1), eR v14]) rfl rfl rfl ?_
            refine j_al (np := 64) rfl rfl I28 b16 (by decide) (n := 890) rfl rfl (lo := -1) (hi := 889) (fun _ => rfl) (by omega) (by omega) ?_
            intro v38 e39 b40
            have e39 := e39.symm.trans (W29.addr (W24.addr e19 gA0 b16 (by decide)) gA0 b16 (by decide))
            rw [e39]
            refine w_go (t1 := 68) rfl rfl ?_
            refine w_t (np := 69) (l2 := [some (eR a0), some (eI (a1)), some (eI (v18)), none, none, none]) (s2 := []) rfl rfl rfl ?_
            refine w_t (np := 70) (l2 := [some (eR a0), some (eI (a1)), some (eI (v18)), none, none, none]) (s2 := [eR a0]) rfl (s_an rfl (pos_g I28 gA0 (by decide))) rfl ?_
            refine w_t (np := 71) (l2 := [some (eR a0), some (eI (a1)), some (eI (v18)), none, none, none]) (s2 := [eI (v18), eR a0]) rfl rfl rfl ?_
            refine w_t (np := 72) (l2 := [some (eR a0), some (eI (a1)), some (eI (v18)), none, none, none]) (s2 := [eI (0), eI (v18), eR a0]) rfl rfl rfl ?_
            refine w_cw (np := 75) (as := [eI (v18), eI (0)]) (l2 := [some (eR a0), some (eI (v18)), some (eI (0))]) (rest := []) rfl rfl rfl (Nat.ble_eq.mp rfl) rfl rfl rfl (I28.kd gA0 (by decide) (n := 69) rfl) rfl ?_
            refine w_t (np := 1) (l2 := [some (eR a0), some (eI (v18)), some (eI (0))]) (s2 := [eR a0]) rfl (s_an rfl (pos_g I28 gA0 (by decide))) rfl ?_
            refine j_gr (np := 4) rfl rfl I28 gA0 (by decide) (n := 69) rfl rfl rfl ?_
            intro v41 e42 b43 z44
            have b43 : g v41 = 64 := Nat.eq_of_beq_eq_true b43
            refine w_t (np := 5) (l2 := [some (eR a0), some (eI (v18)), some (eI (0))]) (s2 := [eI (3), eR v41]) rfl rfl rfl ?_
            refine w_t (np := 6) (l2 := [some (eR a0), some (eI (v18)), some (eI (0))]) (s2 := [eI (v18), eI (3), eR v41]) rfl rfl rfl ?_
            obtain ⟨v45, e46⟩ : ∃ zz : Int, zz = (3) * (v18) := ⟨_, rfl⟩
            have b47 : 0 ≤ v45 ∧ v45 ≤ 2664 := by omega
            refine w_t (np := 7) (l2 := [some (eR a0), some (eI (v18)), some (eI (0))]) (s2 := [eI (v45), eR v41]) rfl (b_imul (by rw [← e46]; exact ev_w_in (by omega) (by omega))) rfl ?_
            refine w_t (np := 8) (l2 := [some (eR a0), some (eI (v18)), some (eI (0))]) (s2 := [eI (0), eI (v45), eR v41]) rfl rfl rfl ?_
            refine w_t (np := 9) (l2 := [some (eR a0), some (eI (v18)), some (eI (0))]) (s2 := [eI (v45), eR v41]) rfl (b_iadd (by rw [Int.add_zero]; exact ev_w_in (by omega) (by omega))) rfl ?_
            refine j_al (np := 10) rfl rfl I28 b43 (by decide) (n := 2670) rfl rfl (lo := 0) (hi := 2669) (fun _ => rfl) (by omega) (by omega) ?_
            intro v48 e49 b50
            refine b_ri rfl rfl ?_
            show ex_q (dt_fg L ρ) rc (d + 8, (315, 75, [some (eR a0), some (eI (a1)), some (eI (v18)), none, none, none], [eI (v48)]), f :: F, m27)
            refine w_t (np := 76) (l2 := [some (eR a0), some (eI (a1)), some (eI (v18)), some (eI (v48)), none, none]) (s2 := []) rfl rfl rfl ?_
            refine w_t (np := 77) (l2 := [some (eR a0), some (eI (a1)), some (eI (v18)), some (eI (v48)), none, none]) (s2 := [eR a0]) rfl (s_an rfl (pos_g I28 gA0 (by decide))) rfl ?_
            refine w_t (np := 78) (l2 := [some (eR a0), some (eI (a1)), some (eI (v18)), some (eI (v48)), none, none]) (s2 := [eI (v48), eR a0]) rfl rfl rfl ?_
            refine w_t (np := 79) (l2 := [some (eR a0), some (eI (a1)), some (eI (v18)), some (eI (v48)), none, none]) (s2 := [eR a0, eI (v48), eR a0]) rfl (s_an rfl (pos_g I28 gA0 (by decide))) rfl ?_
            refine w_t (np := 80) (l2 := [some (eR a0), some (eI (a1)), some (eI (v18)), some (eI (v48)), none, none]) (s2 := [eI (v18), eR a0, eI (v48), eR a0]) rfl rfl rfl ?_
            refine w_t (np := 81) (l2 := [some (eR a0), some (eI (a1)), some (eI (v18)), some (eI (v48)), none, none]) (s2 := [eI (1), eI (v18), eR a0, eI (v48), eR a0]) rfl rfl rfl ?_
            refine w_cw (np := 84) (as := [eI (v18), eI (1)]) (l2 := [some (eR a0), some (eI (v18)), some (eI (1))]) (rest := [eI (v48), eR a0]) rfl rfl rfl (Nat.ble_eq.mp rfl) rfl rfl rfl (I28.kd gA0 (by decide) (n := 69) rfl) rfl ?_
            refine w_t (np := 1) (l2 := [some (eR a0), some (eI (v18)), some (eI (1))]) (s2 := [eR a0]) rfl (s_an rfl (pos_g I28 gA0 (by decide))) rfl ?_
            refine w_gf (np := 4) (v := eR v41) rfl rfl (I28.kd gA0 (by decide) (n := 69) rfl) (by rw [e42]; rfl) ?_
            refine w_t (np := 5) (l2 := [some (eR a0), some (eI (v18)), some (eI (1))]) (s2 := [eI (3), eR v41]) rfl rfl rfl ?_
            refine w_t (np := 6) (l2 := [some (eR a0), some (eI (v18)), some (eI (1))]) (s2 := [eI (v18), eI (3), eR v41]) rfl rfl rfl ?_
            obtain ⟨v51, e52⟩ : ∃ zz : Int, zz = (3) * (v18) := ⟨_, rfl⟩
            have b53 : 0 ≤ v51 ∧ v51 ≤ 2664 := by omega
            refine w_t (np := 7) (l2 := [some (eR a0), some (eI (v18)), some (eI (1))]) (s2 := [eI (v51), eR v41]) rfl (b_imul (by rw [← e52]; exact ev_w_in (by omega) (by omega))) rfl ?_
            refine w_t (np := 8) (l2 := [some (eR a0), some (eI (v18)), some (eI (1))]) (s2 := [eI (1), eI (v51), eR v41]) rfl rfl rfl ?_
            obtain ⟨v54, e55⟩ : ∃ zz : Int, zz = (v51) + (1) := ⟨_, rfl⟩
            have b56 : 1 ≤ v54 ∧ v54 ≤ 2665 := by omega
            refine w_t (np := 9) (l2 := [some (eR a0), some (eI (v18)), some (eI (1))]) (s2 := [eI (v54), eR v41]) rfl (b_iadd (by rw [← e55]; exact ev_w_in (by omega) (by omega))) rfl ?_
            refine j_al (np := 10) rfl rfl I28 b43 (by decide) (n := 2670) rfl rfl (lo := 0) (hi := 2669) (fun _ => rfl) (by omega) (by omega) ?_
            intro v57 e58 b59
            refine b_ri rfl rfl ?_
            show ex_q (dt_fg L ρ) rc (d + 8, (315, 84, [some (eR a0), some (eI (a1)), some (eI (v18)), some (eI (v48)), none, none], [eI (v57), eI (v48), eR a0]), f :: F, m27)
            obtain ⟨D60, h61⟩ := LG.d (i := v18) (c := (v54) - 3 * (v18)) (v0 := v45) (v1 := v54) I28 p31 gA0 b43 (W29.slot (W24.slot e2 (by decide)) (by decide)) (by omega) (by omega) e49 (by omega) (by omega) e58
            refine w_cw (np := 87) (as := [eI (v48), eI (v57)]) (l2 := [some (eR a0), some (eI (v48)), some (eI (v57)), none]) (rest := []) rfl rfl rfl (Nat.ble_eq.mp rfl) rfl rfl rfl (I28.kd gA0 (by decide) (n := 69) rfl) rfl ?_
            refine s_249 (a1 := v48) (a2 := v57) I28 gA0 (by omega) (by omega) h61 ?_
            intro v62 b63
            show ex_q (dt_fg L ρ) rc (d + 8, (315, 87, [some (eR a0), some (eI (a1)), some (eI (v18)), some (eI (v48)), none, none], [eI (v62)]), f :: F, m27)
            refine w_t (np := 89) (l2 := [some (eR a0), some (eI (a1)), some (eI (v18)), some (eI (v48)), some (eI (v62)), none]) (s2 := []) rfl rfl rfl ?_
            refine w_t (np := 90) (l2 := [some (eR a0), some (eI (a1)), some (eI (v18)), some (eI (v48)), some (eI (v62)), none]) (s2 := [eR a0]) rfl (s_an rfl (pos_g I28 gA0 (by decide))) rfl ?_
            refine w_t (np := 91) (l2 := [some (eR a0), some (eI (a1)), some (eI (v18)), some (eI (v48)), some (eI (v62)), none]) (s2 := [eI (v48), eR a0]) rfl rfl rfl ?_
            refine w_t (np := 92) (l2 := [some (eR a0), some (eI (a1)), some (eI (v18)), some (eI (v48)), some (eI (v62)), none]) (s2 := [eR a0, eI (v48), eR a0]) rfl (s_an rfl (pos_g I28 gA0 (by decide))) rfl ?_
            refine w_t (np := 93) (l2 := [some (eR a0), some (eI (a1)), some (eI (v18)), some (eI (v48)), some (eI (v62)), none]) (s2 := [eI (v18), eR a0, eI (v48), eR a0]) rfl rfl rfl ?_
            refine w_t (np := 94) (l2 := [some (eR a0), some (eI (a1)), some (eI (v18)), some (eI (v48)), some (eI (v62)), none]) (s2 := [eI (2), eI (v18), eR a0, eI (v48), eR a0]) rfl rfl rfl ?_
            refine w_cw (np := 97) (as := [eI (v18), eI (2)]) (l2 := [some (eR a0), some (eI (v18)), some (eI (2))]) (rest := [eI (v48), eR a0]) rfl rfl rfl (Nat.ble_eq.mp rfl) rfl rfl rfl (I28.kd gA0 (by decide) (n := 69) rfl) rfl ?_
            refine w_t (np := 1) (l2 := [some (eR a0), some (eI (v18)), some (eI (2))]) (s2 := [eR a0]) rfl (s_an rfl (pos_g I28 gA0 (by decide))) rfl ?_
            refine w_gf (np := 4) (v := eR v41) rfl rfl (I28.kd gA0 (by decide) (n := 69) rfl) (by rw [e42]; rfl) ?_
            refine w_t (np := 5) (l2 := [some (eR a0), some (eI (v18)), some (eI (2))]) (s2 := [eI (3), eR v41]) rfl rfl rfl ?_
            refine w_t (np := 6) (l2 := [some (eR a0), some (eI (v18)), some (eI (2))]) (s2 := [eI (v18), eI (3), eR v41]) rfl rfl rfl ?_
            obtain ⟨v64, e65⟩ : ∃ zz : Int, zz = (3) * (v18) := ⟨_, rfl⟩
            have b66 : 0 ≤ v64 ∧ v64 ≤ 2664 := by omega
            refine w_t (np := 7) (l2 := [some (eR a0), some (eI (v18)), some (eI (2))]) (s2 := [eI (v64), eR v41]) rfl (b_imul (by rw [← e65]; exact ev_w_in (by omega) (by omega))) rfl ?_
            refine w_t (np := 8) (l2 := [some (eR a0), some (eI (v18)), some (eI (2))]) (s2 := [eI (2), eI (v64), eR v41]) rfl rfl rfl ?_
            obtain ⟨v67, e68⟩ : ∃ zz : Int, zz = (v64) + (2) := ⟨_, rfl⟩
            have b69 : 2 ≤ v67 ∧ v67 ≤ 2666 := by omega
            refine w_t (np := 9) (l2 := [some (eR a0), some (eI (v18)), some (eI (2))]) (s2 := [eI (v67), eR v41]) rfl (b_iadd (by rw [← e68]; exact ev_w_in (by omega) (by omega))) rfl ?_
            refine j_al (np := 10) rfl rfl I28 b43 (by decide) (n := 2670) rfl rfl (lo := 0) (hi := 2669) (fun _ => rfl) (by omega) (by omega) ?_
            intro v70 e71 b72
            refine b_ri rfl rfl ?_
            show ex_q (dt_fg L ρ) rc (d + 8, (315, 97, [some (eR a0), some (eI (a1)), some (eI (v18)), some (eI (v48)), some (eI (v62)), none], [eI (v70), eI (v48), eR a0]), f :: F, m27)
            obtain ⟨D73, h74⟩ := LG.d (i := v18) (c := (v67) - 3 * (v18)) (v0 := v45) (v1 := v67) I28 p31 gA0 b43 (W29.slot (W24.slot e2 (by decide)) (by decide)) (by omega) (by omega) e49 (by omega) (by omega) e71
            refine w_cw (np := 100) (as := [eI (v48), eI (v70)]) (l2 := [some (eR a0), some (eI (v48)), some (eI (v70)), none]) (rest := []) rfl rfl rfl (Nat.ble_eq.mp rfl) rfl rfl rfl (I28.kd gA0 (by decide) (n := 69) rfl) rfl ?_
            refine s_249 (a1 := v48) (a2 := v70) I28 gA0 (by omega) (by omega) h74 ?_
            intro v75 b76
            show ex_q (dt_fg L ρ) rc (d + 8, (315, 100, [some (eR a0), some (eI (a1)), some (eI (v18)), some (eI (v48)), some (eI (v62)), none], [eI (v75)]), f :: F, m27)
            refine w_t (np := 102) (l2 := [some (eR a0), some (eI (a1)), some (eI (v18)), some (eI (v48)), some (eI (v62)), some (eI (v75))]) (s2 := []) rfl rfl rfl ?_
            refine w_t (np := 103) (l2 := [some (eR a0), some (eI (a1)), some (eI (v18)), some (eI (v48)), some (eI (v62)), some (eI (v75))]) (s2 := [eR a0]) rfl (s_an rfl (pos_g I28 gA0 (by decide))) rfl ?_
            refine w_t (np := 104) (l2 := [some (eR a0), some (eI (a1)), some (eI (v18)), some (eI (v48)), some (eI (v62)), some (eI (v75))]) (s2 := [eR a0, eR a0]) rfl (s_an rfl (pos_g I28 gA0 (by decide))) rfl ?_
            refine j_gr (np := 107) rfl rfl I28 gA0 (by decide) (n := 69) rfl rfl rfl ?_
            intro v77 e78 b79 z80
            have b79 : g v77 = 56 := Nat.eq_of_beq_eq_true b79
            refine w_t (np := 108) (l2 := [some (eR a0), some (eI (a1)), some (eI (v18)), some (eI (v48)), some (eI (v62)), some (eI (v75))]) (s2 := [eI (v18), eR v77, eR a0]) rfl rfl rfl ?_
            refine j_al (np := 109) rfl rfl I28 b79 (by decide) (n := 890) rfl rfl (lo := 0) (hi := 1) (fun _ => rfl) (by omega) (by omega) ?_
            intro v81 e82 b83
            refine w_t (np := 110) (l2 := [some (eR a0), some (eI (a1)), some (eI (v18)), some (eI (v48)), some (eI (v62)), some (eI (v75))]) (s2 := [eR a0, eI (v81), eR a0]) rfl (s_an rfl (pos_g I28 gA0 (by decide))) rfl ?_
            refine j_gr (np := 113) rfl rfl I28 gA0 (by decide) (n := 69) rfl rfl rfl ?_
            intro v84 e85 b86 z87
            have b86 : g v84 = 65 := Nat.eq_of_beq_eq_true b86
            refine w_t (np := 114) (l2 := [some (eR a0), some (eI (a1)), some (eI (v18)), some (eI (v48)), some (eI (v62)), some (eI (v75))]) (s2 := [eI (4), eR v84, eI (v81), eR a0]) rfl rfl rfl ?_
            refine w_t (np := 115) (l2 := [some (eR a0), some (eI (a1)), some (eI (v18)), some (eI (v48)), some (eI (v62)), some (eI (v75))]) (s2 := [eI (v48), eI (4), eR v84, eI (v81), eR a0]) rfl rfl rfl ?_
            obtain ⟨v88, e89⟩ : ∃ zz : Int, zz = (4) * (v48) := ⟨_, rfl⟩
            have b90 : 0 ≤ v88 ∧ v88 ≤ 10676 := by omega
            refine w_t (np := 116) (l2 := [some (eR a0), some (eI (a1)), some (eI (v18)), some (eI (v48)), some (eI (v62)), some (eI (v75))]) (s2 := [eI (v88), eR v84, eI (v81), eR a0]) rfl (b_imul (by rw [← e89]; exact ev_w_in (by omega) (by omega))) rfl ?_
            refine j_al (np := 117) rfl rfl I28 b86 (by decide) (n := 10680) rfl rfl (lo := -2147483648) (hi := 2147483647) (fun _ => rfl) (by omega) (by omega) ?_
            intro v91 e92 b93
            refine w_t (np := 118) (l2 := [some (eR a0), some (eI (a1)), some (eI (v18)), some (eI (v48)), some (eI (v62)), some (eI (v75))]) (s2 := [eR a0, eI (v91), eI (v81), eR a0]) rfl (s_an rfl (pos_g I28 gA0 (by decide))) rfl ?_
            refine w_gf (np := 121) (v := eR v84) rfl rfl (I28.kd gA0 (by decide) (n := 69) rfl) (by rw [e85]; rfl) ?_
            refine w_t (np := 122) (l2 := [some (eR a0), some (eI (a1)), some (eI (v18)), some (eI (v48)), some (eI (v62)), some (eI (v75))]) (s2 := [eI (4), eR v84, eI (v91), eI (v81), eR a0]) rfl rfl rfl ?_
            refine w_t (np := 123) (l2 := [some (eR a0), some (eI (a1)), some (eI (v18)), some (eI (v48)), some (eI (v62)), some (eI (v75))]) (s2 := [eI (v48), eI (4), eR v84, eI (v91), eI (v81), eR a0]) rfl rfl rfl ?_
            obtain ⟨v94, e95⟩ : ∃ zz : Int, zz = (4) * (v48) := ⟨_, rfl⟩
            have b96 : 0 ≤ v94 ∧ v94 ≤ 10676 := by omega
            refine w_t (np := 124) (l2 := [some (eR a0), some (eI (a1)), some (eI (v18)), some (eI (v48)), some (eI (v62)), some (eI (v75))]) (s2 := [eI (v94), eR v84, eI (v91), eI (v81), eR a0]) rfl (b_imul (by rw [← e95]; exact ev_w_in (by omega) (by omega))) rfl ?_
            refine w_t (np := 125) (l2 := [some (eR a0), some (eI (a1)), some (eI (v18)), some (eI (v48)), some (eI (v62)), some (eI (v75))]) (s2 := [eI (1), eI (v94), eR v84, eI (v91), eI (v81), eR a0]) rfl rfl rfl ?_
            obtain ⟨v97, e98⟩ : ∃ zz : Int, zz = (v94) + (1) := ⟨_, rfl⟩
            have b99 : 1 ≤ v97 ∧ v97 ≤ 10677 := by omega
            refine w_t (np := 126) (l2 := [some (eR a0), some (eI (a1)), some (eI (v18)), some (eI (v48)), some (eI (v62)), some (eI (v75))]) (s2 := [eI (v97), eR v84, eI (v91), eI (v81), eR a0]) rfl (b_iadd (by rw [← e98]; exact ev_w_in (by omega) (by omega))) rfl ?_
            refine j_al (np := 127) rfl rfl I28 b86 (by decide) (n := 10680) rfl rfl (lo := -2147483648) (hi := 2147483647) (fun _ => rfl) (by omega) (by omega) ?_
            intro v100 e101 b102
            refine w_t (np := 128) (l2 := [some (eR a0), some (eI (a1)), some (eI (v18)), some (eI (v48)), some (eI (v62)), some (eI (v75))]) (s2 := [eR a0, eI (v100), eI (v91), eI (v81), eR a0]) rfl (s_an rfl (pos_g I28 gA0 (by decide))) rfl ?_
            refine w_gf (np := 131) (v := eR v84) rfl rfl (I28.kd gA0 (by decide) (n := 69) rfl) (by rw [e85]; rfl) ?_
            refine w_t (np := 132) (l2 := [some (eR a0), some (eI (a1)), some (eI (v18)), some (eI (v48)), some (eI (v62)), some (eI (v75))]) (s2 := [eI (4), eR v84, eI (v100), eI (v91), eI (v81), eR a0]) rfl rfl rfl ?_
            refine w_t (np := 133) (l2 := [some (eR a0), some (eI (a1)), some (eI (v18)), some (eI (v48)), some (eI (v62)), some (eI (v75))]) (s2 := [eI (v48), eI (4), eR v84, eI (v100), eI (v91), eI (v81), eR a0]) rfl rfl rfl ?_
            obtain ⟨v103, e104⟩ : ∃ zz : Int, zz = (4) * (v48) := ⟨_, rfl⟩
            have b105 : 0 ≤ v103 ∧ v103 ≤ 10676 := by omega
            refine w_t (np := 134) (l2 := [some (eR a0), some (eI (a1)), some (eI (v18)), some (eI (v48)), some (eI (v62)), some (eI (v75))]) (s2 := [eI (v103), eR v84, eI (v100), eI (v91), eI (v81), eR a0]) rfl (b_imul (by rw [← e104]; exact ev_w_in (by omega) (by omega))) rfl ?_
            refine w_t (np := 135) (l2 := [some (eR a0), some (eI (a1)), some (eI (v18)), some (eI (v48)), some (eI (v62)), some (eI (v75))]) (s2 := [eI (2), eI (v103), eR v84, eI (v100), eI (v91), eI (v81), eR a0]) rfl rfl rfl ?_
            obtain ⟨v106, e107⟩ : ∃ zz : Int, zz = (v103) + (2) := ⟨_, rfl⟩
            have b108 : 2 ≤ v106 ∧ v106 ≤ 10678 := by omega
            refine w_t (np := 136) (l2 := [some (eR a0), some (eI (a1)), some (eI (v18)), some (eI (v48)), some (eI (v62)), some (eI (v75))]) (s2 := [eI (v106), eR v84, eI (v100), eI (v91), eI (v81), eR a0]) rfl (b_iadd (by rw [← e107]; exact ev_w_in (by omega) (by omega))) rfl ?_
            refine j_al (np := 137) rfl rfl I28 b86 (by decide) (n := 10680) rfl rfl (lo := -2147483648) (hi := 2147483647) (fun _ => rfl) (by omega) (by omega) ?_
            intro v109 e110 b111
            refine w_t (np := 138) (l2 := [some (eR a0), some (eI (a1)), some (eI (v18)), some (eI (v48)), some (eI (v62)), some (eI (v75))]) (s2 := [eR a0, eI (v109), eI (v100), eI (v91), eI (v81), eR a0]) rfl (s_an rfl (pos_g I28 gA0 (by decide))) rfl ?_
            refine w_gf (np := 141) (v := eR v84) rfl rfl (I28.kd gA0 (by decide) (n := 69) rfl) (by rw [e85]; rfl) ?_
            refine w_t (np := 142) (l2 := [some (eR a0), some (eI (a1)), some (eI (v18)), some (eI (v48)), some (eI (v62)), some (eI (v75))]) (s2 := [eI (4), eR v84, eI (v109), eI (v100), eI (v91), eI (v81), eR a0]) rfl rfl rfl ?_
            refine w_t (np := 143) (l2 := [some (eR a0), some (eI (a1)), some (eI (v18)), some (eI (v48)), some (eI (v62)), some (eI (v75))]) (s2 := [eI (v48), eI (4), eR v84, eI (v109), eI (v100), eI (v91), eI (v81), eR a0]) rfl rfl rfl ?_
            obtain ⟨v112, e113⟩ : ∃ zz : Int, zz = (4) * (v48) := ⟨_, rfl⟩
            have b114 : 0 ≤ v112 ∧ v112 ≤ 10676 := by omega
            refine w_t (np := 144) (l2 := [some (eR a0), some (eI (a1)), some (eI (v18)), some (eI (v48)), some (eI (v62)), some (eI (v75))]) (s2 := [eI (v112), eR v84, eI (v109), eI (v100), eI (v91), eI (v81), eR a0]) rfl (b_imul (by rw [← e113]; exact ev_w_in (by omega) (by omega))) rfl ?_
            refine w_t (np := 145) (l2 := [some (eR a0), some (eI (a1)), some (eI (v18)), some (eI (v48)), some (eI (v62)), some (eI (v75))]) (s2 := [eI (3), eI (v112), eR v84, eI (v109), eI (v100), eI (v91), eI (v81), eR a0]) rfl rfl rfl ?_
            obtain ⟨v115, e116⟩ : ∃ zz : Int, zz = (v112) + (3) := ⟨_, rfl⟩
            have b117 : 3 ≤ v115 ∧ v115 ≤ 10679 := by omega
            refine w_t (np := 146) (l2 := [some (eR a0), some (eI (a1)), some (eI (v18)), some (eI (v48)), some (eI (v62)), some (eI (v75))]) (s2 := [eI (v115), eR v84, eI (v109), eI (v100), eI (v91), eI (v81), eR a0]) rfl (b_iadd (by rw [← e116]; exact ev_w_in (by omega) (by omega))) rfl ?_
            refine j_al (np := 147) rfl rfl I28 b86 (by decide) (n := 10680) rfl rfl (lo := -2147483648) (hi := 2147483647) (fun _ => rfl) (by omega) (by omega) ?_
            intro v118 e119 b120
            refine w_t (np := 149) (l2 := [some (eR a0), some (eI (a1)), some (eI (v18)), some (eI (v48)), some (eI (v62)), some (eI (v75))]) (s2 := [eI (v62), eI (v118), eI (v109), eI (v100), eI (v91), eI (v81), eR a0]) rfl rfl rfl ?_
            refine w_t (np := 151) (l2 := [some (eR a0), some (eI (a1)), some (eI (v18)), some (eI (v48)), some (eI (v62)), some (eI (v75))]) (s2 := [eI (v75), eI (v62), eI (v118), eI (v109), eI (v100), eI (v91), eI (v81), eR a0]) rfl rfl rfl ?_
            refine w_t (np := 153) (l2 := [some (eR a0), some (eI (a1)), some (eI (v18)), some (eI (v48)), some (eI (v62)), some (eI (v75))]) (s2 := [eI (v62), eI (v75), eI (v62), eI (v118), eI (v109), eI (v100), eI (v91), eI (v81), eR a0]) rfl rfl rfl ?_
            obtain ⟨v121, e122⟩ : ∃ zz : Int, zz = (v75) - (v62) := ⟨_, rfl⟩
            have b123 : -9 ≤ v121 ∧ v121 ≤ 9 := by omega
            refine w_t (np := 154) (l2 := [some (eR a0), some (eI (a1)), some (eI (v18)), some (eI (v48)), some (eI (v62)), some (eI (v75))]) (s2 := [eI (v121), eI (v62), eI (v118), eI (v109), eI (v100), eI (v91), eI (v81), eR a0]) rfl (b_isub (by rw [← e122]; exact ev_w_in (by omega) (by omega))) rfl ?_
            refine w_cu (np := 157) (as := [eI (v121)]) (l2 := [some (eI (v121))]) (rest := [eI (v62), eI (v118), eI (v109), eI (v100), eI (v91), eI (v81), eR a0]) rfl rfl rfl (Nat.ble_eq.mp rfl) rfl rfl rfl rfl ?_
            refine s_217e (a0 := v121) I28 (by omega) ?_
            intro v124 b125 h126
            show ex_q (dt_fg L ρ) rc (d + 8, (315, 157, [some (eR a0), some (eI (a1)), some (eI (v18)), some (eI (v48)), some (eI (v62)), some (eI (v75))], [eI (v124), eI (v62), eI (v118), eI (v109), eI (v100), eI (v91), eI (v81), eR a0]), f :: F, m27)
            refine w_t (np := 158) (l2 := [some (eR a0), some (eI (a1)), some (eI (v18)), some (eI (v48)), some (eI (v62)), some (eI (v75))]) (s2 := [eR a0, eI (v124), eI (v62), eI (v118), eI (v109), eI (v100), eI (v91), eI (v81), eR a0]) rfl (s_an rfl (pos_g I28 gA0 (by decide))) rfl ?_
            refine w_gf (np := 161) (v := eR v77) rfl rfl (I28.kd gA0 (by decide) (n := 69) rfl) (by rw [e78]; rfl) ?_
            refine w_t (np := 162) (l2 := [some (eR a0), some (eI (a1)), some (eI (v18)), some (eI (v48)), some (eI (v62)), some (eI (v75))]) (s2 := [eI (v18), eR v77, eI (v124), eI (v62), eI (v118), eI (v109), eI (v100), eI (v91), eI (v81), eR a0]) rfl rfl rfl ?_
            refine j_al (np := 163) rfl rfl I28 b79 (by decide) (n := 890) rfl rfl (lo := 0) (hi := 1) (fun _ => rfl) (by omega) (by omega) ?_
            intro v127 e128 b129
            have e128 := e128.symm.trans e82
            rw [e128]
            refine w_cu (np := 166) (as := [eI (v81)]) (l2 := [some (eI (v81))]) (rest := [eI (v124), eI (v62), eI (v118), eI (v109), eI (v100), eI (v91), eI (v81), eR a0]) rfl rfl rfl (Nat.ble_eq.mp rfl) rfl rfl rfl rfl ?_
            refine w_t (np := 1) (l2 := [some (eI (v81))]) (s2 := [eI (v81)]) rfl rfl rfl ?_
            refine b_ine (t1 := 8) (t2 := 4) rfl rfl rfl (ev_w_in (by omega) (by omega)) (fun g130 => ?_) (fun g130 => ?_)
            · have b131 : 1 ≤ v81 ∧ v81 ≤ 1 := by omega
              refine w_t (np := 9) (l2 := [some (eI (v81))]) (s2 := [eI (3)]) rfl rfl rfl ?_
              refine b_ri rfl rfl ?_
              show ex_q (dt_fg L ρ) rc (d + 8, (315, 166, [some (eR a0), some (eI (a1)), some (eI (v18)), some (eI (v48)), some (eI (v62)), some (eI (v75))], [eI (3), eI (v124), eI (v62), eI (v118), eI (v109), eI (v100), eI (v91), eI (v81), eR a0]), f :: F, m27)
              refine b_cne (t1 := 173) (t2 := 169) rfl rfl rfl (ev_w_in (by omega) (by omega)) rfl (fun g131 => ?_) (fun g131 => ?_)
              · refine w_t (np := 174) (l2 := [some (eR a0), some (eI (a1)), some (eI (v18)), some (eI (v48)), some (eI (v62)), some (eI (v75))]) (s2 := [eI (1), eI (v62), eI (v118), eI (v109), eI (v100), eI (v91), eI (v81), eR a0]) rfl rfl rfl ?_
                refine w_cw (np := 177) (as := [eI (v81), eI (v91), eI (v100), eI (v109), eI (v118), eI (v62), eI (1)]) (l2 := [some (eR a0), some (eI (v81)), some (eI (v91)), some (eI (v100)), some (eI (v109)), some (eI (v118)), some (eI (v62)), some (eI (1)), none]) (rest := []) rfl rfl rfl (Nat.ble_eq.mp rfl) rfl rfl rfl (I28.kd gA0 (by decide) (n := 69) rfl) rfl ?_
                refine s_312 (a1 := v81) (a2 := v91) (a3 := v100) (a4 := v109) (a5 := v118) (a6 := v62) (a7 := 1) I28 gA0 (by omega) (by omega) (by omega) (by omega) (by omega) (by omega) (by decide) (W29.slot (W24.slot e11 (by decide)) (by decide)) (by omega) ?_
                intro m132 v135 I133 F134 e136 h137
                have F138 : Fr l_315 0 0 g μ m132 := F30.t F134 rfl
                have p139 : LG g m132 := LG.fr p31 F134 rfl
                have b140 : 0 ≤ v135 ∧ v135 ≤ 24 := by
                  rw [← e136]
                  exact I133.int gA0 (by decide) (n := 69) rfl (by decide) rfl
                show ex_q (dt_fg L ρ) rc (d + 8, (315, 177, [some (eR a0), some (eI (a1)), some (eI (v18)), some (eI (v48)), some (eI (v62)), some (eI (v75))], []), f :: F, m132)
                refine w_t (np := 178) (l2 := [some (eR a0), some (eI (a1)), some (eI (v18)), some (eI (v48)), some (eI (v62)), some (eI (v75))]) (s2 := [eR a0]) rfl (s_an rfl (pos_g I133 gA0 (by decide))) rfl ?_
                refine w_cw (np := 181) (as := []) (l2 := [some (eR a0), none]) (rest := []) rfl rfl rfl (Nat.ble_eq.mp rfl) rfl rfl rfl (I133.kd gA0 (by decide) (n := 69) rfl) rfl ?_
                refine s_313 I133 gA0 e136 (by omega) ?_
                intro m141 v144 v146 I142 F143 b145 e147
                have F148 : Fr l_315 0 0 g μ m141 := F138.t F143 rfl
                have p149 : LG g m141 := LG.fr p139 F143 rfl
                have b150 : 0 ≤ v146 ∧ v146 ≤ 24 := by
                  rw [← e147]
                  exact I142.int gA0 (by decide) (n := 69) rfl (by decide) rfl
                show ex_q (dt_fg L ρ) rc (d + 8, (315, 181, [some (eR a0), some (eI (a1)), some (eI (v18)), some (eI (v48)), some (eI (v62)), some (eI (v75))], [eI (v144)]), f :: F, m141)
                exact b_ri rfl rfl (K m141 (v144) I142 F148 (by omega))
              · have b132 : 3 ≤ v124 ∧ v124 ≤ 3 := by omega
                refine w_t (np := 170) (l2 := [some (eR a0), some (eI (a1)), some (eI (v18)), some (eI (v48)), some (eI (v62)), some (eI (v75))]) (s2 := [eI (0), eI (v62), eI (v118), eI (v109), eI (v100), eI (v91), eI (v81), eR a0]) rfl rfl rfl ?_
                refine w_go (t1 := 174) rfl rfl ?_
                refine w_cw (np := 177) (as := [eI (v81), eI (v91), eI (v100), eI (v109), eI (v118), eI (v62), eI (0)]) (l2 := [some (eR a0), some (eI (v81)), some (eI (v91)), some (eI (v100)), some (eI (v109)), some (eI (v118)), some (eI (v62)), some (eI (0)), none]) (rest := []) rfl rfl rfl (Nat.ble_eq.mp rfl) rfl rfl rfl (I28.kd gA0 (by decide) (n := 69) rfl) rfl ?_
                refine s_312 (a1 := v81) (a2 := v91) (a3 := v100) (a4 := v109) (a5 := v118) (a6 := v62) (a7 := 0) I28 gA0 (by omega) (by omega) (by omega) (by omega) (by omega) (by omega) (by decide) (W29.slot (W24.slot e11 (by decide)) (by decide)) (by omega) ?_
                intro m132 v135 I133 F134 e136 h137
                have F138 : Fr l_315 0 0 g μ m132 := F30.t F134 rfl
                have p139 : LG g m132 := LG.fr p31 F134 rfl
                have b140 : 0 ≤ v135 ∧ v135 ≤ 24 := by
                  rw [← e136]
                  exact I133.int gA0 (by decide) (n := 69) rfl (by decide) rfl
                show ex_q (dt_fg L ρ) rc (d + 8, (315, 177, [some (eR a0), some (eI (a1)), some (eI (v18)), some (eI (v48)), some (eI (v62)), some (eI (v75))], []), f :: F, m132)
                refine w_t (np := 178) (l2 := [some (eR a0), some (eI (a1)), some (eI (v18)), some (eI (v48)), some (eI (v62)), some (eI (v75))]) (s2 := [eR a0]) rfl (s_an rfl (pos_g I133 gA0 (by decide))) rfl ?_
                refine w_cw (np := 181) (as := []) (l2 := [some (eR a0), none]) (rest := []) rfl rfl rfl (Nat.ble_eq.mp rfl) rfl rfl rfl (I133.kd gA0 (by decide) (n := 69) rfl) rfl ?_
                refine s_313 I133 gA0 e136 (by omega) ?_
                intro m141 v144 v146 I142 F143 b145 e147
                have F148 : Fr l_315 0 0 g μ m141 := F138.t F143 rfl
                have p149 : LG g m141 := LG.fr p139 F143 rfl
                have b150 : 0 ≤ v146 ∧ v146 ≤ 24 := by
                  rw [← e147]
                  exact I142.int gA0 (by decide) (n := 69) rfl (by decide) rfl
                show ex_q (dt_fg L ρ) rc (d + 8, (315, 181, [some (eR a0), some (eI (a1)), some (eI (v18)), some (eI (v48)), some (eI (v62)), some (eI (v75))], [eI (v144)]), f :: F, m141)
                exact b_ri rfl rfl (K m141 (v144) I142 F148 (by omega))
            · have b131 : 0 ≤ v81 ∧ v81 ≤ 0 := by omega
              refine w_t (np := 5) (l2 := [some (eI (v81))]) (s2 := [eI (1)]) rfl rfl rfl ?_
              refine w_go (t1 := 9) rfl rfl ?_
              refine b_ri rfl rfl ?_
              show ex_q (dt_fg L ρ) rc (d + 8, (315, 166, [some (eR a0), some (eI (a1)), some (eI (v18)), some (eI (v48)), some (eI (v62)), some (eI (v75))], [eI (1), eI (v124), eI (v62), eI (v118), eI (v109), eI (v100), eI (v91), eI (v81), eR a0]), f :: F, m27)
              refine b_cne (t1 := 173) (t2 := 169) rfl rfl rfl (ev_w_in (by omega) (by omega)) rfl (fun g131 => ?_) (fun g131 => ?_)
              · refine w_t (np := 174) (l2 := [some (eR a0), some (eI (a1)), some (eI (v18)), some (eI (v48)), some (eI (v62)), some (eI (v75))]) (s2 := [eI (1), eI (v62), eI (v118), eI (v109), eI (v100), eI (v91), eI (v81), eR a0]) rfl rfl rfl ?_
                refine w_cw (np := 177) (as := [eI (v81), eI (v91), eI (v100), eI (v109), eI (v118), eI (v62), eI (1)]) (l2 := [some (eR a0), some (eI (v81)), some (eI (v91)), some (eI (v100)), some (eI (v109)), some (eI (v118)), some (eI (v62)), some (eI (1)), none]) (rest := []) rfl rfl rfl (Nat.ble_eq.mp rfl) rfl rfl rfl (I28.kd gA0 (by decide) (n := 69) rfl) rfl ?_
                refine s_312 (a1 := v81) (a2 := v91) (a3 := v100) (a4 := v109) (a5 := v118) (a6 := v62) (a7 := 1) I28 gA0 (by omega) (by omega) (by omega) (by omega) (by omega) (by omega) (by decide) (W29.slot (W24.slot e11 (by decide)) (by decide)) (by omega) ?_
                intro m132 v135 I133 F134 e136 h137
                have F138 : Fr l_315 0 0 g μ m132 := F30.t F134 rfl
                have p139 : LG g m132 := LG.fr p31 F134 rfl
                have b140 : 0 ≤ v135 ∧ v135 ≤ 24 := by
                  rw [← e136]
                  exact I133.int gA0 (by decide) (n := 69) rfl (by decide) rfl
                show ex_q (dt_fg L ρ) rc (d + 8, (315, 177, [some (eR a0), some (eI (a1)), some (eI (v18)), some (eI (v48)), some (eI (v62)), some (eI (v75))], []), f :: F, m132)
                refine w_t (np := 178) (l2 := [some (eR a0), some (eI (a1)), some (eI (v18)), some (eI (v48)), some (eI (v62)), some (eI (v75))]) (s2 := [eR a0]) rfl (s_an rfl (pos_g I133 gA0 (by decide))) rfl ?_
                refine w_cw (np := 181) (as := []) (l2 := [some (eR a0), none]) (rest := []) rfl rfl rfl (Nat.ble_eq.mp rfl) rfl rfl rfl (I133.kd gA0 (by decide) (n := 69) rfl) rfl ?_
                refine s_313 I133 gA0 e136 (by omega) ?_
                intro m141 v144 v146 I142 F143 b145 e147
                have F148 : Fr l_315 0 0 g μ m141 := F138.t F143 rfl
                have p149 : LG g m141 := LG.fr p139 F143 rfl
                have b150 : 0 ≤ v146 ∧ v146 ≤ 24 := by
                  rw [← e147]
                  exact I142.int gA0 (by decide) (n := 69) rfl (by decide) rfl
                show ex_q (dt_fg L ρ) rc (d + 8, (315, 181, [some (eR a0), some (eI (a1)), some (eI (v18)), some (eI (v48)), some (eI (v62)), some (eI (v75))], [eI (v144)]), f :: F, m141)
                exact b_ri rfl rfl (K m141 (v144) I142 F148 (by omega))
              · have b132 : 1 ≤ v124 ∧ v124 ≤ 1 := by omega
                refine w_t (np := 170) (l2 := [some (eR a0), some (eI (a1)), some (eI (v18)), some (eI (v48)), some (eI (v62)), some (eI (v75))]) (s2 := [eI (0), eI (v62), eI (v118), eI (v109), eI (v100), eI (v91), eI (v81), eR a0]) rfl rfl rfl ?_
                refine w_go (t1 := 174) rfl rfl ?_
                refine w_cw (np := 177) (as := [eI (v81), eI (v91), eI (v100), eI (v109), eI (v118), eI (v62), eI (0)]) (l2 := [some (eR a0), some (eI (v81)), some (eI (v91)), some (eI (v100)), some (eI (v109)), some (eI (v118)), some (eI (v62)), some (eI (0)), none]) (rest := []) rfl rfl rfl (Nat.ble_eq.mp rfl) rfl rfl rfl (I28.kd gA0 (by decide) (n := 69) rfl) rfl ?_
                refine s_312 (a1 := v81) (a2 := v91) (a3 := v100) (a4 := v109) (a5 := v118) (a6 := v62) (a7 := 0) I28 gA0 (by omega) (by omega) (by omega) (by omega) (by omega) (by omega) (by decide) (W29.slot (W24.slot e11 (by decide)) (by decide)) (by omega) ?_
                intro m132 v135 I133 F134 e136 h137
                have F138 : Fr l_315 0 0 g μ m132 := F30.t F134 rfl
                have p139 : LG g m132 := LG.fr p31 F134 rfl
                have b140 : 0 ≤ v135 ∧ v135 ≤ 24 := by
                  rw [← e136]
                  exact I133.int gA0 (by decide) (n := 69) rfl (by decide) rfl
                show ex_q (dt_fg L ρ) rc (d + 8, (315, 177, [some (eR a0), some (eI (a1)), some (eI (v18)), some (eI (v48)), some (eI (v62)), some (eI (v75))], []), f :: F, m132)
                refine w_t (np := 178) (l2 := [some (eR a0), some (eI (a1)), some (eI (v18)), some (eI (v48)), some (eI (v62)), some (eI (v75))]) (s2 := [eR a0]) rfl (s_an rfl (pos_g I133 gA0 (by decide))) rfl ?_
                refine w_cw (np := 181) (as := []) (l2 := [some (eR a0), none]) (rest := []) rfl rfl rfl (Nat.ble_eq.mp rfl) rfl rfl rfl (I133.kd gA0 (by decide) (n := 69) rfl) rfl ?_
                refine s_313 I133 gA0 e136 (by omega) ?_
                intro m141 v144 v146 I142 F143 b145 e147
                have F148 : Fr l_315 0 0 g μ m141 := F138.t F143 rfl
                have p149 : LG g m141 := LG.fr p139 F143 rfl
                have b150 : 0 ≤ v146 ∧ v146 ≤ 24 := by
                  rw [← e147]
                  exact I142.int gA0 (by decide) (n := 69) rfl (by decide) rfl
                show ex_q (dt_fg L ρ) rc (d + 8, (315, 181, [some (eR a0), some (eI (a1)), some (eI (v18)), some (eI (v48)), some (eI (v62)), some (eI (v75))], [eI (v144)]), f :: F, m141)
                exact b_ri rfl rfl (K m141 (v144) I142 F148 (by omega))
        · have b22 : -1 ≤ v18 ∧ v18 ≤ -1 := by omega
          refine w_t (np := 36) (l2 := [some (eR a0), some (eI (a1)), none, none, none, none]) (s2 := [eI (5), eR a0]) rfl rfl rfl ?_
          refine w_go (t1 := 40) rfl rfl ?_
          refine w_cw (np := 43) (as := [eI (5)]) (l2 := [some (eR a0), some (eI (5))]) (rest := []) rfl rfl rfl (Nat.ble_eq.mp rfl) rfl rfl rfl (hI.kd gA0 (by decide) (n := 69) rfl) rfl ?_
          refine w_t (np := 1) (l2 := [some (eR a0), some (eI (5))]) (s2 := [eR a0]) rfl (s_an rfl (pos_g hI gA0 (by decide))) rfl ?_
          refine w_t (np := 2) (l2 := [some (eR a0), some (eI (5))]) (s2 := [eI (0), eR a0]) rfl rfl rfl ?_
          refine j_pf (np := 5) (w := 0) rfl rfl hI gA0 (by decide) (n := 69) rfl rfl (hO_i (lo := -2147483648) (hi := 2147483647) rfl (by decide)) ?_
          intro m22 I23 W24
          have F25 : Fr l_315 0 0 g μ m22 := F0.w W24 gA0 rfl
          have p26 : LG g m22 := LG.fr h_LG (Fr.f W24 gA0) rfl
          refine w_t (np := 6) (l2 := [some (eR a0), some (eI (5))]) (s2 := [eR a0]) rfl (s_an rfl (pos_g I23 gA0 (by decide))) rfl ?_
          refine w_t (np := 7) (l2 := [some (eR a0), some (eI (5))]) (s2 := [eI (5), eR a0]) rfl rfl rfl ?_
          refine j_pf (np := 10) (w := 5) rfl rfl I23 gA0 (by decide) (n := 69) rfl rfl (hO_i (lo := -2147483648) (hi := 2147483647) rfl (by decide)) ?_
          intro m27 I28 W29
          have F30 : Fr l_315 0 0 g μ m27 := F25.w W29 gA0 rfl
          have p31 : LG g m27 := LG.fr p26 (Fr.f W29 gA0) rfl
          refine w_t (np := 11) (l2 := [some (eR a0), some (eI (5))]) (s2 := [eI (5)]) rfl rfl rfl ?_
          refine b_ine (t1 := 18) (t2 := 14) rfl rfl rfl rfl (fun g32 => ?_) (fun g32 => absurd g32 (by decide))
          refine w_t (np := 19) (l2 := [some (eR a0), some (eI (5))]) (s2 := [eI (0)]) rfl rfl rfl ?_
          refine b_rz rfl rfl (Or.inl rfl) ?_
          show ex_q (dt_fg L ρ) rc (d + 8, (315, 43, [some (eR a0), some (eI (a1)), none, none, none, none], [eI (0)]), f :: F, m27)
          refine b_ine (t1 := 48) (t2 := 46) rfl rfl rfl rfl (fun g33 => absurd g33 (by decide)) (fun g33 => ?_)
          refine w_t (np := 47) (l2 := [some (eR a0), some (eI (a1)), none, none, none, none]) (s2 := [eI (-1)]) rfl rfl rfl ?_
          exact b_ri rfl rfl (K m27 (-1) I28 F30 (by decide))
      · have b14 : 24 ≤ v10 ∧ v10 ≤ 24 := by omega
        refine w_t (np := 23) (l2 := [some (eR a0), some (eI (a1)), none, none, none, none]) (s2 := [eI (3), eR a0]) rfl rfl rfl ?_
        refine w_go (t1 := 40) rfl rfl ?_
        refine w_cw (np := 43) (as := [eI (3)]) (l2 := [some (eR a0), some (eI (3))]) (rest := []) rfl rfl rfl (Nat.ble_eq.mp rfl) rfl rfl rfl (hI.kd gA0 (by decide) (n := 69) rfl) rfl ?_
        refine w_t (np := 1) (l2 := [some (eR a0), some (eI (3))]) (s2 := [eR a0]) rfl (s_an rfl (pos_g hI gA0 (by decide))) rfl ?_
        refine w_t (np := 2) (l2 := [some (eR a0), some (eI (3))]) (s2 := [eI (0), eR a0]) rfl rfl rfl ?_
        refine j_pf (np := 5) (w := 0) rfl rfl hI gA0 (by decide) (n := 69) rfl rfl (hO_i (lo := -2147483648) (hi := 2147483647) rfl (by decide)) ?_
        intro m14 I15 W16
        have F17 : Fr l_315 0 0 g μ m14 := F0.w W16 gA0 rfl
        have p18 : LG g m14 := LG.fr h_LG (Fr.f W16 gA0) rfl
        refine w_t (np := 6) (l2 := [some (eR a0), some (eI (3))]) (s2 := [eR a0]) rfl (s_an rfl (pos_g I15 gA0 (by decide))) rfl ?_
        refine w_t (np := 7) (l2 := [some (eR a0), some (eI (3))]) (s2 := [eI (3), eR a0]) rfl rfl rfl ?_
        refine j_pf (np := 10) (w := 3) rfl rfl I15 gA0 (by decide) (n := 69) rfl rfl (hO_i (lo := -2147483648) (hi := 2147483647) rfl (by decide)) ?_
        intro m19 I20 W21
        have F22 : Fr l_315 0 0 g μ m19 := F17.w W21 gA0 rfl
        have p23 : LG g m19 := LG.fr p18 (Fr.f W21 gA0) rfl
        refine w_t (np := 11) (l2 := [some (eR a0), some (eI (3))]) (s2 := [eI (3)]) rfl rfl rfl ?_
        refine b_ine (t1 := 18) (t2 := 14) rfl rfl rfl rfl (fun g24 => ?_) (fun g24 => absurd g24 (by decide))
        refine w_t (np := 19) (l2 := [some (eR a0), some (eI (3))]) (s2 := [eI (0)]) rfl rfl rfl ?_
        refine b_rz rfl rfl (Or.inl rfl) ?_
        show ex_q (dt_fg L ρ) rc (d + 8, (315, 43, [some (eR a0), some (eI (a1)), none, none, none, none], [eI (0)]), f :: F, m19)
        refine b_ine (t1 := 48) (t2 := 46) rfl rfl rfl rfl (fun g25 => absurd g25 (by decide)) (fun g25 => ?_)
        refine w_t (np := 47) (l2 := [some (eR a0), some (eI (a1)), none, none, none, none]) (s2 := [eI (-1)]) rfl rfl rfl ?_
        exact b_ri rfl rfl (K m19 (-1) I20 F22 (by decide))
