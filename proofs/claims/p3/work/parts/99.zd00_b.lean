def l_293 : List Nat := [13313, 13314]
theorem s_293 {L : Nat} {ρ : Nat → Int} {rc : eQ} {d : Nat} {f : eFr} {F : List eFr} {μ : eM} {g : Nat → Nat} {a0 : Nat} {a1 : Int} (hI : SI g μ) (gA0 : g a0 = 52) (bA1 : -2147483648 ≤ a1 ∧ a1 ≤ 2147483647) (h_LG : LG g μ) (K : ∀ (μ2 : eM) (v : Int), SI g μ2 → Fr l_293 0 0 g μ μ2 → (-2147483648 ≤ v ∧ v ≤ 2147483647) → ex_q (dt_fg L ρ) rc (d + 5, (f.1, f.2.1, f.2.2.1, eI v :: f.2.2.2), F, μ2)) : ex_q (dt_fg L ρ) rc (d + 4, (293, 0, [some (eR a0), some (eI (a1)), none, none], []), f :: F, μ) := by
  have F0 : Fr l_293 0 0 g μ μ := Fr.r
  refine w_t (np := 1) (l2 := [some (eR a0), some (eI (a1)), none, none]) (s2 := [eR a0]) rfl (s_an rfl (pos_g hI gA0 (by decide))) rfl ?_
  refine w_t (np := 2) (l2 := [some (eR a0), some (eI (a1)), none, none]) (s2 := [eI (a1), eR a0]) rfl rfl rfl ?_
  refine w_t (np := 3) (l2 := [some (eR a0), some (eI (a1)), none, none]) (s2 := [eI (0), eI (a1), eR a0]) rfl rfl rfl ?_
  refine w_t (np := 4) (l2 := [some (eR a0), some (eI (a1)), none, none]) (s2 := [eI (4), eI (0), eI (a1), eR a0]) rfl rfl rfl ?_
  refine w_cu (np := 7) (as := [eI (a1), eI (0), eI (4)]) (l2 := [some (eI (a1)), some (eI (0)), some (eI (4))]) (rest := [eR a0]) rfl rfl rfl (Nat.ble_eq.mp rfl) rfl rfl rfl rfl ?_
  refine w_t (np := 1) (l2 := [some (eI (a1)), some (eI (0)), some (eI (4))]) (s2 := [eI (a1)]) rfl rfl rfl ?_
  refine w_t (np := 2) (l2 := [some (eI (a1)), some (eI (0)), some (eI (4))]) (s2 := [eI (0), eI (a1)]) rfl rfl rfl ?_
  refine b_clt (t1 := 14) (t2 := 5) rfl rfl rfl (ev_w_in (by omega) (by omega)) rfl (fun g1 => ?_) (fun g1 => ?_)
  · have b2 : -2147483648 ≤ a1 ∧ a1 ≤ -1 := by omega
    refine w_t (np := 15) (l2 := [some (eI (a1)), some (eI (0)), some (eI (4))]) (s2 := [eI (0)]) rfl rfl rfl ?_
    refine b_rz rfl rfl (Or.inl rfl) ?_
    show ex_q (dt_fg L ρ) rc (d + 4, (293, 7, [some (eR a0), some (eI (a1)), none, none], [eI (0), eR a0]), f :: F, μ)
    refine b_ieq (t1 := 14) (t2 := 10) rfl rfl rfl rfl (fun g2 => ?_) (fun g2 => absurd g2 (by decide))
    refine w_t (np := 15) (l2 := [some (eR a0), some (eI (a1)), none, none]) (s2 := [eI (1), eR a0]) rfl rfl rfl ?_
    refine w_cw (np := 18) (as := [eI (1)]) (l2 := [some (eR a0), some (eI (1))]) (rest := []) rfl rfl rfl (Nat.ble_eq.mp rfl) rfl rfl rfl (hI.kd gA0 (by decide) (n := 69) rfl) rfl ?_
    refine w_t (np := 1) (l2 := [some (eR a0), some (eI (1))]) (s2 := [eR a0]) rfl (s_an rfl (pos_g hI gA0 (by decide))) rfl ?_
    refine w_t (np := 2) (l2 := [some (eR a0), some (eI (1))]) (s2 := [eI (0), eR a0]) rfl rfl rfl ?_
    refine j_pf (np := 5) (w := 0) rfl rfl hI gA0 (by decide) (n := 69) rfl rfl (hO_i (lo := -2147483648) (hi := 2147483647) rfl (by decide)) ?_
    intro m3 I4 W5
    have F6 : Fr l_293 0 0 g μ m3 := F0.w W5 gA0 rfl
    have p7 : LG g m3 := LG.fr h_LG (Fr.f W5 gA0) rfl
    refine w_t (np := 6) (l2 := [some (eR a0), some (eI (1))]) (s2 := [eR a0]) rfl (s_an rfl (pos_g I4 gA0 (by decide))) rfl ?_
    refine w_t (np := 7) (l2 := [some (eR a0), some (eI (1))]) (s2 := [eI (1), eR a0]) rfl rfl rfl ?_
    refine j_pf (np := 10) (w := 1) rfl rfl I4 gA0 (by decide) (n := 69) rfl rfl (hO_i (lo := -2147483648) (hi := 2147483647) rfl (by decide)) ?_
    intro m8 I9 W10
    have F11 : Fr l_293 0 0 g μ m8 := F6.w W10 gA0 rfl
    have p12 : LG g m8 := LG.fr p7 (Fr.f W10 gA0) rfl
    refine w_t (np := 11) (l2 := [some (eR a0), some (eI (1))]) (s2 := [eI (1)]) rfl rfl rfl ?_
    refine b_ine (t1 := 18) (t2 := 14) rfl rfl rfl rfl (fun g13 => ?_) (fun g13 => absurd g13 (by decide))
    refine w_t (np := 19) (l2 := [some (eR a0), some (eI (1))]) (s2 := [eI (0)]) rfl rfl rfl ?_
    refine b_rz rfl rfl (Or.inl rfl) ?_
    show ex_q (dt_fg L ρ) rc (d + 4, (293, 18, [some (eR a0), some (eI (a1)), none, none], [eI (0)]), f :: F, m8)
    refine b_ine (t1 := 23) (t2 := 21) rfl rfl rfl rfl (fun g14 => absurd g14 (by decide)) (fun g14 => ?_)
    refine w_t (np := 22) (l2 := [some (eR a0), some (eI (a1)), none, none]) (s2 := [eI (-1)]) rfl rfl rfl ?_
    exact b_ri rfl rfl (K m8 (-1) I9 F11 (by decide))
  · have b2 : 0 ≤ a1 ∧ a1 ≤ 2147483647 := by omega
    refine w_t (np := 6) (l2 := [some (eI (a1)), some (eI (0)), some (eI (4))]) (s2 := [eI (a1)]) rfl rfl rfl ?_
    refine w_t (np := 7) (l2 := [some (eI (a1)), some (eI (0)), some (eI (4))]) (s2 := [eI (4), eI (a1)]) rfl rfl rfl ?_
    refine b_cgt (t1 := 14) (t2 := 10) rfl rfl rfl (ev_w_in (by omega) (by omega)) rfl (fun g2 => ?_) (fun g2 => ?_)
    · have b3 : 5 ≤ a1 ∧ a1 ≤ 2147483647 := by omega
      refine w_t (np := 15) (l2 := [some (eI (a1)), some (eI (0)), some (eI (4))]) (s2 := [eI (0)]) rfl rfl rfl ?_
      refine b_rz rfl rfl (Or.inl rfl) ?_
      show ex_q (dt_fg L ρ) rc (d + 4, (293, 7, [some (eR a0), some (eI (a1)), none, none], [eI (0), eR a0]), f :: F, μ)
      refine b_ieq (t1 := 14) (t2 := 10) rfl rfl rfl rfl (fun g3 => ?_) (fun g3 => absurd g3 (by decide))
      refine w_t (np := 15) (l2 := [some (eR a0), some (eI (a1)), none, none]) (s2 := [eI (1), eR a0]) rfl rfl rfl ?_
      refine w_cw (np := 18) (as := [eI (1)]) (l2 := [some (eR a0), some (eI (1))]) (rest := []) rfl rfl rfl (Nat.ble_eq.mp rfl) rfl rfl rfl (hI.kd gA0 (by decide) (n := 69) rfl) rfl ?_
      refine w_t (np := 1) (l2 := [some (eR a0), some (eI (1))]) (s2 := [eR a0]) rfl (s_an rfl (pos_g hI gA0 (by decide))) rfl ?_
      refine w_t (np := 2) (l2 := [some (eR a0), some (eI (1))]) (s2 := [eI (0), eR a0]) rfl rfl rfl ?_
      refine j_pf (np := 5) (w := 0) rfl rfl hI gA0 (by decide) (n := 69) rfl rfl (hO_i (lo := -2147483648) (hi := 2147483647) rfl (by decide)) ?_
      intro m4 I5 W6
      have F7 : Fr l_293 0 0 g μ m4 := F0.w W6 gA0 rfl
      have p8 : LG g m4 := LG.fr h_LG (Fr.f W6 gA0) rfl
      refine w_t (np := 6) (l2 := [some (eR a0), some (eI (1))]) (s2 := [eR a0]) rfl (s_an rfl (pos_g I5 gA0 (by decide))) rfl ?_
      refine w_t (np := 7) (l2 := [some (eR a0), some (eI (1))]) (s2 := [eI (1), eR a0]) rfl rfl rfl ?_
      refine j_pf (np := 10) (w := 1) rfl rfl I5 gA0 (by decide) (n := 69) rfl rfl (hO_i (lo := -2147483648) (hi := 2147483647) rfl (by decide)) ?_
      intro m9 I10 W11
      have F12 : Fr l_293 0 0 g μ m9 := F7.w W11 gA0 rfl
      have p13 : LG g m9 := LG.fr p8 (Fr.f W11 gA0) rfl
      refine w_t (np := 11) (l2 := [some (eR a0), some (eI (1))]) (s2 := [eI (1)]) rfl rfl rfl ?_
      refine b_ine (t1 := 18) (t2 := 14) rfl rfl rfl rfl (fun g14 => ?_) (fun g14 => absurd g14 (by decide))
      refine w_t (np := 19) (l2 := [some (eR a0), some (eI (1))]) (s2 := [eI (0)]) rfl rfl rfl ?_
      refine b_rz rfl rfl (Or.inl rfl) ?_
      show ex_q (dt_fg L ρ) rc (d + 4, (293, 18, [some (eR a0), some (eI (a1)), none, none], [eI (0)]), f :: F, m9)
      refine b_ine (t1 := 23) (t2 := 21) rfl rfl rfl rfl (fun g15 => absurd g15 (by decide)) (fun g15 => ?_)
      refine w_t (np := 22) (l2 := [some (eR a0), some (eI (a1)), none, none]) (s2 := [eI (-1)]) rfl rfl rfl ?_
      exact b_ri rfl rfl (K m9 (-1) I10 F12 (by decide))
    · have b3 : 0 ≤ a1 ∧ a1 ≤ 4 := by omega
      refine w_t (np := 11) (l2 := [some (eI (a1)), some (eI (0)), some (eI (4))]) (s2 := [eI (1)]) rfl rfl rfl ?_
      refine w_go (t1 := 15) rfl rfl ?_
      refine b_rz rfl rfl (Or.inr rfl) ?_
      show ex_q (dt_fg L ρ) rc (d + 4, (293, 7, [some (eR a0), some (eI (a1)), none, none], [eI (1), eR a0]), f :: F, μ)
      refine b_ieq (t1 := 14) (t2 := 10) rfl rfl rfl rfl (fun g3 => absurd g3 (by decide)) (fun g3 => ?_)
      refine w_t (np := 11) (l2 := [some (eR a0), some (eI (a1)), none, none]) (s2 := [eI (0), eR a0]) rfl rfl rfl ?_
      refine w_go (t1 := 15) rfl rfl ?_
      refine w_cw (np := 18) (as := [eI (0)]) (l2 := [some (eR a0), some (eI (0))]) (rest := []) rfl rfl rfl (Nat.ble_eq.mp rfl) rfl rfl rfl (hI.kd gA0 (by decide) (n := 69) rfl) rfl ?_
      refine w_t (np := 1) (l2 := [some (eR a0), some (eI (0))]) (s2 := [eR a0]) rfl (s_an rfl (pos_g hI gA0 (by decide))) rfl ?_
      refine w_t (np := 2) (l2 := [some (eR a0), some (eI (0))]) (s2 := [eI (0), eR a0]) rfl rfl rfl ?_
      refine j_pf (np := 5) (w := 0) rfl rfl hI gA0 (by decide) (n := 69) rfl rfl (hO_i (lo := -2147483648) (hi := 2147483647) rfl (by decide)) ?_
      intro m4 I5 W6
      have F7 : Fr l_293 0 0 g μ m4 := F0.w W6 gA0 rfl
      have p8 : LG g m4 := LG.fr h_LG (Fr.f W6 gA0) rfl
      refine w_t (np := 6) (l2 := [some (eR a0), some (eI (0))]) (s2 := [eR a0]) rfl (s_an rfl (pos_g I5 gA0 (by decide))) rfl ?_
      refine w_t (np := 7) (l2 := [some (eR a0), some (eI (0))]) (s2 := [eI (0), eR a0]) rfl rfl rfl ?_
      refine j_pf (np := 10) (w := 0) rfl rfl I5 gA0 (by decide) (n := 69) rfl rfl (hO_i (lo := -2147483648) (hi := 2147483647) rfl (by decide)) ?_
      intro m9 I10 W11
      have F12 : Fr l_293 0 0 g μ m9 := F7.w W11 gA0 rfl
      have p13 : LG g m9 := LG.fr p8 (Fr.f W11 gA0) rfl
      refine w_t (np := 11) (l2 := [some (eR a0), some (eI (0))]) (s2 := [eI (0)]) rfl rfl rfl ?_
      refine b_ine (t1 := 18) (t2 := 14) rfl rfl rfl rfl (fun g14 => absurd g14 (by decide)) (fun g14 => ?_)
      refine w_t (np := 15) (l2 := [some (eR a0), some (eI (0))]) (s2 := [eI (1)]) rfl rfl rfl ?_
      refine w_go (t1 := 19) rfl rfl ?_
      refine b_rz rfl rfl (Or.inr rfl) ?_
      show ex_q (dt_fg L ρ) rc (d + 4, (293, 18, [some (eR a0), some (eI (a1)), none, none], [eI (1)]), f :: F, m9)
      refine b_ine (t1 := 23) (t2 := 21) rfl rfl rfl rfl (fun g15 => ?_) (fun g15 => absurd g15 (by decide))
      refine w_t (np := 24) (l2 := [some (eR a0), some (eI (a1)), none, none]) (s2 := [eI (0)]) rfl rfl rfl ?_
      refine w_t (np := 25) (l2 := [some (eR a0), some (eI (a1)), some (eI (0)), none]) (s2 := []) rfl rfl rfl ?_
      refine w_t (np := 26) (l2 := [some (eR a0), some (eI (a1)), some (eI (0)), none]) (s2 := [eI (0)]) rfl rfl rfl ?_
      refine w_t (np := 27) (l2 := [some (eR a0), some (eI (a1)), some (eI (0)), some (eI (0))]) (s2 := []) rfl rfl rfl ?_
      have hL27 : ∀ (n16 : Nat) (m22 : eM) (i18 : Int) (i20 : Int), SI g m22 → Fr l_293 0 0 g μ m22 → (-2147483648 ≤ i18 ∧ i18 ≤ 2147483647) → (0 ≤ i20 ∧ i20 ≤ 890) → m22.1 a0 1 = 0 → m22.1 a0 0 = 0 → LG g m22 → n16 = (890 - i20).toNat → ex_q (dt_fg L ρ) rc (d + 4, (293, 27, [some (eR a0), some (eI (a1)), some (eI (i18)), some (eI (i20))], []), f :: F, m22) := by
        intro n16
        induction n16 using Nat.strongRecOn with
        | _ n16 ih17 =>
        intro m22 i18 i20 I23 F24 b19 b21 k25 k26 p27 hn28
        refine w_t (np := 28) (l2 := [some (eR a0), some (eI (a1)), some (eI (i18)), some (eI (i20))]) (s2 := [eI (i20)]) rfl rfl rfl ?_
        refine w_t (np := 29) (l2 := [some (eR a0), some (eI (a1)), some (eI (i18)), some (eI (i20))]) (s2 := [eR a0, eI (i20)]) rfl (s_an rfl (pos_g I23 gA0 (by decide))) rfl ?_
        refine j_gi (np := 32) rfl rfl rfl I23 gA0 (by decide) (n := 69) rfl rfl (lo := 0) (hi := 890) rfl ?_
        intro v29 e30 b31
        refine b_cge (t1 := 105) (t2 := 35) rfl rfl rfl (ev_w_in (by omega) (by omega)) (ev_w_in (by omega) (by omega)) (fun g32 => ?_) (fun g32 => ?_)
        · refine w_t (np := 106) (l2 := [some (eR a0), some (eI (a1)), some (eI (i18)), some (eI (i20))]) (s2 := [eI (i18)]) rfl rfl rfl ?_
          exact b_ri rfl rfl (K m22 (i18) I23 F24 (by omega))
        · have b33 : 0 ≤ i20 ∧ i20 ≤ 889 := by omega
          have b34 : 1 ≤ v29 ∧ v29 ≤ 890 := by omega
          refine w_t (np := 36) (l2 := [some (eR a0), some (eI (a1)), some (eI (i18)), some (eI (i20))]) (s2 := [eR a0]) rfl (s_an rfl (pos_g I23 gA0 (by decide))) rfl ?_
          refine j_gr (np := 39) rfl rfl I23 gA0 (by decide) (n := 69) rfl rfl rfl ?_
          intro v33 e34 b35 z36
          have b35 : g v33 = 68 := Nat.eq_of_beq_eq_true b35
          refine w_t (np := 40) (l2 := [some (eR a0), some (eI (a1)), some (eI (i18)), some (eI (i20))]) (s2 := [eI (i20), eR v33]) rfl rfl rfl ?_
          refine j_al (np := 41) rfl rfl I23 b35 (by decide) (n := 890) rfl rfl (lo := -1) (hi := 889) (fun _ => rfl) (by omega) (by omega) ?_
          intro v37 e38 b39
          refine b_ilt (t1 := 54) (t2 := 44) rfl rfl rfl (ev_w_in (by omega) (by omega)) (fun g40 => ?_) (fun g40 => ?_)
          · have b41 : -1 ≤ v37 ∧ v37 ≤ -1 := by omega
            refine w_t (np := 55) (l2 := [some (eR a0), some (eI (a1)), some (eI (i18)), some (eI (i20))]) (s2 := [eR a0]) rfl (s_an rfl (pos_g I23 gA0 (by decide))) rfl ?_
            refine w_t (np := 56) (l2 := [some (eR a0), some (eI (a1)), some (eI (i18)), some (eI (i20))]) (s2 := [eI (i20), eR a0]) rfl rfl rfl ?_
            refine w_t (np := 57) (l2 := [some (eR a0), some (eI (a1)), some (eI (i18)), some (eI (i20))]) (s2 := [eI (1), eI (i20), eR a0]) rfl rfl rfl ?_
            refine w_t (np := 58) (l2 := [some (eR a0), some (eI (a1)), some (eI (i18)), some (eI (i20))]) (s2 := [eI (a1), eI (1), eI (i20), eR a0]) rfl rfl rfl ?_
            refine w_cw (np := 61) (as := [eI (i20), eI (1), eI (a1)]) (l2 := [some (eR a0), some (eI (i20)), some (eI (1)), some (eI (a1))]) (rest := []) rfl rfl rfl (Nat.ble_eq.mp rfl) rfl rfl rfl (I23.kd gA0 (by decide) (n := 69) rfl) rfl ?_
            refine s_288 (a1 := i20) (a2 := 1) (a3 := a1) I23 gA0 (by omega) (by decide) (by omega) e30 p27 (by omega) ?_
            intro v41 b42
            show ex_q (dt_fg L ρ) rc (d + 4, (293, 61, [some (eR a0), some (eI (a1)), some (eI (i18)), some (eI (i20))], [eI (v41)]), f :: F, m22)
            refine b_ieq (t1 := 67) (t2 := 64) rfl rfl rfl (ev_w_in (by omega) (by omega)) (fun g43 => ?_) (fun g43 => ?_)
            · have b44 : 0 ≤ v41 ∧ v41 ≤ 0 := by omega
              refine w_t (np := 68) (l2 := [some (eR a0), some (eI (a1)), some (eI (i18)), some (eI (i20))]) (s2 := [eR a0]) rfl (s_an rfl (pos_g I23 gA0 (by decide))) rfl ?_
              refine j_gr (np := 71) rfl rfl I23 gA0 (by decide) (n := 69) rfl rfl rfl ?_
              intro v44 e45 b46 z47
              have b46 : g v44 = 69 := Nat.eq_of_beq_eq_true b46
              refine w_t (np := 72) (l2 := [some (eR a0), some (eI (a1)), some (eI (i18)), some (eI (i20))]) (s2 := [eI (i20), eR v44]) rfl rfl rfl ?_
              refine j_al (np := 73) rfl rfl I23 b46 (by decide) (n := 890) rfl rfl (lo := -1) (hi := 889) (fun _ => rfl) (by omega) (by omega) ?_
              intro v48 e49 b50
              refine b_ilt (t1 := 86) (t2 := 76) rfl rfl rfl (ev_w_in (by omega) (by omega)) (fun g51 => ?_) (fun g51 => ?_)
              · have b52 : -1 ≤ v48 ∧ v48 ≤ -1 := by omega
                refine w_t (np := 87) (l2 := [some (eR a0), some (eI (a1)), some (eI (i18)), some (eI (i20))]) (s2 := [eR a0]) rfl (s_an rfl (pos_g I23 gA0 (by decide))) rfl ?_
                refine w_t (np := 88) (l2 := [some (eR a0), some (eI (a1)), some (eI (i18)), some (eI (i20))]) (s2 := [eI (i20), eR a0]) rfl rfl rfl ?_
                refine w_t (np := 89) (l2 := [some (eR a0), some (eI (a1)), some (eI (i18)), some (eI (i20))]) (s2 := [eI (0), eI (i20), eR a0]) rfl rfl rfl ?_
                refine w_t (np := 90) (l2 := [some (eR a0), some (eI (a1)), some (eI (i18)), some (eI (i20))]) (s2 := [eI (a1), eI (0), eI (i20), eR a0]) rfl rfl rfl ?_
                refine w_cw (np := 93) (as := [eI (i20), eI (0), eI (a1)]) (l2 := [some (eR a0), some (eI (i20)), some (eI (0)), some (eI (a1))]) (rest := []) rfl rfl rfl (Nat.ble_eq.mp rfl) rfl rfl rfl (I23.kd gA0 (by decide) (n := 69) rfl) rfl ?_
                refine s_288 (a1 := i20) (a2 := 0) (a3 := a1) I23 gA0 (by omega) (by decide) (by omega) e30 p27 (by omega) ?_
                intro v52 b53
                show ex_q (dt_fg L ρ) rc (d + 4, (293, 93, [some (eR a0), some (eI (a1)), some (eI (i18)), some (eI (i20))], [eI (v52)]), f :: F, m22)
                refine b_ieq (t1 := 99) (t2 := 96) rfl rfl rfl (ev_w_in (by omega) (by omega)) (fun g54 => ?_) (fun g54 => ?_)
                · have b55 : 0 ≤ v52 ∧ v52 ≤ 0 := by omega
                  obtain ⟨v55, e56⟩ : ∃ zz : Int, zz = (i20) + (1) := ⟨_, rfl⟩
                  have b57 : 1 ≤ v55 ∧ v55 ≤ 890 := by omega
                  refine w_t (np := 102) (l2 := [some (eR a0), some (eI (a1)), some (eI (i18)), some (eI (v55))]) (s2 := []) rfl (b_iinc rfl (by rw [← e56]; exact ev_w_in (by omega) (by omega)) rfl) rfl ?_
                  refine w_go (t1 := 27) rfl rfl ?_
                  exact ih17 (890 - (v55)).toNat (by omega) m22 (i18) (v55) I23 F24 (by omega) (by omega) k25 k26  p27  rfl
                · have b55 : 1 ≤ v52 ∧ v52 ≤ 1 := by omega
                  obtain ⟨v55, e56, b57⟩ : ∃ zz : Int, ev_w ((i18) + (1)) = zz ∧ (-2147483648 ≤ zz ∧ zz ≤ 2147483647) := ⟨_, rfl, hw_bd _⟩
                  refine w_t (np := 99) (l2 := [some (eR a0), some (eI (a1)), some (eI (v55)), some (eI (i20))]) (s2 := []) rfl (b_iinc rfl e56 rfl) rfl ?_
                  obtain ⟨v58, e59⟩ : ∃ zz : Int, zz = (i20) + (1) := ⟨_, rfl⟩
                  have b60 : 1 ≤ v58 ∧ v58 ≤ 890 := by omega
                  refine w_t (np := 102) (l2 := [some (eR a0), some (eI (a1)), some (eI (v55)), some (eI (v58))]) (s2 := []) rfl (b_iinc rfl (by rw [← e59]; exact ev_w_in (by omega) (by omega)) rfl) rfl ?_
                  refine w_go (t1 := 27) rfl rfl ?_
                  exact ih17 (890 - (v58)).toNat (by omega) m22 (v55) (v58) I23 F24 (by omega) (by omega) k25 k26  p27  rfl
              · have b52 : 0 ≤ v48 ∧ v48 ≤ 889 := by omega
                refine w_t (np := 77) (l2 := [some (eR a0), some (eI (a1)), some (eI (i18)), some (eI (i20))]) (s2 := [eR a0]) rfl (s_an rfl (pos_g I23 gA0 (by decide))) rfl ?_
                refine w_gf (np := 80) (v := eR v44) rfl rfl (I23.kd gA0 (by decide) (n := 69) rfl) (by rw [e45]; rfl) ?_
                refine w_t (np := 81) (l2 := [some (eR a0), some (eI (a1)), some (eI (i18)), some (eI (i20))]) (s2 := [eI (i20), eR v44]) rfl rfl rfl ?_
                refine j_al (np := 82) rfl rfl I23 b46 (by decide) (n := 890) rfl rfl (lo := -1) (hi := 889) (fun _ => rfl) (by omega) (by omega) ?_
                intro v52 e53 b54
                have e53 := e53.symm.trans e49
                rw [e53]
                refine w_t (np := 83) (l2 := [some (eR a0), some (eI (a1)), some (eI (i18)), some (eI (i20))]) (s2 := [eI (i20), eI (v48)]) rfl rfl rfl ?_
                refine b_clt (t1 := 99) (t2 := 86) rfl rfl rfl (ev_w_in (by omega) (by omega)) (ev_w_in (by omega) (by omega)) (fun g55 => ?_) (fun g55 => ?_)
                · have b56 : 0 ≤ v48 ∧ v48 ≤ 888 := by omega
                  have b57 : 1 ≤ i20 ∧ i20 ≤ 889 := by omega
                  obtain ⟨v56, e57⟩ : ∃ zz : Int, zz = (i20) + (1) := ⟨_, rfl⟩
                  have b58 : 2 ≤ v56 ∧ v56 ≤ 890 := by omega
                  refine w_t (np := 102) (l2 := [some (eR a0), some (eI (a1)), some (eI (i18)), some (eI (v56))]) (s2 := []) rfl (b_iinc rfl (by rw [← e57]; exact ev_w_in (by omega) (by omega)) rfl) rfl ?_
                  refine w_go (t1 := 27) rfl rfl ?_
                  exact ih17 (890 - (v56)).toNat (by omega) m22 (i18) (v56) I23 F24 (by omega) (by omega) k25 k26  p27  rfl
                · refine w_t (np := 87) (l2 := [some (eR a0), some (eI (a1)), some (eI (i18)), some (eI (i20))]) (s2 := [eR a0]) rfl (s_an rfl (pos_g I23 gA0 (by decide))) rfl ?_
                  refine w_t (np := 88) (l2 := [some (eR a0), some (eI (a1)), some (eI (i18)), some (eI (i20))]) (s2 := [eI (i20), eR a0]) rfl rfl rfl ?_
                  refine w_t (np := 89) (l2 := [some (eR a0), some (eI (a1)), some (eI (i18)), some (eI (i20))]) (s2 := [eI (0), eI (i20), eR a0]) rfl rfl rfl ?_
                  refine w_t (np := 90) (l2 := [some (eR a0), some (eI (a1)), some (eI (i18)), some (eI (i20))]) (s2 := [eI (a1), eI (0), eI (i20), eR a0]) rfl rfl rfl ?_
                  refine w_cw (np := 93) (as := [eI (i20), eI (0), eI (a1)]) (l2 := [some (eR a0), some (eI (i20)), some (eI (0)), some (eI (a1))]) (rest := []) rfl rfl rfl (Nat.ble_eq.mp rfl) rfl rfl rfl (I23.kd gA0 (by decide) (n := 69) rfl) rfl ?_
                  refine s_288 (a1 := i20) (a2 := 0) (a3 := a1) I23 gA0 (by omega) (by decide) (by omega) e30 p27 (by omega) ?_
                  intro v56 b57
                  show ex_q (dt_fg L ρ) rc (d + 4, (293, 93, [some (eR a0), some (eI (a1)), some (eI (i18)), some (eI (i20))], [eI (v56)]), f :: F, m22)
                  refine b_ieq (t1 := 99) (t2 := 96) rfl rfl rfl (ev_w_in (by omega) (by omega)) (fun g58 => ?_) (fun g58 => ?_)
                  · have b59 : 0 ≤ v56 ∧ v56 ≤ 0 := by omega
                    obtain ⟨v59, e60⟩ : ∃ zz : Int, zz = (i20) + (1) := ⟨_, rfl⟩
                    have b61 : 1 ≤ v59 ∧ v59 ≤ 890 := by omega
                    refine w_t (np := 102) (l2 := [some (eR a0), some (eI (a1)), some (eI (i18)), some (eI (v59))]) (s2 := []) rfl (b_iinc rfl (by rw [← e60]; exact ev_w_in (by omega) (by omega)) rfl) rfl ?_
                    refine w_go (t1 := 27) rfl rfl ?_
                    exact ih17 (890 - (v59)).toNat (by omega) m22 (i18) (v59) I23 F24 (by omega) (by omega) k25 k26  p27  rfl
                  · have b59 : 1 ≤ v56 ∧ v56 ≤ 1 := by omega
                    obtain ⟨v59, e60, b61⟩ : ∃ zz : Int, ev_w ((i18) + (1)) = zz ∧ (-2147483648 ≤ zz ∧ zz ≤ 2147483647) := ⟨_, rfl, hw_bd _⟩
                    refine w_t (np := 99) (l2 := [some (eR a0), some (eI (a1)), some (eI (v59)), some (eI (i20))]) (s2 := []) rfl (b_iinc rfl e60 rfl) rfl ?_
                    obtain ⟨v62, e63⟩ : ∃ zz : Int, zz = (i20) + (1) := ⟨_, rfl⟩
                    have b64 : 1 ≤ v62 ∧ v62 ≤ 890 := by omega
                    refine w_t (np := 102) (l2 := [some (eR a0), some (eI (a1)), some (eI (v59)), some (eI (v62))]) (s2 := []) rfl (b_iinc rfl (by rw [← e63]; exact ev_w_in (by omega) (by omega)) rfl) rfl ?_
                    refine w_go (t1 := 27) rfl rfl ?_
                    exact ih17 (890 - (v62)).toNat (by omega) m22 (v59) (v62) I23 F24 (by omega) (by omega) k25 k26  p27  rfl
            · have b44 : 1 ≤ v41 ∧ v41 ≤ 1 := by omega
              obtain ⟨v44, e45, b46⟩ : ∃ zz : Int, ev_w ((i18) + (1)) = zz ∧ (-2147483648 ≤ zz ∧ zz ≤ 2147483647) := ⟨_, rfl, hw_bd _⟩
              refine w_t (np := 67) (l2 := [some (eR a0), some (eI (a1)), some (eI (v44)), some (eI (i20))]) (s2 := []) rfl (b_iinc rfl e45 rfl) rfl ?_
              refine w_t (np := 68) (l2 := [some (eR a0), some (eI (a1)), some (eI (v44)), some (eI (i20))]) (s2 := [eR a0]) rfl (s_an rfl (pos_g I23 gA0 (by decide))) rfl ?_
              refine j_gr (np := 71) rfl rfl I23 gA0 (by decide) (n := 69) rfl rfl rfl ?_
              intro v47 e48 b49 z50
              have b49 : g v47 = 69 := Nat.eq_of_beq_eq_true b49
              refine w_t (np := 72) (l2 := [some (eR a0), some (eI (a1)), some (eI (v44)), some (eI (i20))]) (s2 := [eI (i20), eR v47]) rfl rfl rfl ?_
              refine j_al (np := 73) rfl rfl I23 b49 (by decide) (n := 890) rfl rfl (lo := -1) (hi := 889) (fun _ => rfl) (by omega) (by omega) ?_
              intro v51 e52 b53
              refine b_ilt (t1 := 86) (t2 := 76) rfl rfl rfl (ev_w_in (by omega) (by omega)) (fun g54 => ?_) (fun g54 => ?_)
              · have b55 : -1 ≤ v51 ∧ v51 ≤ -1 := by omega
                refine w_t (np := 87) (l2 := [some (eR a0), some (eI (a1)), some (eI (v44)), some (eI (i20))]) (s2 := [eR a0]) rfl (s_an rfl (pos_g I23 gA0 (by decide))) rfl ?_
                refine w_t (np := 88) (l2 := [some (eR a0), some (eI (a1)), some (eI (v44)), some (eI (i20))]) (s2 := [eI (i20), eR a0]) rfl rfl rfl ?_
                refine w_t (np := 89) (l2 := [some (eR a0), some (eI (a1)), some (eI (v44)), some (eI (i20))]) (s2 := [eI (0), eI (i20), eR a0]) rfl rfl rfl ?_
                refine w_t (np := 90) (l2 := [some (eR a0), some (eI (a1)), some (eI (v44)), some (eI (i20))]) (s2 := [eI (a1), eI (0), eI (i20), eR a0]) rfl rfl rfl ?_
                refine w_cw (np := 93) (as := [eI (i20), eI (0), eI (a1)]) (l2 := [some (eR a0), some (eI (i20)), some (eI (0)), some (eI (a1))]) (rest := []) rfl rfl rfl (Nat.ble_eq.mp rfl) rfl rfl rfl (I23.kd gA0 (by decide) (n := 69) rfl) rfl ?_
                refine s_288 (a1 := i20) (a2 := 0) (a3 := a1) I23 gA0 (by omega) (by decide) (by omega) e30 p27 (by omega) ?_
                intro v55 b56
                show ex_q (dt_fg L ρ) rc (d + 4, (293, 93, [some (eR a0), some (eI (a1)), some (eI (v44)), some (eI (i20))], [eI (v55)]), f :: F, m22)
                refine b_ieq (t1 := 99) (t2 := 96) rfl rfl rfl (ev_w_in (by omega) (by omega)) (fun g57 => ?_) (fun g57 => ?_)
                · have b58 : 0 ≤ v55 ∧ v55 ≤ 0 := by omega
                  obtain ⟨v58, e59⟩ : ∃ zz : Int, zz = (i20) + (1) := ⟨_, rfl⟩
                  have b60 : 1 ≤ v58 ∧ v58 ≤ 890 := by omega
                  refine w_t (np := 102) (l2 := [some (eR a0), some (eI (a1)), some (eI (v44)), some (eI (v58))]) (s2 := []) rfl (b_iinc rfl (by rw [← e59]; exact ev_w_in (by omega) (by omega)) rfl) rfl ?_
                  refine w_go (t1 := 27) rfl rfl ?_
                  exact ih17 (890 - (v58)).toNat (by omega) m22 (v44) (v58) I23 F24 (by omega) (by omega) k25 k26  p27  rfl
                · have b58 : 1 ≤ v55 ∧ v55 ≤ 1 := by omega
                  obtain ⟨v58, e59, b60⟩ : ∃ zz : Int, ev_w ((v44) + (1)) = zz ∧ (-2147483648 ≤ zz ∧ zz ≤ 2147483647) := ⟨_, rfl, hw_bd _⟩
                  refine w_t (np := 99) (l2 := [some (eR a0), some (eI (a1)), some (eI (v58)), some (eI (i20))]) (s2 := []) rfl (b_iinc rfl e59 rfl) rfl ?_
                  obtain ⟨v61, e62⟩ : ∃ zz : Int, zz = (i20) + (1) := ⟨_, rfl⟩
                  have b63 : 1 ≤ v61 ∧ v61 ≤ 890 := by omega
                  refine w_t (np := 102) (l2 := [some (eR a0), some (eI (a1)), some (eI (v58)), some (eI (v61))]) (s2 := []) rfl (b_iinc rfl (by rw [← e62]; exact ev_w_in (by omega) (by omega)) rfl) rfl ?_
                  refine w_go (t1 := 27) rfl rfl ?_
                  exact ih17 (890 - (v61)).toNat (by omega) m22 (v58) (v61) I23 F24 (by omega) (by omega) k25 k26  p27  rfl
              · have b55 : 0 ≤ v51 ∧ v51 ≤ 889 := by omega
                refine w_t (np := 77) (l2 := [some (eR a0), some (eI (a1)), some (eI (v44)), some (eI (i20))]) (s2 := [eR a0]) rfl (s_an rfl (pos_g I23 gA0 (by decide))) rfl ?_
                refine w_gf (np := 80) (v := eR v47) rfl rfl (I23.kd gA0 (by decide) (n := 69) rfl) (by rw [e48]; rfl) ?_
                refine w_t (np := 81) (l2 := [some (eR a0), some (eI (a1)), some (eI (v44)), some (eI (i20))]) (s2 := [eI (i20), eR v47]) rfl rfl rfl ?_
                refine j_al (np := 82) rfl rfl I23 b49 (by decide) (n := 890) rfl rfl (lo := -1) (hi := 889) (fun _ => rfl) (by omega) (by omega) ?_
                intro v55 e56 b57
                have e56 := e56.symm.trans e52
                rw [e56]
                refine w_t (np := 83) (l2 := [some (eR a0), some (eI (a1)), some (eI (v44)), some (eI (i20))]) (s2 := [eI (i20), eI (v51)]) rfl rfl rfl ?_
                refine b_clt (t1 := 99) (t2 := 86) rfl rfl rfl (ev_w_in (by omega) (by omega)) (ev_w_in (by omega) (by omega)) (fun g58 => ?_) (fun g58 => ?_)
                · have b59 : 0 ≤ v51 ∧ v51 ≤ 888 := by omega
                  have b60 : 1 ≤ i20 ∧ i20 ≤ 889 := by omega
                  obtain ⟨v59, e60⟩ : ∃ zz : Int, zz = (i20) + (1) := ⟨_, rfl⟩
                  have b61 : 2 ≤ v59 ∧ v59 ≤ 890 := by omega
                  refine w_t (np := 102) (l2 := [some (eR a0), some (eI (a1)), some (eI (v44)), some (eI (v59))]) (s2 := []) rfl (b_iinc rfl (by rw [← e60]; exact ev_w_in (by omega) (by omega)) rfl) rfl ?_
                  refine w_go (t1 := 27) rfl rfl ?_
                  exact ih17 (890 - (v59)).toNat (by omega) m22 (v44) (v59) I23 F24 (by omega) (by omega) k25 k26  p27  rfl
                · refine w_t (np := 87) (l2 := [some (eR a0), some (eI (a1)), some (eI (v44)), some (eI (i20))]) (s2 := [eR a0]) rfl (s_an rfl (pos_g I23 gA0 (by decide))) rfl ?_
                  refine w_t (np := 88) (l2 := [some (eR a0), some (eI (a1)), some (eI (v44)), some (eI (i20))]) (s2 := [eI (i20), eR a0]) rfl rfl rfl ?_
                  refine w_t (np := 89) (l2 := [some (eR a0), some (eI (a1)), some (eI (v44)), some (eI (i20))]) (s2 := [eI (0), eI (i20), eR a0]) rfl rfl rfl ?_
                  refine w_t (np := 90) (l2 := [some (eR a0), some (eI (a1)), some (eI (v44)), some (eI (i20))]) (s2 := [eI (a1), eI (0), eI (i20), eR a0]) rfl rfl rfl ?_
                  refine w_cw (np := 93) (as := [eI (i20), eI (0), eI (a1)]) (l2 := [some (eR a0), some (eI (i20)), some (eI (0)), some (eI (a1))]) (rest := []) rfl rfl rfl (Nat.ble_eq.mp rfl) rfl rfl rfl (I23.kd gA0 (by decide) (n := 69) rfl) rfl ?_
                  refine s_288 (a1 := i20) (a2 := 0) (a3 := a1) I23 gA0 (by omega) (by decide) (by omega) e30 p27 (by omega) ?_
                  intro v59 b60
                  show ex_q (dt_fg L ρ) rc (d + 4, (293, 93, [some (eR a0), some (eI (a1)), some (eI (v44)), some (eI (i20))], [eI (v59)]), f :: F, m22)
                  refine b_ieq (t1 := 99) (t2 := 96) rfl rfl rfl (ev_w_in (by omega) (by omega)) (fun g61 => ?_) (fun g61 => ?_)
                  · have b62 : 0 ≤ v59 ∧ v59 ≤ 0 := by omega
                    obtain ⟨v62, e63⟩ : ∃ zz : Int, zz = (i20) + (1) := ⟨_, rfl⟩
                    have b64 : 1 ≤ v62 ∧ v62 ≤ 890 := by omega
                    refine w_t (np := 102) (l2 := [some (eR a0), some (eI (a1)), some (eI (v44)), some (eI (v62))]) (s2 := []) rfl (b_iinc rfl (by rw [← e63]; exact ev_w_in (by omega) (by omega)) rfl) rfl ?_
                    refine w_go (t1 := 27) rfl rfl ?_
                    exact ih17 (890 - (v62)).toNat (by omega) m22 (v44) (v62) I23 F24 (by omega) (by omega) k25 k26  p27  rfl
                  · have b62 : 1 ≤ v59 ∧ v59 ≤ 1 := by omega
                    obtain ⟨v62, e63, b64⟩ : ∃ zz : Int, ev_w ((v44) + (1)) = zz ∧ (-2147483648 ≤ zz ∧ zz ≤ 2147483647) := ⟨_, rfl, hw_bd _⟩
                    refine w_t (np := 99) (l2 := [some (eR a0), some (eI (a1)), some (eI (v62)), some (eI (i20))]) (s2 := []) rfl (b_iinc rfl e63 rfl) rfl ?_
                    obtain ⟨v65, e66⟩ : ∃ zz : Int, zz = (i20) + (1) := ⟨_, rfl⟩
                    have b67 : 1 ≤ v65 ∧ v65 ≤ 890 := by omega
                    refine w_t (np := 102) (l2 := [some (eR a0), some (eI (a1)), some (eI (v62)), some (eI (v65))]) (s2 := []) rfl (b_iinc rfl (by rw [← e66]; exact ev_w_in (by omega) (by omega)) rfl) rfl ?_
                    refine w_go (t1 := 27) rfl rfl ?_
                    exact ih17 (890 - (v65)).toNat (by omega) m22 (v62) (v65) I23 F24 (by omega) (by omega) k25 k26  p27  rfl
          · have b41 : 0 ≤ v37 ∧ v37 ≤ 889 := by omega
            refine w_t (np := 45) (l2 := [some (eR a0), some (eI (a1)), some (eI (i18)), some (eI (i20))]) (s2 := [eR a0]) rfl (s_an rfl (pos_g I23 gA0 (by decide))) rfl ?_
            refine w_gf (np := 48) (v := eR v33) rfl rfl (I23.kd gA0 (by decide) (n := 69) rfl) (by rw [e34]; rfl) ?_
            refine w_t (np := 49) (l2 := [some (eR a0), some (eI (a1)), some (eI (i18)), some (eI (i20))]) (s2 := [eI (i20), eR v33]) rfl rfl rfl ?_
            refine j_al (np := 50) rfl rfl I23 b35 (by decide) (n := 890) rfl rfl (lo := -1) (hi := 889) (fun _ => rfl) (by omega) (by omega) ?_
            intro v41 e42 b43
            have e42 := e42.symm.trans e38
            rw [e42]
            refine w_t (np := 51) (l2 := [some (eR a0), some (eI (a1)), some (eI (i18)), some (eI (i20))]) (s2 := [eI (i20), eI (v37)]) rfl rfl rfl ?_
            refine b_clt (t1 := 67) (t2 := 54) rfl rfl rfl (ev_w_in (by omega) (by omega)) (ev_w_in (by omega) (by omega)) (fun g44 => ?_) (fun g44 => ?_)
            · have b45 : 0 ≤ v37 ∧ v37 ≤ 888 := by omega
              have b46 : 1 ≤ i20 ∧ i20 ≤ 889 := by omega
              refine w_t (np := 68) (l2 := [some (eR a0), some (eI (a1)), some (eI (i18)), some (eI (i20))]) (s2 := [eR a0]) rfl (s_an rfl (pos_g I23 gA0 (by decide))) rfl ?_
              refine j_gr (np := 71) rfl rfl I23 gA0 (by decide) (n := 69) rfl rfl rfl ?_
              intro v45 e46 b47 z48
              have b47 : g v45 = 69 := Nat.eq_of_beq_eq_true b47
              refine w_t (np := 72) (l2 := [some (eR a0), some (eI (a1)), some (eI (i18)), some (eI (i20))]) (s2 := [eI (i20), eR v45]) rfl rfl rfl ?_
              refine j_al (np := 73) rfl rfl I23 b47 (by decide) (n := 890) rfl rfl (lo := -1) (hi := 889) (fun _ => rfl) (by omega) (by omega) ?_
              intro v49 e50 b51
              refine b_ilt (t1 := 86) (t2 := 76) rfl rfl rfl (ev_w_in (by omega) (by omega)) (fun g52 => ?_) (fun g52 => ?_)
              · have b53 : -1 ≤ v49 ∧ v49 ≤ -1 := by omega
                refine w_t (np := 87) (l2 := [some (eR a0), some (eI (a1)), some (eI (i18)), some (eI (i20))]) (s2 := [eR a0]) rfl (s_an rfl (pos_g I23 gA0 (by decide))) rfl ?_
                refine w_t (np := 88) (l2 := [some (eR a0), some (eI (a1)), some (eI (i18)), some (eI (i20))]) (s2 := [eI (i20), eR a0]) rfl rfl rfl ?_
                refine w_t (np := 89) (l2 := [some (eR a0), some (eI (a1)), some (eI (i18)), some (eI (i20))]) (s2 := [eI (0), eI (i20), eR a0]) rfl rfl rfl ?_
                refine w_t (np := 90) (l2 := [some (eR a0), some (eI (a1)), some (eI (i18)), some (eI (i20))]) (s2 := [eI (a1), eI (0), eI (i20), eR a0]) rfl rfl rfl ?_
                refine w_cw (np := 93) (as := [eI (i20), eI (0), eI (a1)]) (l2 := [some (eR a0), some (eI (i20)), some (eI (0)), some (eI (a1))]) (rest := []) rfl rfl rfl (Nat.ble_eq.mp rfl) rfl rfl rfl (I23.kd gA0 (by decide) (n := 69) rfl) rfl ?_
                refine s_288 (a1 := i20) (a2 := 0) (a3 := a1) I23 gA0 (by omega) (by decide) (by omega) e30 p27 (by omega) ?_
                intro v53 b54
                show ex_q (dt_fg L ρ) rc (d + 4, (293, 93, [some (eR a0), some (eI (a1)), some (eI (i18)), some (eI (i20))], [eI (v53)]), f :: F, m22)
                refine b_ieq (t1 := 99) (t2 := 96) rfl rfl rfl (ev_w_in (by omega) (by omega)) (fun g55 => ?_) (fun g55 => ?_)
                · have b56 : 0 ≤ v53 ∧ v53 ≤ 0 := by omega
                  obtain ⟨v56, e57⟩ : ∃ zz : Int, zz = (i20) + (1) := ⟨_, rfl⟩
                  have b58 : 2 ≤ v56 ∧ v56 ≤ 890 := by omega
                  refine w_t (np := 102) (l2 := [some (eR a0), some (eI (a1)), some (eI (i18)), some (eI (v56))]) (s2 := []) rfl (b_iinc rfl (by rw [← e57]; exact ev_w_in (by omega) (by omega)) rfl) rfl ?_
                  refine w_go (t1 := 27) rfl rfl ?_
                  exact ih17 (890 - (v56)).toNat (by omega) m22 (i18) (v56) I23 F24 (by omega) (by omega) k25 k26  p27  rfl
                · have b56 : 1 ≤ v53 ∧ v53 ≤ 1 := by omega
                  obtain ⟨v56, e57, b58⟩ : ∃ zz : Int, ev_w ((i18) + (1)) = zz ∧ (-2147483648 ≤ zz ∧ zz ≤ 2147483647) := ⟨_, rfl, hw_bd _⟩
                  refine w_t (np := 99) (l2 := [some (eR a0), some (eI (a1)), some (eI (v56)), some (eI (i20))]) (s2 := []) rfl (b_iinc rfl e57 rfl) rfl ?_
                  obtain ⟨v59, e60⟩ : ∃ zz : Int, zz = (i20) + (1) := ⟨_, rfl⟩
                  have b61 : 2 ≤ v59 ∧ v59 ≤ 890 := by omega
                  refine w_t (np := 102) (l2 := [some (eR a0), some (eI (a1)), some (eI (v56)), some (eI (v59))]) (s2 := []) rfl (b_iinc rfl (by rw [← e60]; exact ev_w_in (by omega) (by omega)) rfl) rfl ?_
                  refine w_go (t1 := 27) rfl rfl ?_
                  exact ih17 (890 - (v59)).toNat (by omega) m22 (v56) (v59) I23 F24 (by omega) (by omega) k25 k26  p27  rfl
              · have b53 : 0 ≤ v49 ∧ v49 ≤ 889 := by omega
                refine w_t (np := 77) (l2 := [some (eR a0), some (eI (a1)), some (eI (i18)), some (eI (i20))]) (s2 := [eR a0]) rfl (s_an rfl (pos_g I23 gA0 (by decide))) rfl ?_
                refine w_gf (np := 80) (v := eR v45) rfl rfl (I23.kd gA0 (by decide) (n := 69) rfl) (by rw [e46]; rfl) ?_
                refine w_t (np := 81) (l2 := [some (eR a0), some (eI (a1)), some (eI (i18)), some (eI (i20))]) (s2 := [eI (i20), eR v45]) rfl rfl rfl ?_
                refine j_al (np := 82) rfl rfl I23 b47 (by decide) (n := 890) rfl rfl (lo := -1) (hi := 889) (fun _ => rfl) (by omega) (by omega) ?_
                intro v53 e54 b55
                have e54 := e54.symm.trans e50
                rw [e54]
                refine w_t (np := 83) (l2 := [some (eR a0), some (eI (a1)), some (eI (i18)), some (eI (i20))]) (s2 := [eI (i20), eI (v49)]) rfl rfl rfl ?_
                refine b_clt (t1 := 99) (t2 := 86) rfl rfl rfl (ev_w_in (by omega) (by omega)) (ev_w_in (by omega) (by omega)) (fun g56 => ?_) (fun g56 => ?_)
                · have b57 : 0 ≤ v49 ∧ v49 ≤ 888 := by omega
                  obtain ⟨v57, e58⟩ : ∃ zz : Int, zz = (i20) + (1) := ⟨_, rfl⟩
                  have b59 : 2 ≤ v57 ∧ v57 ≤ 890 := by omega
                  refine w_t (np := 102) (l2 := [some (eR a0), some (eI (a1)), some (eI (i18)), some (eI (v57))]) (s2 := []) rfl (b_iinc rfl (by rw [← e58]; exact ev_w_in (by omega) (by omega)) rfl) rfl ?_
                  refine w_go (t1 := 27) rfl rfl ?_
                  exact ih17 (890 - (v57)).toNat (by omega) m22 (i18) (v57) I23 F24 (by omega) (by omega) k25 k26  p27  rfl
                · have b57 : 1 ≤ v49 ∧ v49 ≤ 889 := by omega
                  refine w_t (np := 87) (l2 := [some (eR a0), some (eI (a1)), some (eI (i18)), some (eI (i20))]) (s2 := [eR a0]) rfl (s_an rfl (pos_g I23 gA0 (by decide))) rfl ?_
                  refine w_t (np := 88) (l2 := [some (eR a0), some (eI (a1)), some (eI (i18)), some (eI (i20))]) (s2 := [eI (i20), eR a0]) rfl rfl rfl ?_
                  refine w_t (np := 89) (l2 := [some (eR a0), some (eI (a1)), some (eI (i18)), some (eI (i20))]) (s2 := [eI (0), eI (i20), eR a0]) rfl rfl rfl ?_
                  refine w_t (np := 90) (l2 := [some (eR a0), some (eI (a1)), some (eI (i18)), some (eI (i20))]) (s2 := [eI (a1), eI (0), eI (i20), eR a0]) rfl rfl rfl ?_
                  refine w_cw (np := 93) (as := [eI (i20), eI (0), eI (a1)]) (l2 := [some (eR a0), some (eI (i20)), some (eI (0)), some (eI (a1))]) (rest := []) rfl rfl rfl (Nat.ble_eq.mp rfl) rfl rfl rfl (I23.kd gA0 (by decide) (n := 69) rfl) rfl ?_
                  refine s_288 (a1 := i20) (a2 := 0) (a3 := a1) I23 gA0 (by omega) (by decide) (by omega) e30 p27 (by omega) ?_
                  intro v57 b58
                  show ex_q (dt_fg L ρ) rc (d + 4, (293, 93, [some (eR a0), some (eI (a1)), some (eI (i18)), some (eI (i20))], [eI (v57)]), f :: F, m22)
                  refine b_ieq (t1 := 99) (t2 := 96) rfl rfl rfl (ev_w_in (by omega) (by omega)) (fun g59 => ?_) (fun g59 => ?_)
                  · have b60 : 0 ≤ v57 ∧ v57 ≤ 0 := by omega
                    obtain ⟨v60, e61⟩ : ∃ zz : Int, zz = (i20) + (1) := ⟨_, rfl⟩
                    have b62 : 2 ≤ v60 ∧ v60 ≤ 890 := by omega
                    refine w_t (np := 102) (l2 := [some (eR a0), some (eI (a1)), some (eI (i18)), some (eI (v60))]) (s2 := []) rfl (b_iinc rfl (by rw [← e61]; exact ev_w_in (by omega) (by omega)) rfl) rfl ?_
                    refine w_go (t1 := 27) rfl rfl ?_
                    exact ih17 (890 - (v60)).toNat (by omega) m22 (i18) (v60) I23 F24 (by omega) (by omega) k25 k26  p27  rfl
                  · have b60 : 1 ≤ v57 ∧ v57 ≤ 1 := by omega
                    obtain ⟨v60, e61, b62⟩ : ∃ zz : Int, ev_w ((i18) + (1)) = zz ∧ (-2147483648 ≤ zz ∧ zz ≤ 2147483647) := ⟨_, rfl, hw_bd _⟩
                    refine w_t (np := 99) (l2 := [some (eR a0), some (eI (a1)), some (eI (v60)), some (eI (i20))]) (s2 := []) rfl (b_iinc rfl e61 rfl) rfl ?_
                    obtain ⟨v63, e64⟩ : ∃ zz : Int, zz = (i20) + (1) := ⟨_, rfl⟩
                    have b65 : 2 ≤ v63 ∧ v63 ≤ 890 := by omega
                    refine w_t (np := 102) (l2 := [some (eR a0), some (eI (a1)), some (eI (v60)), some (eI (v63))]) (s2 := []) rfl (b_iinc rfl (by rw [← e64]; exact ev_w_in (by omega) (by omega)) rfl) rfl ?_
                    refine w_go (t1 := 27) rfl rfl ?_
                    exact ih17 (890 - (v63)).toNat (by omega) m22 (v60) (v63) I23 F24 (by omega) (by omega) k25 k26  p27  rfl
            · refine w_t (np := 55) (l2 := [some (eR a0), some (eI (a1)), some (eI (i18)), some (eI (i20))]) (s2 := [eR a0]) rfl (s_an rfl (pos_g I23 gA0 (by decide))) rfl ?_
              refine w_t (np := 56) (l2 := [some (eR a0), some (eI (a1)), some (eI (i18)), some (eI (i20))]) (s2 := [eI (i20), eR a0]) rfl rfl rfl ?_
              refine w_t (np := 57) (l2 := [some (eR a0), some (eI (a1)), some (eI (i18)), some (eI (i20))]) (s2 := [eI (1), eI (i20), eR a0]) rfl rfl rfl ?_
              refine w_t (np := 58) (l2 := [some (eR a0), some (eI (a1)), some (eI (i18)), some (eI (i20))]) (s2 := [eI (a1), eI (1), eI (i20), eR a0]) rfl rfl rfl ?_
              refine w_cw (np := 61) (as := [eI (i20), eI (1), eI (a1)]) (l2 := [some (eR a0), some (eI (i20)), some (eI (1)), some (eI (a1))]) (rest := []) rfl rfl rfl (Nat.ble_eq.mp rfl) rfl rfl rfl (I23.kd gA0 (by decide) (n := 69) rfl) rfl ?_
              refine s_288 (a1 := i20) (a2 := 1) (a3 := a1) I23 gA0 (by omega) (by decide) (by omega) e30 p27 (by omega) ?_
              intro v45 b46
              show ex_q (dt_fg L ρ) rc (d + 4, (293, 61, [some (eR a0), some (eI (a1)), some (eI (i18)), some (eI (i20))], [eI (v45)]), f :: F, m22)
              refine b_ieq (t1 := 67) (t2 := 64) rfl rfl rfl (ev_w_in (by omega) (by omega)) (fun g47 => ?_) (fun g47 => ?_)
              · have b48 : 0 ≤ v45 ∧ v45 ≤ 0 := by omega
                refine w_t (np := 68) (l2 := [some (eR a0), some (eI (a1)), some (eI (i18)), some (eI (i20))]) (s2 := [eR a0]) rfl (s_an rfl (pos_g I23 gA0 (by decide))) rfl ?_
                refine j_gr (np := 71) rfl rfl I23 gA0 (by decide) (n := 69) rfl rfl rfl ?_
                intro v48 e49 b50 z51
                have b50 : g v48 = 69 := Nat.eq_of_beq_eq_true b50
                refine w_t (np := 72) (l2 := [some (eR a0), some (eI (a1)), some (eI (i18)), some (eI (i20))]) (s2 := [eI (i20), eR v48]) rfl rfl rfl ?_
                refine j_al (np := 73) rfl rfl I23 b50 (by decide) (n := 890) rfl rfl (lo := -1) (hi := 889) (fun _ => rfl) (by omega) (by omega) ?_
                intro v52 e53 b54
                refine b_ilt (t1 := 86) (t2 := 76) rfl rfl rfl (ev_w_in (by omega) (by omega)) (fun g55 => ?_) (fun g55 => ?_)
                · have b56 : -1 ≤ v52 ∧ v52 ≤ -1 := by omega
                  refine w_t (np := 87) (l2 := [some (eR a0), some (eI (a1)), some (eI (i18)), some (eI (i20))]) (s2 := [eR a0]) rfl (s_an rfl (pos_g I23 gA0 (by decide))) rfl ?_
                  refine w_t (np := 88) (l2 := [some (eR a0), some (eI (a1)), some (eI (i18)), some (eI (i20))]) (s2 := [eI (i20), eR a0]) rfl rfl rfl ?_
                  refine w_t (np := 89) (l2 := [some (eR a0), some (eI (a1)), some (eI (i18)), some (eI (i20))]) (s2 := [eI (0), eI (i20), eR a0]) rfl rfl rfl ?_
                  refine w_t (np := 90) (l2 := [some (eR a0), some (eI (a1)), some (eI (i18)), some (eI (i20))]) (s2 := [eI (a1), eI (0), eI (i20), eR a0]) rfl rfl rfl ?_
                  refine w_cw (np := 93) (as := [eI (i20), eI (0), eI (a1)]) (l2 := [some (eR a0), some (eI (i20)), some (eI (0)), some (eI (a1))]) (rest := []) rfl rfl rfl (Nat.ble_eq.mp rfl) rfl rfl rfl (I23.kd gA0 (by decide) (n := 69) rfl) rfl ?_
                  refine s_288 (a1 := i20) (a2 := 0) (a3 := a1) I23 gA0 (by omega) (by decide) (by omega) e30 p27 (by omega) ?_
                  intro v56 b57
                  show ex_q (dt_fg L ρ) rc (d + 4, (293, 93, [some (eR a0), some (eI (a1)), some (eI (i18)), some (eI (i20))], [eI (v56)]), f :: F, m22)
                  refine b_ieq (t1 := 99) (t2 := 96) rfl rfl rfl (ev_w_in (by omega) (by omega)) (fun g58 => ?_) (fun g58 => ?_)
                  · have b59 : 0 ≤ v56 ∧ v56 ≤ 0 := by omega
                    obtain ⟨v59, e60⟩ : ∃ zz : Int, zz = (i20) + (1) := ⟨_, rfl⟩
                    have b61 : 1 ≤ v59 ∧ v59 ≤ 890 := by omega
                    refine w_t (np := 102) (l2 := [some (eR a0), some (eI (a1)), some (eI (i18)), some (eI (v59))]) (s2 := []) rfl (b_iinc rfl (by rw [← e60]; exact ev_w_in (by omega) (by omega)) rfl) rfl ?_
                    refine w_go (t1 := 27) rfl rfl ?_
                    exact ih17 (890 - (v59)).toNat (by omega) m22 (i18) (v59) I23 F24 (by omega) (by omega) k25 k26  p27  rfl
                  · have b59 : 1 ≤ v56 ∧ v56 ≤ 1 := by omega
                    obtain ⟨v59, e60, b61⟩ : ∃ zz : Int, ev_w ((i18) + (1)) = zz ∧ (-2147483648 ≤ zz ∧ zz ≤ 2147483647) := ⟨_, rfl, hw_bd _⟩
                    refine w_t (np := 99) (l2 := [some (eR a0), some (eI (a1)), some (eI (v59)), some (eI (i20))]) (s2 := []) rfl (b_iinc rfl e60 rfl) rfl ?_
                    obtain ⟨v62, e63⟩ : ∃ zz : Int, zz = (i20) + (1) := ⟨_, rfl⟩
                    have b64 : 1 ≤ v62 ∧ v62 ≤ 890 := by omega
                    refine w_t (np := 102) (l2 := [some (eR a0), some (eI (a1)), some (eI (v59)), some (eI (v62))]) (s2 := []) rfl (b_iinc rfl (by rw [← e63]; exact ev_w_in (by omega) (by omega)) rfl) rfl ?_
                    refine w_go (t1 := 27) rfl rfl ?_
                    exact ih17 (890 - (v62)).toNat (by omega) m22 (v59) (v62) I23 F24 (by omega) (by omega) k25 k26  p27  rfl
                · have b56 : 0 ≤ v52 ∧ v52 ≤ 889 := by omega
                  refine w_t (np := 77) (l2 := [some (eR a0), some (eI (a1)), some (eI (i18)), some (eI (i20))]) (s2 := [eR a0]) rfl (s_an rfl (pos_g I23 gA0 (by decide))) rfl ?_
                  refine w_gf (np := 80) (v := eR v48) rfl rfl (I23.kd gA0 (by decide) (n := 69) rfl) (by rw [e49]; rfl) ?_
                  refine w_t (np := 81) (l2 := [some (eR a0), some (eI (a1)), some (eI (i18)), some (eI (i20))]) (s2 := [eI (i20), eR v48]) rfl rfl rfl ?_
                  refine j_al (np := 82) rfl rfl I23 b50 (by decide) (n := 890) rfl rfl (lo := -1) (hi := 889) (fun _ => rfl) (by omega) (by omega) ?_
                  intro v56 e57 b58
                  have e57 := e57.symm.trans e53
                  rw [e57]
                  refine w_t (np := 83) (l2 := [some (eR a0), some (eI (a1)), some (eI (i18)), some (eI (i20))]) (s2 := [eI (i20), eI (v52)]) rfl rfl rfl ?_
                  refine b_clt (t1 := 99) (t2 := 86) rfl rfl rfl (ev_w_in (by omega) (by omega)) (ev_w_in (by omega) (by omega)) (fun g59 => ?_) (fun g59 => ?_)
                  · have b60 : 0 ≤ v52 ∧ v52 ≤ 888 := by omega
                    have b61 : 1 ≤ i20 ∧ i20 ≤ 889 := by omega
                    obtain ⟨v60, e61⟩ : ∃ zz : Int, zz = (i20) + (1) := ⟨_, rfl⟩
                    have b62 : 2 ≤ v60 ∧ v60 ≤ 890 := by omega
                    refine w_t (np := 102) (l2 := [some (eR a0), some (eI (a1)), some (eI (i18)), some (eI (v60))]) (s2 := []) rfl (b_iinc rfl (by rw [← e61]; exact ev_w_in (by omega) (by omega)) rfl) rfl ?_
                    refine w_go (t1 := 27) rfl rfl ?_
                    exact ih17 (890 - (v60)).toNat (by omega) m22 (i18) (v60) I23 F24 (by omega) (by omega) k25 k26  p27  rfl
                  · refine w_t (np := 87) (l2 := [some (eR a0), some (eI (a1)), some (eI (i18)), some (eI (i20))]) (s2 := [eR a0]) rfl (s_an rfl (pos_g I23 gA0 (by decide))) rfl ?_
                    refine w_t (np := 88) (l2 := [some (eR a0), some (eI (a1)), some (eI (i18)), some (eI (i20))]) (s2 := [eI (i20), eR a0]) rfl rfl rfl ?_
                    refine w_t (np := 89) (l2 := [some (eR a0), some (eI (a1)), some (eI (i18)), some (eI (i20))]) (s2 := [eI (0), eI (i20), eR a0]) rfl rfl rfl ?_
                    refine w_t (np := 90) (l2 := [some (eR a0), some (eI (a1)), some (eI (i18)), some (eI (i20))]) (s2 := [eI (a1), eI (0), eI (i20), eR a0]) rfl rfl rfl ?_
                    refine w_cw (np := 93) (as := [eI (i20), eI (0), eI (a1)]) (l2 := [some (eR a0), some (eI (i20)), some (eI (0)), some (eI (a1))]) (rest := []) rfl rfl rfl (Nat.ble_eq.mp rfl) rfl rfl rfl (I23.kd gA0 (by decide) (n := 69) rfl) rfl ?_
                    refine s_288 (a1 := i20) (a2 := 0) (a3 := a1) I23 gA0 (by omega) (by decide) (by omega) e30 p27 (by omega) ?_
                    intro v60 b61
                    show ex_q (dt_fg L ρ) rc (d + 4, (293, 93, [some (eR a0), some (eI (a1)), some (eI (i18)), some (eI (i20))], [eI (v60)]), f :: F, m22)
                    refine b_ieq (t1 := 99) (t2 := 96) rfl rfl rfl (ev_w_in (by omega) (by omega)) (fun g62 => ?_) (fun g62 => ?_)
                    · have b63 : 0 ≤ v60 ∧ v60 ≤ 0 := by omega
                      obtain ⟨v63, e64⟩ : ∃ zz : Int, zz = (i20) + (1) := ⟨_, rfl⟩
                      have b65 : 1 ≤ v63 ∧ v63 ≤ 890 := by omega
                      refine w_t (np := 102) (l2 := [some (eR a0), some (eI (a1)), some (eI (i18)), some (eI (v63))]) (s2 := []) rfl (b_iinc rfl (by rw [← e64]; exact ev_w_in (by omega) (by omega)) rfl) rfl ?_
                      refine w_go (t1 := 27) rfl rfl ?_
                      exact ih17 (890 - (v63)).toNat (by omega) m22 (i18) (v63) I23 F24 (by omega) (by omega) k25 k26  p27  rfl
                    · have b63 : 1 ≤ v60 ∧ v60 ≤ 1 := by omega
                      obtain ⟨v63, e64, b65⟩ : ∃ zz : Int, ev_w ((i18) + (1)) = zz ∧ (-2147483648 ≤ zz ∧ zz ≤ 2147483647) := ⟨_, rfl, hw_bd _⟩
                      refine w_t (np := 99) (l2 := [some (eR a0), some (eI (a1)), some (eI (v63)), some (eI (i20))]) (s2 := []) rfl (b_iinc rfl e64 rfl) rfl ?_
                      obtain ⟨v66, e67⟩ : ∃ zz : Int, zz = (i20) + (1) := ⟨_, rfl⟩
                      have b68 : 1 ≤ v66 ∧ v66 ≤ 890 := by omega
                      refine w_t (np := 102) (l2 := [some (eR a0), some (eI (a1)), some (eI (v63)), some (eI (v66))]) (s2 := []) rfl (b_iinc rfl (by rw [← e67]; exact ev_w_in (by omega) (by omega)) rfl) rfl ?_
                      refine w_go (t1 := 27) rfl rfl ?_
                      exact ih17 (890 - (v66)).toNat (by omega) m22 (v63) (v66) I23 F24 (by omega) (by omega) k25 k26  p27  rfl
              · have b48 : 1 ≤ v45 ∧ v45 ≤ 1 := by omega
                obtain ⟨v48, e49, b50⟩ : ∃ zz : Int, ev_w ((i18) + (1)) = zz ∧ (-2147483648 ≤ zz ∧ zz ≤ 2147483647) := ⟨_, rfl, hw_bd _⟩
                refine w_t (np := 67) (l2 := [some (eR a0), some (eI (a1)), some (eI (v48)), some (eI (i20))]) (s2 := []) rfl (b_iinc rfl e49 rfl) rfl ?_
                refine w_t (np := 68) (l2 := [some (eR a0), some (eI (a1)), some (eI (v48)), some (eI (i20))]) (s2 := [eR a0]) rfl (s_an rfl (pos_g I23 gA0 (by decide))) rfl ?_
                refine j_gr (np := 71) rfl rfl I23 gA0 (by decide) (n := 69) rfl rfl rfl ?_
                intro v51 e52 b53 z54
                have b53 : g v51 = 69 := Nat.eq_of_beq_eq_true b53
                refine w_t (np := 72) (l2 := [some (eR a0), some (eI (a1)), some (eI (v48)), some (eI (i20))]) (s2 := [eI (i20), eR v51]) rfl rfl rfl ?_
                refine j_al (np := 73) rfl rfl I23 b53 (by decide) (n := 890) rfl rfl (lo := -1) (hi := 889) (fun _ => rfl) (by omega) (by omega) ?_
                intro v55 e56 b57
                refine b_ilt (t1 := 86) (t2 := 76) rfl rfl rfl (ev_w_in (by omega) (by omega)) (fun g58 => ?_) (fun g58 => ?_)
                · have b59 : -1 ≤ v55 ∧ v55 ≤ -1 := by omega
                  refine w_t (np := 87) (l2 := [some (eR a0), some (eI (a1)), some (eI (v48)), some (eI (i20))]) (s2 := [eR a0]) rfl (s_an rfl (pos_g I23 gA0 (by decide))) rfl ?_
                  refine w_t (np := 88) (l2 := [some (eR a0), some (eI (a1)), some (eI (v48)), some (eI (i20))]) (s2 := [eI (i20), eR a0]) rfl rfl rfl ?_
                  refine w_t (np := 89) (l2 := [some (eR a0), some (eI (a1)), some (eI (v48)), some (eI (i20))]) (s2 := [eI (0), eI (i20), eR a0]) rfl rfl rfl ?_
                  refine w_t (np := 90) (l2 := [some (eR a0), some (eI (a1)), some (eI (v48)), some (eI (i20))]) (s2 := [eI (a1), eI (0), eI (i20), eR a0]) rfl rfl rfl ?_
                  refine w_cw (np := 93) (as := [eI (i20), eI (0), eI (a1)]) (l2 := [some (eR a0), some (eI (i20)), some (eI (0)), some (eI (a1))]) (rest := []) rfl rfl rfl (Nat.ble_eq.mp rfl) rfl rfl rfl (I23.kd gA0 (by decide) (n := 69) rfl) rfl ?_
                  refine s_288 (a1 := i20) (a2 := 0) (a3 := a1) I23 gA0 (by omega) (by decide) (by omega) e30 p27 (by omega) ?_
                  intro v59 b60
                  show ex_q (dt_fg L ρ) rc (d + 4, (293, 93, [some (eR a0), some (eI (a1)), some (eI (v48)), some (eI (i20))], [eI (v59)]), f :: F, m22)
                  refine b_ieq (t1 := 99) (t2 := 96) rfl rfl rfl (ev_w_in (by omega) (by omega)) (fun g61 => ?_) (fun g61 => ?_)
                  · have b62 : 0 ≤ v59 ∧ v59 ≤ 0 := by omega
                    obtain ⟨v62, e63⟩ : ∃ zz : Int, zz = (i20) + (1) := ⟨_, rfl⟩
                    have b64 : 1 ≤ v62 ∧ v62 ≤ 890 := by omega
                    refine w_t (np := 102) (l2 := [some (eR a0), some (eI (a1)), some (eI (v48)), some (eI (v62))]) (s2 := []) rfl (b_iinc rfl (by rw [← e63]; exact ev_w_in (by omega) (by omega)) rfl) rfl ?_
                    refine w_go (t1 := 27) rfl rfl ?_
                    exact ih17 (890 - (v62)).toNat (by omega) m22 (v48) (v62) I23 F24 (by omega) (by omega) k25 k26  p27  rfl
                  · have b62 : 1 ≤ v59 ∧ v59 ≤ 1 := by omega
                    obtain ⟨v62, e63, b64⟩ : ∃ zz : Int, ev_w ((v48) + (1)) = zz ∧ (-2147483648 ≤ zz ∧ zz ≤ 2147483647) := ⟨_, rfl, hw_bd _⟩
                    refine w_t (np := 99) (l2 := [some (eR a0), some (eI (a1)), some (eI (v62)), some (eI (i20))]) (s2 := []) rfl (b_iinc rfl e63 rfl) rfl ?_
                    obtain ⟨v65, e66⟩ : ∃ zz : Int, zz = (i20) + (1) := ⟨_, rfl⟩
                    have b67 : 1 ≤ v65 ∧ v65 ≤ 890 := by omega
                    refine w_t (np := 102) (l2 := [some (eR a0), some (eI (a1)), some (eI (v62)), some (eI (v65))]) (s2 := []) rfl (b_iinc rfl (by rw [← e66]; exact ev_w_in (by omega) (by omega)) rfl) rfl ?_
                    refine w_go (t1 := 27) rfl rfl ?_
                    exact ih17 (890 - (v65)).toNat (by omega) m22 (v62) (v65) I23 F24 (by omega) (by omega) k25 k26  p27  rfl
                · have b59 : 0 ≤ v55 ∧ v55 ≤ 889 := by omega
                  refine w_t (np := 77) (l2 := [some (eR a0), some (eI (a1)), some (eI (v48)), some (eI (i20))]) (s2 := [eR a0]) rfl (s_an rfl (pos_g I23 gA0 (by decide))) rfl ?_
                  refine w_gf (np := 80) (v := eR v51) rfl rfl (I23.kd gA0 (by decide) (n := 69) rfl) (by rw [e52]; rfl) ?_
                  refine w_t (np := 81) (l2 := [some (eR a0), some (eI (a1)), some (eI (v48)), some (eI (i20))]) (s2 := [eI (i20), eR v51]) rfl rfl rfl ?_
                  refine j_al (np := 82) rfl rfl I23 b53 (by decide) (n := 890) rfl rfl (lo := -1) (hi := 889) (fun _ => rfl) (by omega) (by omega) ?_
                  intro v59 e60 b61
                  have e60 := e60.symm.trans e56
                  rw [e60]
                  refine w_t (np := 83) (l2 := [some (eR a0), some (eI (a1)), some (eI (v48)), some (eI (i20))]) (s2 := [eI (i20), eI (v55)]) rfl rfl rfl ?_
                  refine b_clt (t1 := 99) (t2 := 86) rfl rfl rfl (ev_w_in (by omega) (by omega)) (ev_w_in (by omega) (by omega)) (fun g62 => ?_) (fun g62 => ?_)
                  · have b63 : 0 ≤ v55 ∧ v55 ≤ 888 := by omega
                    have b64 : 1 ≤ i20 ∧ i20 ≤ 889 := by omega
                    obtain ⟨v63, e64⟩ : ∃ zz : Int, zz = (i20) + (1) := ⟨_, rfl⟩
                    have b65 : 2 ≤ v63 ∧ v63 ≤ 890 := by omega
                    refine w_t (np := 102) (l2 := [some (eR a0), some (eI (a1)), some (eI (v48)), some (eI (v63))]) (s2 := []) rfl (b_iinc rfl (by rw [← e64]; exact ev_w_in (by omega) (by omega)) rfl) rfl ?_
                    refine w_go (t1 := 27) rfl rfl ?_
                    exact ih17 (890 - (v63)).toNat (by omega) m22 (v48) (v63) I23 F24 (by omega) (by omega) k25 k26  p27  rfl
                  · refine w_t (np := 87) (l2 := [some (eR a0), some (eI (a1)), some (eI (v48)), some (eI (i20))]) (s2 := [eR a0]) rfl (s_an rfl (pos_g I23 gA0 (by decide))) rfl ?_
                    refine w_t (np := 88) (l2 := [some (eR a0), some (eI (a1)), some (eI (v48)), some (eI (i20))]) (s2 := [eI (i20), eR a0]) rfl rfl rfl ?_
                    refine w_t (np := 89) (l2 := [some (eR a0), some (eI (a1)), some (eI (v48)), some (eI (i20))]) (s2 := [eI (0), eI (i20), eR a0]) rfl rfl rfl ?_
                    refine w_t (np := 90) (l2 := [some (eR a0), some (eI (a1)), some (eI (v48)), some (eI (i20))]) (s2 := [eI (a1), eI (0), eI (i20), eR a0]) rfl rfl rfl ?_
                    refine w_cw (np := 93) (as := [eI (i20), eI (0), eI (a1)]) (l2 := [some (eR a0), some (eI (i20)), some (eI (0)), some (eI (a1))]) (rest := []) rfl rfl rfl (Nat.ble_eq.mp rfl) rfl rfl rfl (I23.kd gA0 (by decide) (n := 69) rfl) rfl ?_
                    refine s_288 (a1 := i20) (a2 := 0) (a3 := a1) I23 gA0 (by omega) (by decide) (by omega) e30 p27 (by omega) ?_
                    intro v63 b64
                    show ex_q (dt_fg L ρ) rc (d + 4, (293, 93, [some (eR a0), some (eI (a1)), some (eI (v48)), some (eI (i20))], [eI (v63)]), f :: F, m22)
                    refine b_ieq (t1 := 99) (t2 := 96) rfl rfl rfl (ev_w_in (by omega) (by omega)) (fun g65 => ?_) (fun g65 => ?_)
                    · have b66 : 0 ≤ v63 ∧ v63 ≤ 0 := by omega
                      obtain ⟨v66, e67⟩ : ∃ zz : Int, zz = (i20) + (1) := ⟨_, rfl⟩
                      have b68 : 1 ≤ v66 ∧ v66 ≤ 890 := by omega
                      refine w_t (np := 102) (l2 := [some (eR a0), some (eI (a1)), some (eI (v48)), some (eI (v66))]) (s2 := []) rfl (b_iinc rfl (by rw [← e67]; exact ev_w_in (by omega) (by omega)) rfl) rfl ?_
                      refine w_go (t1 := 27) rfl rfl ?_
                      exact ih17 (890 - (v66)).toNat (by omega) m22 (v48) (v66) I23 F24 (by omega) (by omega) k25 k26  p27  rfl
                    · have b66 : 1 ≤ v63 ∧ v63 ≤ 1 := by omega
                      obtain ⟨v66, e67, b68⟩ : ∃ zz : Int, ev_w ((v48) + (1)) = zz ∧ (-2147483648 ≤ zz ∧ zz ≤ 2147483647) := ⟨_, rfl, hw_bd _⟩
                      refine w_t (np := 99) (l2 := [some (eR a0), some (eI (a1)), some (eI (v66)), some (eI (i20))]) (s2 := []) rfl (b_iinc rfl e67 rfl) rfl ?_
                      obtain ⟨v69, e70⟩ : ∃ zz : Int, zz = (i20) + (1) := ⟨_, rfl⟩
                      have b71 : 1 ≤ v69 ∧ v69 ≤ 890 := by omega
                      refine w_t (np := 102) (l2 := [some (eR a0), some (eI (a1)), some (eI (v66)), some (eI (v69))]) (s2 := []) rfl (b_iinc rfl (by rw [← e70]; exact ev_w_in (by omega) (by omega)) rfl) rfl ?_
                      refine w_go (t1 := 27) rfl rfl ?_
                      exact ih17 (890 - (v69)).toNat (by omega) m22 (v66) (v69) I23 F24 (by omega) (by omega) k25 k26  p27  rfl
      exact hL27 _ m9 (0) (0) I10 F12 (by decide) (by decide) (W11.slot W6.at (by decide)) W11.at  p13  rfl
