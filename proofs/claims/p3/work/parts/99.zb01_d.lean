def l_334 : List Nat := [13313, 13314, 13363, 22016, 21760, 21248, 20992, 20736]
theorem s_334 {L : Nat} {ρ : Nat → Int} {rc : eQ} {d : Nat} {f : eFr} {F : List eFr} {μ : eM} {g : Nat → Nat} {a0 : Nat} {a1 : Int} (hI : SI g μ) (gA0 : g a0 = 52) (bA1 : -2147483648 ≤ a1 ∧ a1 ≤ 2147483647) (K : ∀ (μ2 : eM) (v : Int), SI g μ2 → Fr l_334 0 0 g μ μ2 → (-2147483648 ≤ v ∧ v ≤ 2147483647) → ex_q (dt_fg L ρ) rc (d + 14, (f.1, f.2.1, f.2.2.1, eI v :: f.2.2.2), F, μ2)) : ex_q (dt_fg L ρ) rc (d + 13, (334, 0, [some (eR a0), some (eI (a1)), none, none], []), f :: F, μ) := by
  have F0 : Fr l_334 0 0 g μ μ := Fr.r
  refine w_t (np := 1) (l2 := [some (eR a0), some (eI (a1)), none, none]) (s2 := [eR a0]) rfl (s_an rfl (pos_g hI gA0 (by decide))) rfl ?_
  refine w_t (np := 2) (l2 := [some (eR a0), some (eI (a1)), none, none]) (s2 := [eI (a1), eR a0]) rfl rfl rfl ?_
  refine w_t (np := 3) (l2 := [some (eR a0), some (eI (a1)), none, none]) (s2 := [eI (0), eI (a1), eR a0]) rfl rfl rfl ?_
  refine w_t (np := 4) (l2 := [some (eR a0), some (eI (a1)), none, none]) (s2 := [eI (4), eI (0), eI (a1), eR a0]) rfl rfl rfl ?_
  refine w_cu (np := 7) (as := [eI (a1), eI (0), eI (4)]) (l2 := [some (eI (a1)), some (eI (0)), some (eI (4))]) (rest := [eR a0]) rfl rfl rfl (Nat.ble_eq.mp rfl) rfl rfl rfl rfl ?_
  refine w_t (np := 1) (l2 := [some (eI (a1)), some (eI (0)), some (eI (4))]) (s2 := [eI (a1)]) rfl rfl rfl ?_
  refine w_t (np := 2) (l2 := [some (eI (a1)), some (eI (0)), some (eI (4))]) (s2 := [eI (0), eI (a1)]) rfl rfl rfl ?_
  refine b_clt (t1 := 14) (t2 := 5) rfl rfl rfl (ev_w_in (by omega) (by omega)) rfl (fun g1 => ?_) (fun g1 => ?_)
  · have b2 : -2147483648 ≤ a1 ∧ a1 ≤ -1 := by omega
    refine w_t (np := 15) (l2 := [some (eI (a1)), some (eI (0)), some (eI (4))]) (s2 := [eI (0)]) rfl rfl rfl ?_
    refine b_rz rfl rfl (Or.inl rfl) ?_
    show ex_q (dt_fg L ρ) rc (d + 13, (334, 7, [some (eR a0), some (eI (a1)), none, none], [eI (0), eR a0]), f :: F, μ)
    refine b_ieq (t1 := 14) (t2 := 10) rfl rfl rfl rfl (fun g2 => ?_) (fun g2 => absurd g2 (by decide))
    refine w_t (np := 15) (l2 := [some (eR a0), some (eI (a1)), none, none]) (s2 := [eI (1), eR a0]) rfl rfl rfl ?_
    refine w_cw (np := 18) (as := [eI (1)]) (l2 := [some (eR a0), some (eI (1))]) (rest := []) rfl rfl rfl (Nat.ble_eq.mp rfl) rfl rfl rfl (hI.kd gA0 (by decide) (n := 69) rfl) rfl ?_
    refine w_t (np := 1) (l2 := [some (eR a0), some (eI (1))]) (s2 := [eR a0]) rfl (s_an rfl (pos_g hI gA0 (by decide))) rfl ?_
    refine w_t (np := 2) (l2 := [some (eR a0), some (eI (1))]) (s2 := [eI (0), eR a0]) rfl rfl rfl ?_
    refine j_pf (np := 5) (w := 0) rfl rfl hI gA0 (by decide) (n := 69) rfl rfl (hO_i (lo := -2147483648) (hi := 2147483647) rfl (by decide)) ?_
    intro m3 I4 W5
    have F6 : Fr l_334 0 0 g μ m3 := F0.w W5 gA0 rfl
    refine w_t (np := 6) (l2 := [some (eR a0), some (eI (1))]) (s2 := [eR a0]) rfl (s_an rfl (pos_g I4 gA0 (by decide))) rfl ?_
    refine w_t (np := 7) (l2 := [some (eR a0), some (eI (1))]) (s2 := [eI (1), eR a0]) rfl rfl rfl ?_
    refine j_pf (np := 10) (w := 1) rfl rfl I4 gA0 (by decide) (n := 69) rfl rfl (hO_i (lo := -2147483648) (hi := 2147483647) rfl (by decide)) ?_
    intro m7 I8 W9
    have F10 : Fr l_334 0 0 g μ m7 := F6.w W9 gA0 rfl
    refine w_t (np := 11) (l2 := [some (eR a0), some (eI (1))]) (s2 := [eI (1)]) rfl rfl rfl ?_
    refine b_ine (t1 := 18) (t2 := 14) rfl rfl rfl rfl (fun g11 => ?_) (fun g11 => absurd g11 (by decide))
    refine w_t (np := 19) (l2 := [some (eR a0), some (eI (1))]) (s2 := [eI (0)]) rfl rfl rfl ?_
    refine b_rz rfl rfl (Or.inl rfl) ?_
    show ex_q (dt_fg L ρ) rc (d + 13, (334, 18, [some (eR a0), some (eI (a1)), none, none], [eI (0)]), f :: F, m7)
    refine b_ine (t1 := 23) (t2 := 21) rfl rfl rfl rfl (fun g12 => absurd g12 (by decide)) (fun g12 => ?_)
    refine w_t (np := 22) (l2 := [some (eR a0), some (eI (a1)), none, none]) (s2 := [eI (-1)]) rfl rfl rfl ?_
    exact b_ri rfl rfl (K m7 (-1) I8 F10 (by decide))
  · have b2 : 0 ≤ a1 ∧ a1 ≤ 2147483647 := by omega
    refine w_t (np := 6) (l2 := [some (eI (a1)), some (eI (0)), some (eI (4))]) (s2 := [eI (a1)]) rfl rfl rfl ?_
    refine w_t (np := 7) (l2 := [some (eI (a1)), some (eI (0)), some (eI (4))]) (s2 := [eI (4), eI (a1)]) rfl rfl rfl ?_
    refine b_cgt (t1 := 14) (t2 := 10) rfl rfl rfl (ev_w_in (by omega) (by omega)) rfl (fun g2 => ?_) (fun g2 => ?_)
    · have b3 : 5 ≤ a1 ∧ a1 ≤ 2147483647 := by omega
      refine w_t (np := 15) (l2 := [some (eI (a1)), some (eI (0)), some (eI (4))]) (s2 := [eI (0)]) rfl rfl rfl ?_
      refine b_rz rfl rfl (Or.inl rfl) ?_
      show ex_q (dt_fg L ρ) rc (d + 13, (334, 7, [some (eR a0), some (eI (a1)), none, none], [eI (0), eR a0]), f :: F, μ)
      refine b_ieq (t1 := 14) (t2 := 10) rfl rfl rfl rfl (fun g3 => ?_) (fun g3 => absurd g3 (by decide))
      refine w_t (np := 15) (l2 := [some (eR a0), some (eI (a1)), none, none]) (s2 := [eI (1), eR a0]) rfl rfl rfl ?_
      refine w_cw (np := 18) (as := [eI (1)]) (l2 := [some (eR a0), some (eI (1))]) (rest := []) rfl rfl rfl (Nat.ble_eq.mp rfl) rfl rfl rfl (hI.kd gA0 (by decide) (n := 69) rfl) rfl ?_
      refine w_t (np := 1) (l2 := [some (eR a0), some (eI (1))]) (s2 := [eR a0]) rfl (s_an rfl (pos_g hI gA0 (by decide))) rfl ?_
      refine w_t (np := 2) (l2 := [some (eR a0), some (eI (1))]) (s2 := [eI (0), eR a0]) rfl rfl rfl ?_
      refine j_pf (np := 5) (w := 0) rfl rfl hI gA0 (by decide) (n := 69) rfl rfl (hO_i (lo := -2147483648) (hi := 2147483647) rfl (by decide)) ?_
      intro m4 I5 W6
      have F7 : Fr l_334 0 0 g μ m4 := F0.w W6 gA0 rfl
      refine w_t (np := 6) (l2 := [some (eR a0), some (eI (1))]) (s2 := [eR a0]) rfl (s_an rfl (pos_g I5 gA0 (by decide))) rfl ?_
      refine w_t (np := 7) (l2 := [some (eR a0), some (eI (1))]) (s2 := [eI (1), eR a0]) rfl rfl rfl ?_
      refine j_pf (np := 10) (w := 1) rfl rfl I5 gA0 (by decide) (n := 69) rfl rfl (hO_i (lo := -2147483648) (hi := 2147483647) rfl (by decide)) ?_
      intro m8 I9 W10
      have F11 : Fr l_334 0 0 g μ m8 := F7.w W10 gA0 rfl
      refine w_t (np := 11) (l2 := [some (eR a0), some (eI (1))]) (s2 := [eI (1)]) rfl rfl rfl ?_
      refine b_ine (t1 := 18) (t2 := 14) rfl rfl rfl rfl (fun g12 => ?_) (fun g12 => absurd g12 (by decide))
      refine w_t (np := 19) (l2 := [some (eR a0), some (eI (1))]) (s2 := [eI (0)]) rfl rfl rfl ?_
      refine b_rz rfl rfl (Or.inl rfl) ?_
      show ex_q (dt_fg L ρ) rc (d + 13, (334, 18, [some (eR a0), some (eI (a1)), none, none], [eI (0)]), f :: F, m8)
      refine b_ine (t1 := 23) (t2 := 21) rfl rfl rfl rfl (fun g13 => absurd g13 (by decide)) (fun g13 => ?_)
      refine w_t (np := 22) (l2 := [some (eR a0), some (eI (a1)), none, none]) (s2 := [eI (-1)]) rfl rfl rfl ?_
      exact b_ri rfl rfl (K m8 (-1) I9 F11 (by decide))
    · have b3 : 0 ≤ a1 ∧ a1 ≤ 4 := by omega
      refine w_t (np := 11) (l2 := [some (eI (a1)), some (eI (0)), some (eI (4))]) (s2 := [eI (1)]) rfl rfl rfl ?_
      refine w_go (t1 := 15) rfl rfl ?_
      refine b_rz rfl rfl (Or.inr rfl) ?_
      show ex_q (dt_fg L ρ) rc (d + 13, (334, 7, [some (eR a0), some (eI (a1)), none, none], [eI (1), eR a0]), f :: F, μ)
      refine b_ieq (t1 := 14) (t2 := 10) rfl rfl rfl rfl (fun g3 => absurd g3 (by decide)) (fun g3 => ?_)
      refine w_t (np := 11) (l2 := [some (eR a0), some (eI (a1)), none, none]) (s2 := [eI (0), eR a0]) rfl rfl rfl ?_
      refine w_go (t1 := 15) rfl rfl ?_
      refine w_cw (np := 18) (as := [eI (0)]) (l2 := [some (eR a0), some (eI (0))]) (rest := []) rfl rfl rfl (Nat.ble_eq.mp rfl) rfl rfl rfl (hI.kd gA0 (by decide) (n := 69) rfl) rfl ?_
      refine w_t (np := 1) (l2 := [some (eR a0), some (eI (0))]) (s2 := [eR a0]) rfl (s_an rfl (pos_g hI gA0 (by decide))) rfl ?_
      refine w_t (np := 2) (l2 := [some (eR a0), some (eI (0))]) (s2 := [eI (0), eR a0]) rfl rfl rfl ?_
      refine j_pf (np := 5) (w := 0) rfl rfl hI gA0 (by decide) (n := 69) rfl rfl (hO_i (lo := -2147483648) (hi := 2147483647) rfl (by decide)) ?_
      intro m4 I5 W6
      have F7 : Fr l_334 0 0 g μ m4 := F0.w W6 gA0 rfl
      refine w_t (np := 6) (l2 := [some (eR a0), some (eI (0))]) (s2 := [eR a0]) rfl (s_an rfl (pos_g I5 gA0 (by decide))) rfl ?_
      refine w_t (np := 7) (l2 := [some (eR a0), some (eI (0))]) (s2 := [eI (0), eR a0]) rfl rfl rfl ?_
      refine j_pf (np := 10) (w := 0) rfl rfl I5 gA0 (by decide) (n := 69) rfl rfl (hO_i (lo := -2147483648) (hi := 2147483647) rfl (by decide)) ?_
      intro m8 I9 W10
      have F11 : Fr l_334 0 0 g μ m8 := F7.w W10 gA0 rfl
      refine w_t (np := 11) (l2 := [some (eR a0), some (eI (0))]) (s2 := [eI (0)]) rfl rfl rfl ?_
      refine b_ine (t1 := 18) (t2 := 14) rfl rfl rfl rfl (fun g12 => absurd g12 (by decide)) (fun g12 => ?_)
      refine w_t (np := 15) (l2 := [some (eR a0), some (eI (0))]) (s2 := [eI (1)]) rfl rfl rfl ?_
      refine w_go (t1 := 19) rfl rfl ?_
      refine b_rz rfl rfl (Or.inr rfl) ?_
      show ex_q (dt_fg L ρ) rc (d + 13, (334, 18, [some (eR a0), some (eI (a1)), none, none], [eI (1)]), f :: F, m8)
      refine b_ine (t1 := 23) (t2 := 21) rfl rfl rfl rfl (fun g13 => ?_) (fun g13 => absurd g13 (by decide))
      refine w_t (np := 24) (l2 := [some (eR a0), some (eI (a1)), none, none]) (s2 := [eI (a1)]) rfl rfl rfl ?_
      refine w_t (np := 25) (l2 := [some (eR a0), some (eI (a1)), none, none]) (s2 := [eI (2), eI (a1)]) rfl rfl rfl ?_
      refine b_cle (t1 := 50) (t2 := 28) rfl rfl rfl (ev_w_in (by omega) (by omega)) rfl (fun g14 => ?_) (fun g14 => ?_)
      · have b15 : 0 ≤ a1 ∧ a1 ≤ 2 := by omega
        refine w_t (np := 51) (l2 := [some (eR a0), some (eI (a1)), none, none]) (s2 := [eR a0]) rfl (s_an rfl (pos_g I9 gA0 (by decide))) rfl ?_
        refine w_cw (np := 54) (as := []) (l2 := [some (eR a0), none, none, none, none]) (rest := []) rfl rfl rfl (Nat.ble_eq.mp rfl) rfl rfl rfl (I9.kd gA0 (by decide) (n := 69) rfl) rfl ?_
        refine s_304 I9 gA0 ?_
        intro m15 I16 F17
        have F18 : Fr l_334 0 0 g μ m15 := F11.t F17 rfl
        show ex_q (dt_fg L ρ) rc (d + 13, (334, 54, [some (eR a0), some (eI (a1)), none, none], []), f :: F, m15)
        refine w_t (np := 55) (l2 := [some (eR a0), some (eI (a1)), none, none]) (s2 := [eI (0)]) rfl rfl rfl ?_
        refine w_t (np := 56) (l2 := [some (eR a0), some (eI (a1)), some (eI (0)), none]) (s2 := []) rfl rfl rfl ?_
        refine w_t (np := 57) (l2 := [some (eR a0), some (eI (a1)), some (eI (0)), none]) (s2 := [eI (0)]) rfl rfl rfl ?_
        refine w_t (np := 58) (l2 := [some (eR a0), some (eI (a1)), some (eI (0)), some (eI (0))]) (s2 := []) rfl rfl rfl ?_
        have hL58 : ∀ (n19 : Nat) (m25 : eM) (i21 : Int) (i23 : Int), SI g m25 → Fr l_334 0 0 g μ m25 → (-2147483648 ≤ i21 ∧ i21 ≤ 2147483647) → (0 ≤ i23 ∧ i23 ≤ 96) → m25.1 a0 1 = 0 → m25.1 a0 0 = 0 → n19 = (96 - i23).toNat → ex_q (dt_fg L ρ) rc (d + 13, (334, 58, [some (eR a0), some (eI (a1)), some (eI (i21)), some (eI (i23))], []), f :: F, m25) := by
          intro n19
          induction n19 using Nat.strongRecOn with
          | _ n19 ih20 =>
          intro m25 i21 i23 I26 F27 b22 b24 k28 k29 hn30
          refine w_t (np := 59) (l2 := [some (eR a0), some (eI (a1)), some (eI (i21)), some (eI (i23))]) (s2 := [eI (i23)]) rfl rfl rfl ?_
          refine w_t (np := 60) (l2 := [some (eR a0), some (eI (a1)), some (eI (i21)), some (eI (i23))]) (s2 := [eR a0, eI (i23)]) rfl (s_an rfl (pos_g I26 gA0 (by decide))) rfl ?_
          refine j_gi (np := 63) rfl rfl rfl I26 gA0 (by decide) (n := 69) rfl rfl (lo := 0) (hi := 96) rfl ?_
          intro v31 e32 b33
          refine b_cge (t1 := 89) (t2 := 66) rfl rfl rfl (ev_w_in (by omega) (by omega)) (ev_w_in (by omega) (by omega)) (fun g34 => ?_) (fun g34 => ?_)
          · refine w_t (np := 90) (l2 := [some (eR a0), some (eI (a1)), some (eI (i21)), some (eI (i23))]) (s2 := [eI (i21)]) rfl rfl rfl ?_
            exact b_ri rfl rfl (K m25 (i21) I26 F27 (by omega))
          · have b35 : 0 ≤ i23 ∧ i23 ≤ 95 := by omega
            have b36 : 1 ≤ v31 ∧ v31 ≤ 96 := by omega
            refine w_t (np := 67) (l2 := [some (eR a0), some (eI (a1)), some (eI (i21)), some (eI (i23))]) (s2 := [eI (i21)]) rfl rfl rfl ?_
            refine w_t (np := 68) (l2 := [some (eR a0), some (eI (a1)), some (eI (i21)), some (eI (i23))]) (s2 := [eR a0, eI (i21)]) rfl (s_an rfl (pos_g I26 gA0 (by decide))) rfl ?_
            refine w_t (np := 69) (l2 := [some (eR a0), some (eI (a1)), some (eI (i21)), some (eI (i23))]) (s2 := [eI (i23), eR a0, eI (i21)]) rfl rfl rfl ?_
            refine w_cw (np := 72) (as := [eI (i23)]) (l2 := [some (eR a0), some (eI (i23)), none]) (rest := [eI (i21)]) rfl rfl rfl (Nat.ble_eq.mp rfl) rfl rfl rfl (I26.kd gA0 (by decide) (n := 69) rfl) rfl ?_
            refine s_332 (a1 := i23) I26 gA0 (by omega) ?_
            intro m35 v38 I36 F37 b39
            have F40 : Fr l_334 0 0 g μ m35 := F27.t F37 rfl
            show ex_q (dt_fg L ρ) rc (d + 13, (334, 72, [some (eR a0), some (eI (a1)), some (eI (i21)), some (eI (i23))], [eI (v38), eI (i21)]), f :: F, m35)
            refine w_t (np := 73) (l2 := [some (eR a0), some (eI (a1)), some (eI (i21)), some (eI (i23))]) (s2 := [eI (a1), eI (v38), eI (i21)]) rfl rfl rfl ?_
            refine b_cne (t1 := 80) (t2 := 76) rfl rfl rfl (ev_w_in (by omega) (by omega)) (ev_w_in (by omega) (by omega)) (fun g41 => ?_) (fun g41 => ?_)
            · refine w_t (np := 81) (l2 := [some (eR a0), some (eI (a1)), some (eI (i21)), some (eI (i23))]) (s2 := [eI (0), eI (i21)]) rfl rfl rfl ?_
              refine w_t (np := 82) (l2 := [some (eR a0), some (eI (a1)), some (eI (i21)), some (eI (i23))]) (s2 := [eI (i21)]) rfl (b_iadd (by rw [Int.add_zero]; exact ev_w_in (by omega) (by omega))) rfl ?_
              refine w_t (np := 83) (l2 := [some (eR a0), some (eI (a1)), some (eI (i21)), some (eI (i23))]) (s2 := []) rfl rfl rfl ?_
              obtain ⟨v42, e43⟩ : ∃ zz : Int, zz = (i23) + (1) := ⟨_, rfl⟩
              have b44 : 1 ≤ v42 ∧ v42 ≤ 96 := by omega
              refine w_t (np := 86) (l2 := [some (eR a0), some (eI (a1)), some (eI (i21)), some (eI (v42))]) (s2 := []) rfl (b_iinc rfl (by rw [← e43]; exact ev_w_in (by omega) (by omega)) rfl) rfl ?_
              refine w_go (t1 := 58) rfl rfl ?_
              exact ih20 (96 - (v42)).toNat (by omega) m35 (i21) (v42) I36 F40 (by omega) (by omega) (F37.k k28 gA0 (by decide) rfl) (F37.k k29 gA0 (by decide) rfl)    rfl
            · have b42 : 0 ≤ v38 ∧ v38 ≤ 2 := by omega
              refine w_t (np := 77) (l2 := [some (eR a0), some (eI (a1)), some (eI (i21)), some (eI (i23))]) (s2 := [eI (1), eI (i21)]) rfl rfl rfl ?_
              refine w_go (t1 := 81) rfl rfl ?_
              obtain ⟨v42, e43, b44⟩ : ∃ zz : Int, ev_w ((i21) + (1)) = zz ∧ (-2147483648 ≤ zz ∧ zz ≤ 2147483647) := ⟨_, rfl, hw_bd _⟩
              refine w_t (np := 82) (l2 := [some (eR a0), some (eI (a1)), some (eI (i21)), some (eI (i23))]) (s2 := [eI (v42)]) rfl (b_iadd e43) rfl ?_
              refine w_t (np := 83) (l2 := [some (eR a0), some (eI (a1)), some (eI (v42)), some (eI (i23))]) (s2 := []) rfl rfl rfl ?_
              obtain ⟨v45, e46⟩ : ∃ zz : Int, zz = (i23) + (1) := ⟨_, rfl⟩
              have b47 : 1 ≤ v45 ∧ v45 ≤ 96 := by omega
              refine w_t (np := 86) (l2 := [some (eR a0), some (eI (a1)), some (eI (v42)), some (eI (v45))]) (s2 := []) rfl (b_iinc rfl (by rw [← e46]; exact ev_w_in (by omega) (by omega)) rfl) rfl ?_
              refine w_go (t1 := 58) rfl rfl ?_
              exact ih20 (96 - (v45)).toNat (by omega) m35 (v42) (v45) I36 F40 (by omega) (by omega) (F37.k k28 gA0 (by decide) rfl) (F37.k k29 gA0 (by decide) rfl)    rfl
        exact hL58 _ m15 (0) (0) I16 F18 (by decide) (by decide) (F17.k (W10.slot W6.at (by decide)) gA0 (by decide) rfl) (F17.k W10.at gA0 (by decide) rfl)    rfl
      · have b15 : 3 ≤ a1 ∧ a1 ≤ 4 := by omega
        refine w_t (np := 29) (l2 := [some (eR a0), some (eI (a1)), none, none]) (s2 := [eR a0]) rfl (s_an rfl (pos_g I9 gA0 (by decide))) rfl ?_
        refine w_t (np := 30) (l2 := [some (eR a0), some (eI (a1)), none, none]) (s2 := [eI (a1), eR a0]) rfl rfl rfl ?_
        refine w_t (np := 31) (l2 := [some (eR a0), some (eI (a1)), none, none]) (s2 := [eI (2), eI (a1), eR a0]) rfl rfl rfl ?_
        obtain ⟨v15, e16⟩ : ∃ zz : Int, zz = (a1) - (2) := ⟨_, rfl⟩
        have b17 : 1 ≤ v15 ∧ v15 ≤ 2 := by omega
        refine w_t (np := 32) (l2 := [some (eR a0), some (eI (a1)), none, none]) (s2 := [eI (v15), eR a0]) rfl (b_isub (by rw [← e16]; exact ev_w_in (by omega) (by omega))) rfl ?_
        refine w_cw (np := 35) (as := [eI (v15)]) (l2 := [some (eR a0), some (eI (v15)), none]) (rest := []) rfl rfl rfl (Nat.ble_eq.mp rfl) rfl rfl rfl (I9.kd gA0 (by decide) (n := 69) rfl) rfl ?_
        refine s_333 (a1 := v15) I9 gA0 (by omega) ?_
        intro m18 v21 I19 F20 b22
        have F23 : Fr l_334 0 0 g μ m18 := F11.t F20 rfl
        show ex_q (dt_fg L ρ) rc (d + 13, (334, 35, [some (eR a0), some (eI (a1)), none, none], [eI (v21)]), f :: F, m18)
        refine w_t (np := 36) (l2 := [some (eR a0), some (eI (a1)), some (eI (v21)), none]) (s2 := []) rfl rfl rfl ?_
        refine w_t (np := 37) (l2 := [some (eR a0), some (eI (a1)), some (eI (v21)), none]) (s2 := [eI (v21)]) rfl rfl rfl ?_
        refine b_ige (t1 := 48) (t2 := 40) rfl rfl rfl (ev_w_in (by omega) (by omega)) (fun g24 => ?_) (fun g24 => ?_)
        · have b25 : 0 ≤ v21 ∧ v21 ≤ 95 := by omega
          refine w_t (np := 49) (l2 := [some (eR a0), some (eI (a1)), some (eI (v21)), none]) (s2 := [eI (v21)]) rfl rfl rfl ?_
          exact b_ri rfl rfl (K m18 (v21) I19 F23 (by omega))
        · have b25 : -1 ≤ v21 ∧ v21 ≤ -1 := by omega
          refine w_t (np := 41) (l2 := [some (eR a0), some (eI (a1)), some (eI (v21)), none]) (s2 := [eR a0]) rfl (s_an rfl (pos_g I19 gA0 (by decide))) rfl ?_
          refine w_t (np := 42) (l2 := [some (eR a0), some (eI (a1)), some (eI (v21)), none]) (s2 := [eI (5), eR a0]) rfl rfl rfl ?_
          refine w_cw (np := 45) (as := [eI (5)]) (l2 := [some (eR a0), some (eI (5))]) (rest := []) rfl rfl rfl (Nat.ble_eq.mp rfl) rfl rfl rfl (I19.kd gA0 (by decide) (n := 69) rfl) rfl ?_
          refine w_t (np := 1) (l2 := [some (eR a0), some (eI (5))]) (s2 := [eR a0]) rfl (s_an rfl (pos_g I19 gA0 (by decide))) rfl ?_
          refine w_t (np := 2) (l2 := [some (eR a0), some (eI (5))]) (s2 := [eI (5), eR a0]) rfl rfl rfl ?_
          refine j_pf (np := 5) (w := 5) rfl rfl I19 gA0 (by decide) (n := 69) rfl rfl (hO_i (lo := -2147483648) (hi := 2147483647) rfl (by decide)) ?_
          intro m25 I26 W27
          have F28 : Fr l_334 0 0 g μ m25 := F23.w W27 gA0 rfl
          refine w_t (np := 6) (l2 := [some (eR a0), some (eI (5))]) (s2 := [eI (-1)]) rfl rfl rfl ?_
          refine b_ri rfl rfl ?_
          show ex_q (dt_fg L ρ) rc (d + 13, (334, 45, [some (eR a0), some (eI (a1)), some (eI (v21)), none], [eI (-1)]), f :: F, m25)
          refine w_go (t1 := 49) rfl rfl ?_
          exact b_ri rfl rfl (K m25 (-1) I26 F28 (by decide))
