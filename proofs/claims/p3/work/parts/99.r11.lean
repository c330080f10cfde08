/-! methods, walked -/
def l_353 : List Nat := [13313, 13314, 13315, 13316, 13317, 13362, 13318, 13367, 13368, 13369, 13370, 13371, 13372, 13373, 13374, 13375, 13376, 13377, 13378, 21504, 21248, 20224, 20480]
theorem s_353 {L : Nat} {ρ : Nat → Int} {rc : eQ} {d : Nat} {f : eFr} {F : List eFr} {μ : eM} {g : Nat → Nat} {a0 : Nat} {a1 : Int} (hI : SI g μ) (gA0 : g a0 = 52) (bA1 : -2147483648 ≤ a1 ∧ a1 ≤ 2147483647) (K : ∀ (μ2 : eM) (v : Int), SI g μ2 → Fr l_353 0 0 g μ μ2 → (-2147483648 ≤ v ∧ v ≤ 2147483647) → ex_q (dt_fg L ρ) rc (d + 9, (f.1, f.2.1, f.2.2.1, eI v :: f.2.2.2), F, μ2)) : ex_q (dt_fg L ρ) rc (d + 8, (353, 0, [some (eR a0), some (eI (a1)), none], []), f :: F, μ) := by
  have F0 : Fr l_353 0 0 g μ μ := Fr.r
  refine w_t (np := 1) (l2 := [some (eR a0), some (eI (a1)), none]) (s2 := [eR a0]) rfl (s_an rfl (pos_g hI gA0 (by decide))) rfl ?_
  refine w_t (np := 2) (l2 := [some (eR a0), some (eI (a1)), none]) (s2 := [eI (a1), eR a0]) rfl rfl rfl ?_
  refine w_t (np := 3) (l2 := [some (eR a0), some (eI (a1)), none]) (s2 := [eI (0), eI (a1), eR a0]) rfl rfl rfl ?_
  refine w_t (np := 4) (l2 := [some (eR a0), some (eI (a1)), none]) (s2 := [eR a0, eI (0), eI (a1), eR a0]) rfl (s_an rfl (pos_g hI gA0 (by decide))) rfl ?_
  refine j_gi (np := 7) rfl rfl rfl hI gA0 (by decide) (n := 69) rfl rfl (lo := 0) (hi := 900) rfl ?_
  intro v1 e2 b3
  refine w_cu (np := 10) (as := [eI (a1), eI (0), eI (v1)]) (l2 := [some (eI (a1)), some (eI (0)), some (eI (v1))]) (rest := [eR a0]) rfl rfl rfl (Nat.ble_eq.mp rfl) rfl rfl rfl rfl ?_
  refine w_t (np := 1) (l2 := [some (eI (a1)), some (eI (0)), some (eI (v1))]) (s2 := [eI (a1)]) rfl rfl rfl ?_
  refine w_t (np := 2) (l2 := [some (eI (a1)), some (eI (0)), some (eI (v1))]) (s2 := [eI (0), eI (a1)]) rfl rfl rfl ?_
  refine b_clt (t1 := 14) (t2 := 5) rfl rfl rfl (ev_w_in (by omega) (by omega)) rfl (fun g4 => ?_) (fun g4 => ?_)
  · have b5 : -2147483648 ≤ a1 ∧ a1 ≤ -1 := by omega
    refine w_t (np := 15) (l2 := [some (eI (a1)), some (eI (0)), some (eI (v1))]) (s2 := [eI (0)]) rfl rfl rfl ?_
    refine b_rz rfl rfl (Or.inl rfl) ?_
    show ex_q (dt_fg L ρ) rc (d + 8, (353, 10, [some (eR a0), some (eI (a1)), none], [eI (0), eR a0]), f :: F, μ)
    refine b_ieq (t1 := 17) (t2 := 13) rfl rfl rfl rfl (fun g5 => ?_) (fun g5 => absurd g5 (by decide))
    refine w_t (np := 18) (l2 := [some (eR a0), some (eI (a1)), none]) (s2 := [eI (1), eR a0]) rfl rfl rfl ?_
    refine w_cw (np := 21) (as := [eI (1)]) (l2 := [some (eR a0), some (eI (1))]) (rest := []) rfl rfl rfl (Nat.ble_eq.mp rfl) rfl rfl rfl (hI.kd gA0 (by decide) (n := 69) rfl) rfl ?_
    refine w_t (np := 1) (l2 := [some (eR a0), some (eI (1))]) (s2 := [eR a0]) rfl (s_an rfl (pos_g hI gA0 (by decide))) rfl ?_
    refine w_t (np := 2) (l2 := [some (eR a0), some (eI (1))]) (s2 := [eI (0), eR a0]) rfl rfl rfl ?_
    refine j_pf (np := 5) (w := 0) rfl rfl hI gA0 (by decide) (n := 69) rfl rfl (hO_i (lo := -2147483648) (hi := 2147483647) rfl (by decide)) ?_
    intro m6 I7 W8
    have F9 : Fr l_353 0 0 g μ m6 := F0.w W8 gA0 rfl
    refine w_t (np := 6) (l2 := [some (eR a0), some (eI (1))]) (s2 := [eR a0]) rfl (s_an rfl (pos_g I7 gA0 (by decide))) rfl ?_
    refine w_t (np := 7) (l2 := [some (eR a0), some (eI (1))]) (s2 := [eI (1), eR a0]) rfl rfl rfl ?_
    refine j_pf (np := 10) (w := 1) rfl rfl I7 gA0 (by decide) (n := 69) rfl rfl (hO_i (lo := -2147483648) (hi := 2147483647) rfl (by decide)) ?_
    intro m10 I11 W12
    have F13 : Fr l_353 0 0 g μ m10 := F9.w W12 gA0 rfl
    refine w_t (np := 11) (l2 := [some (eR a0), some (eI (1))]) (s2 := [eI (1)]) rfl rfl rfl ?_
    refine b_ine (t1 := 18) (t2 := 14) rfl rfl rfl rfl (fun g14 => ?_) (fun g14 => absurd g14 (by decide))
    refine w_t (np := 19) (l2 := [some (eR a0), some (eI (1))]) (s2 := [eI (0)]) rfl rfl rfl ?_
    refine b_rz rfl rfl (Or.inl rfl) ?_
    show ex_q (dt_fg L ρ) rc (d + 8, (353, 21, [some (eR a0), some (eI (a1)), none], [eI (0)]), f :: F, m10)
    refine b_ine (t1 := 26) (t2 := 24) rfl rfl rfl rfl (fun g15 => absurd g15 (by decide)) (fun g15 => ?_)
    refine w_t (np := 25) (l2 := [some (eR a0), some (eI (a1)), none]) (s2 := [eI (-1)]) rfl rfl rfl ?_
    exact b_ri rfl rfl (K m10 (-1) I11 F13 (by decide))
  · have b5 : 0 ≤ a1 ∧ a1 ≤ 2147483647 := by omega
    refine w_t (np := 6) (l2 := [some (eI (a1)), some (eI (0)), some (eI (v1))]) (s2 := [eI (a1)]) rfl rfl rfl ?_
    refine w_t (np := 7) (l2 := [some (eI (a1)), some (eI (0)), some (eI (v1))]) (s2 := [eI (v1), eI (a1)]) rfl rfl rfl ?_
    refine b_cgt (t1 := 14) (t2 := 10) rfl rfl rfl (ev_w_in (by omega) (by omega)) (ev_w_in (by omega) (by omega)) (fun g5 => ?_) (fun g5 => ?_)
    · have b6 : 1 ≤ a1 ∧ a1 ≤ 2147483647 := by omega
      refine w_t (np := 15) (l2 := [some (eI (a1)), some (eI (0)), some (eI (v1))]) (s2 := [eI (0)]) rfl rfl rfl ?_
      refine b_rz rfl rfl (Or.inl rfl) ?_
      show ex_q (dt_fg L ρ) rc (d + 8, (353, 10, [some (eR a0), some (eI (a1)), none], [eI (0), eR a0]), f :: F, μ)
      refine b_ieq (t1 := 17) (t2 := 13) rfl rfl rfl rfl (fun g6 => ?_) (fun g6 => absurd g6 (by decide))
      refine w_t (np := 18) (l2 := [some (eR a0), some (eI (a1)), none]) (s2 := [eI (1), eR a0]) rfl rfl rfl ?_
      refine w_cw (np := 21) (as := [eI (1)]) (l2 := [some (eR a0), some (eI (1))]) (rest := []) rfl rfl rfl (Nat.ble_eq.mp rfl) rfl rfl rfl (hI.kd gA0 (by decide) (n := 69) rfl) rfl ?_
      refine w_t (np := 1) (l2 := [some (eR a0), some (eI (1))]) (s2 := [eR a0]) rfl (s_an rfl (pos_g hI gA0 (by decide))) rfl ?_
      refine w_t (np := 2) (l2 := [some (eR a0), some (eI (1))]) (s2 := [eI (0), eR a0]) rfl rfl rfl ?_
      refine j_pf (np := 5) (w := 0) rfl rfl hI gA0 (by decide) (n := 69) rfl rfl (hO_i (lo := -2147483648) (hi := 2147483647) rfl (by decide)) ?_
      intro m7 I8 W9
      have F10 : Fr l_353 0 0 g μ m7 := F0.w W9 gA0 rfl
      refine w_t (np := 6) (l2 := [some (eR a0), some (eI (1))]) (s2 := [eR a0]) rfl (s_an rfl (pos_g I8 gA0 (by decide))) rfl ?_
      refine w_t (np := 7) (l2 := [some (eR a0), some (eI (1))]) (s2 := [eI (1), eR a0]) rfl rfl rfl ?_
      refine j_pf (np := 10) (w := 1) rfl rfl I8 gA0 (by decide) (n := 69) rfl rfl (hO_i (lo := -2147483648) (hi := 2147483647) rfl (by decide)) ?_
      intro m11 I12 W13
      have F14 : Fr l_353 0 0 g μ m11 := F10.w W13 gA0 rfl
      refine w_t (np := 11) (l2 := [some (eR a0), some (eI (1))]) (s2 := [eI (1)]) rfl rfl rfl ?_
      refine b_ine (t1 := 18) (t2 := 14) rfl rfl rfl rfl (fun g15 => ?_) (fun g15 => absurd g15 (by decide))
      refine w_t (np := 19) (l2 := [some (eR a0), some (eI (1))]) (s2 := [eI (0)]) rfl rfl rfl ?_
      refine b_rz rfl rfl (Or.inl rfl) ?_
      show ex_q (dt_fg L ρ) rc (d + 8, (353, 21, [some (eR a0), some (eI (a1)), none], [eI (0)]), f :: F, m11)
      refine b_ine (t1 := 26) (t2 := 24) rfl rfl rfl rfl (fun g16 => absurd g16 (by decide)) (fun g16 => ?_)
      refine w_t (np := 25) (l2 := [some (eR a0), some (eI (a1)), none]) (s2 := [eI (-1)]) rfl rfl rfl ?_
      exact b_ri rfl rfl (K m11 (-1) I12 F14 (by decide))
    · have b6 : 0 ≤ a1 ∧ a1 ≤ 900 := by omega
      refine w_t (np := 11) (l2 := [some (eI (a1)), some (eI (0)), some (eI (v1))]) (s2 := [eI (1)]) rfl rfl rfl ?_
      refine w_go (t1 := 15) rfl rfl ?_
      refine b_rz rfl rfl (Or.inr rfl) ?_
      show ex_q (dt_fg L ρ) rc (d + 8, (353, 10, [some (eR a0), some (eI (a1)), none], [eI (1), eR a0]), f :: F, μ)
      refine b_ieq (t1 := 17) (t2 := 13) rfl rfl rfl rfl (fun g6 => absurd g6 (by decide)) (fun g6 => ?_)
      refine w_t (np := 14) (l2 := [some (eR a0), some (eI (a1)), none]) (s2 := [eI (0), eR a0]) rfl rfl rfl ?_
      refine w_go (t1 := 18) rfl rfl ?_
      refine w_cw (np := 21) (as := [eI (0)]) (l2 := [some (eR a0), some (eI (0))]) (rest := []) rfl rfl rfl (Nat.ble_eq.mp rfl) rfl rfl rfl (hI.kd gA0 (by decide) (n := 69) rfl) rfl ?_
      refine w_t (np := 1) (l2 := [some (eR a0), some (eI (0))]) (s2 := [eR a0]) rfl (s_an rfl (pos_g hI gA0 (by decide))) rfl ?_
      refine w_t (np := 2) (l2 := [some (eR a0), some (eI (0))]) (s2 := [eI (0), eR a0]) rfl rfl rfl ?_
      refine j_pf (np := 5) (w := 0) rfl rfl hI gA0 (by decide) (n := 69) rfl rfl (hO_i (lo := -2147483648) (hi := 2147483647) rfl (by decide)) ?_
      intro m7 I8 W9
      have F10 : Fr l_353 0 0 g μ m7 := F0.w W9 gA0 rfl
      refine w_t (np := 6) (l2 := [some (eR a0), some (eI (0))]) (s2 := [eR a0]) rfl (s_an rfl (pos_g I8 gA0 (by decide))) rfl ?_
      refine w_t (np := 7) (l2 := [some (eR a0), some (eI (0))]) (s2 := [eI (0), eR a0]) rfl rfl rfl ?_
      refine j_pf (np := 10) (w := 0) rfl rfl I8 gA0 (by decide) (n := 69) rfl rfl (hO_i (lo := -2147483648) (hi := 2147483647) rfl (by decide)) ?_
      intro m11 I12 W13
      have F14 : Fr l_353 0 0 g μ m11 := F10.w W13 gA0 rfl
      refine w_t (np := 11) (l2 := [some (eR a0), some (eI (0))]) (s2 := [eI (0)]) rfl rfl rfl ?_
      refine b_ine (t1 := 18) (t2 := 14) rfl rfl rfl rfl (fun g15 => absurd g15 (by decide)) (fun g15 => ?_)
      refine w_t (np := 15) (l2 := [some (eR a0), some (eI (0))]) (s2 := [eI (1)]) rfl rfl rfl ?_
      refine w_go (t1 := 19) rfl rfl ?_
      refine b_rz rfl rfl (Or.inr rfl) ?_
      show ex_q (dt_fg L ρ) rc (d + 8, (353, 21, [some (eR a0), some (eI (a1)), none], [eI (1)]), f :: F, m11)
      refine b_ine (t1 := 26) (t2 := 24) rfl rfl rfl rfl (fun g16 => ?_) (fun g16 => absurd g16 (by decide))
      refine w_t (np := 27) (l2 := [some (eR a0), some (eI (a1)), none]) (s2 := [eI (0)]) rfl rfl rfl ?_
      refine w_t (np := 28) (l2 := [some (eR a0), some (eI (a1)), some (eI (0))]) (s2 := []) rfl rfl rfl ?_
      have hL28 : ∀ (n17 : Nat) (m21 : eM) (i19 : Int), SI g m21 → Fr l_353 0 0 g μ m21 → (0 ≤ i19 ∧ i19 ≤ 254) → m21.1 a0 54 = v1 → m21.1 a0 1 = 0 → m21.1 a0 0 = 0 → n17 = (254 - i19).toNat → ex_q (dt_fg L ρ) rc (d + 8, (353, 28, [some (eR a0), some (eI (a1)), some (eI (i19))], []), f :: F, m21) := by
        intro n17
        induction n17 using Nat.strongRecOn with
        | _ n17 ih18 =>
        intro m21 i19 I22 F23 b20 k24 k25 k26 hn27
        refine w_t (np := 29) (l2 := [some (eR a0), some (eI (a1)), some (eI (i19))]) (s2 := [eI (i19)]) rfl rfl rfl ?_
        refine w_t (np := 32) (l2 := [some (eR a0), some (eI (a1)), some (eI (i19))]) (s2 := [eI (168), eI (i19)]) rfl rfl rfl ?_
        refine b_cge (t1 := 53) (t2 := 35) rfl rfl rfl (ev_w_in (by omega) (by omega)) rfl (fun g28 => ?_) (fun g28 => ?_)
        · have b29 : 168 ≤ i19 ∧ i19 ≤ 254 := by omega
          refine w_t (np := 54) (l2 := [some (eR a0), some (eI (a1)), some (eI (i19))]) (s2 := [eR a0]) rfl (s_an rfl (pos_g I22 gA0 (by decide))) rfl ?_
          refine w_t (np := 55) (l2 := [some (eR a0), some (eI (a1)), some (eI (i19))]) (s2 := [eR a0, eR a0]) rfl (s_an rfl (pos_g I22 gA0 (by decide))) rfl ?_
          refine j_gi (np := 58) rfl rfl rfl I22 gA0 (by decide) (n := 69) rfl rfl (lo := 0) (hi := 24) rfl ?_
          intro v29 e30 b31
          refine j_pf (np := 61) (w := v29) rfl rfl I22 gA0 (by decide) (n := 69) rfl rfl (hO_i (lo := 0) (hi := 24) rfl (by omega)) ?_
          intro m32 I33 W34
          have F35 : Fr l_353 0 0 g μ m32 := F23.w W34 gA0 rfl
          refine w_t (np := 62) (l2 := [some (eR a0), some (eI (a1)), some (eI (i19))]) (s2 := [eR a0]) rfl (s_an rfl (pos_g I33 gA0 (by decide))) rfl ?_
          refine w_t (np := 63) (l2 := [some (eR a0), some (eI (a1)), some (eI (i19))]) (s2 := [eI (0), eR a0]) rfl rfl rfl ?_
          refine j_pf (np := 66) (w := 0) rfl rfl I33 gA0 (by decide) (n := 69) rfl rfl (hO_i (lo := 0) (hi := 24) rfl (by decide)) ?_
          intro m36 I37 W38
          have F39 : Fr l_353 0 0 g μ m36 := F35.w W38 gA0 rfl
          refine w_t (np := 67) (l2 := [some (eR a0), some (eI (a1)), some (eI (i19))]) (s2 := [eR a0]) rfl (s_an rfl (pos_g I37 gA0 (by decide))) rfl ?_
          refine w_t (np := 68) (l2 := [some (eR a0), some (eI (a1)), some (eI (i19))]) (s2 := [eI (a1), eR a0]) rfl rfl rfl ?_
          refine j_pf (np := 71) (w := a1) rfl rfl I37 gA0 (by decide) (n := 69) rfl rfl (hO_i (lo := 0) (hi := 900) rfl (by omega)) ?_
          intro m40 I41 W42
          have F43 : Fr l_353 0 0 g μ m40 := F39.w W42 gA0 rfl
          refine w_t (np := 72) (l2 := [some (eR a0), some (eI (a1)), some (eI (i19))]) (s2 := [eR a0]) rfl (s_an rfl (pos_g I41 gA0 (by decide))) rfl ?_
          refine w_t (np := 73) (l2 := [some (eR a0), some (eI (a1)), some (eI (i19))]) (s2 := [eI (0), eR a0]) rfl rfl rfl ?_
          refine j_pf (np := 76) (w := 0) rfl rfl I41 gA0 (by decide) (n := 69) rfl rfl (hO_i (lo := 0) (hi := 902) rfl (by decide)) ?_
          intro m44 I45 W46
          have F47 : Fr l_353 0 0 g μ m44 := F43.w W46 gA0 rfl
          refine w_t (np := 77) (l2 := [some (eR a0), some (eI (a1)), some (eI (i19))]) (s2 := [eR a0]) rfl (s_an rfl (pos_g I45 gA0 (by decide))) rfl ?_
          refine w_t (np := 78) (l2 := [some (eR a0), some (eI (a1)), some (eI (i19))]) (s2 := [eI (0), eR a0]) rfl rfl rfl ?_
          refine j_pf (np := 81) (w := 0) rfl rfl I45 gA0 (by decide) (n := 69) rfl rfl (hO_i (lo := 0) (hi := 8) rfl (by decide)) ?_
          intro m48 I49 W50
          have F51 : Fr l_353 0 0 g μ m48 := F47.w W50 gA0 rfl
          refine w_t (np := 82) (l2 := [some (eR a0), some (eI (a1)), some (eI (i19))]) (s2 := [eR a0]) rfl (s_an rfl (pos_g I49 gA0 (by decide))) rfl ?_
          refine w_cw (np := 85) (as := []) (l2 := [some (eR a0)]) (rest := []) rfl rfl rfl (Nat.ble_eq.mp rfl) rfl rfl rfl (I49.kd gA0 (by decide) (n := 69) rfl) rfl ?_
          obtain ⟨v52, e53, b54⟩ := I49.pk (k := 61) gA0 (by decide) (n := 69) rfl rfl (lo := -2147483648) (hi := 2147483647) rfl
          obtain ⟨v55, e56, b57⟩ := I49.pk (k := 59) gA0 (by decide) (n := 69) rfl rfl (lo := 0) (hi := 902) rfl
          refine s_345 I49 gA0 e53 e56 (W50.slot W46.at (by decide)) (by omega) ?_
          intro m58 v61 v63 v65 I59 F60 e62 e64 e66 h67 h68
          have F69 : Fr l_353 0 0 g μ m58 := F51.t F60 rfl
          have b70 : -2147483648 ≤ v61 ∧ v61 ≤ 2147483647 := by
            rw [← e62]
            exact I59.int gA0 (by decide) (n := 69) rfl (by decide) rfl
          have b71 : 0 ≤ v63 ∧ v63 ≤ 902 := by
            rw [← e64]
            exact I59.int gA0 (by decide) (n := 69) rfl (by decide) rfl
          have b72 : 0 ≤ v65 ∧ v65 ≤ 902 := by
            rw [← e66]
            exact I59.int gA0 (by decide) (n := 69) rfl (by decide) rfl
          show ex_q (dt_fg L ρ) rc (d + 8, (353, 85, [some (eR a0), some (eI (a1)), some (eI (i19))], []), f :: F, m58)
          have hL85 : ∀ (n73 : Nat) (m75 : eM) (x78 : Int) (x81 : Int) (x84 : Int) (x87 : Int) (x90 : Int), SI g m75 → Fr l_353 0 0 g μ m75 → m75.1 a0 54 = v1 → m75.1 a0 1 = 0 → m75.1 a0 0 = 0 → m75.1 a0 64 = v29 → m75.1 a0 63 = a1 → m75.1 a0 57 = x78 → (0 ≤ x78 ∧ x78 ≤ 8) → m75.1 a0 59 = x81 → (0 ≤ x81 ∧ x81 ≤ 902) → m75.1 a0 60 = x84 → (0 ≤ x84 ∧ x84 ≤ 902) → m75.1 a0 61 = x87 → (-2147483648 ≤ x87 ∧ x87 ≤ 2147483647) → m75.1 a0 49 = x90 → (0 ≤ x90 ∧ x90 ≤ 24) → x87 = 0 ∨ x87 = 4 ∨ x84 ≤ 900 → x87 ≠ 3 ∨ x81 ≤ 899 → n73 = (50 - 2 * x90 - min x78 1).toNat → ex_q (dt_fg L ρ) rc (d + 8, (353, 85, [some (eR a0), some (eI (a1)), some (eI (i19))], []), f :: F, m75) := by
            intro n73
            induction n73 using Nat.strongRecOn with
            | _ n73 ih74 =>
            intro m75 x78 x81 x84 x87 x90 I76 F77 k93 k94 k95 k96 k97 h79 b80 h82 b83 h85 b86 h88 b89 h91 b92 r98 r99 hn100
            refine w_t (np := 86) (l2 := [some (eR a0), some (eI (a1)), some (eI (i19))]) (s2 := [eR a0]) rfl (s_an rfl (pos_g I76 gA0 (by decide))) rfl ?_
            refine w_gf (np := 89) (v := eI (x78)) rfl rfl (I76.kd gA0 (by decide) (n := 69) rfl) (by rw [h79]; rfl) ?_
            refine b_ine (t1 := 106) (t2 := 92) rfl rfl rfl (ev_w_in (by omega) (by omega)) (fun g101 => ?_) (fun g101 => ?_)
            · have b102 : 1 ≤ x78 ∧ x78 ≤ 8 := by omega
              refine w_t (np := 107) (l2 := [some (eR a0), some (eI (a1)), some (eI (i19))]) (s2 := [eR a0]) rfl (s_an rfl (pos_g I76 gA0 (by decide))) rfl ?_
              refine w_t (np := 108) (l2 := [some (eR a0), some (eI (a1)), some (eI (i19))]) (s2 := [eI (0), eR a0]) rfl rfl rfl ?_
              refine j_pf (np := 111) (w := 0) rfl rfl I76 gA0 (by decide) (n := 69) rfl rfl (hO_i (lo := 0) (hi := 900) rfl (by decide)) ?_
              intro m102 I103 W104
              have F105 : Fr l_353 0 0 g μ m102 := F77.w W104 gA0 rfl
              refine w_t (np := 112) (l2 := [some (eR a0), some (eI (a1)), some (eI (i19))]) (s2 := [eR a0]) rfl (s_an rfl (pos_g I103 gA0 (by decide))) rfl ?_
              refine w_t (np := 113) (l2 := [some (eR a0), some (eI (a1)), some (eI (i19))]) (s2 := [eR a0, eR a0]) rfl (s_an rfl (pos_g I103 gA0 (by decide))) rfl ?_
              refine w_gf (np := 116) (v := eI (x78)) rfl rfl (I103.kd gA0 (by decide) (n := 69) rfl) (by rw [(W104.slot h79 (by decide))]; rfl) ?_
              refine j_pf (np := 119) (w := x78) rfl rfl I103 gA0 (by decide) (n := 69) rfl rfl (hO_i (lo := -2147483648) (hi := 2147483647) rfl (by omega)) ?_
              intro m106 I107 W108
              have F109 : Fr l_353 0 0 g μ m106 := F105.w W108 gA0 rfl
              refine w_t (np := 120) (l2 := [some (eR a0), some (eI (a1)), some (eI (i19))]) (s2 := [eR a0]) rfl (s_an rfl (pos_g I107 gA0 (by decide))) rfl ?_
              refine w_t (np := 121) (l2 := [some (eR a0), some (eI (a1)), some (eI (i19))]) (s2 := [eR a0, eR a0]) rfl (s_an rfl (pos_g I107 gA0 (by decide))) rfl ?_
              refine w_gf (np := 124) (v := eI (x78)) rfl rfl (I107.kd gA0 (by decide) (n := 69) rfl) (by rw [(W108.slot (W104.slot h79 (by decide)) (by decide))]; rfl) ?_
              refine b_ile (t1 := 134) (t2 := 127) rfl rfl rfl (ev_w_in (by omega) (by omega)) (fun g110 => False.elim (by omega)) (fun g110 => ?_)
              refine w_t (np := 128) (l2 := [some (eR a0), some (eI (a1)), some (eI (i19))]) (s2 := [eR a0, eR a0]) rfl (s_an rfl (pos_g I107 gA0 (by decide))) rfl ?_
              refine j_gi (np := 131) rfl rfl rfl I107 gA0 (by decide) (n := 69) rfl rfl (lo := -2147483648) (hi := 2147483647) rfl ?_
              intro v111 e112 b113
              refine w_go (t1 := 135) rfl rfl ?_
              refine j_pf (np := 138) (w := v111) rfl rfl I107 gA0 (by decide) (n := 69) rfl rfl (hO_i (lo := -2147483648) (hi := 2147483647) rfl (by omega)) ?_
              intro m114 I115 W116
              have F117 : Fr l_353 0 0 g μ m114 := F109.w W116 gA0 rfl
              refine w_t (np := 139) (l2 := [some (eR a0), some (eI (a1)), some (eI (i19))]) (s2 := [eR a0]) rfl (s_an rfl (pos_g I115 gA0 (by decide))) rfl ?_
              refine w_gf (np := 142) (v := eI (x78)) rfl rfl (I115.kd gA0 (by decide) (n := 69) rfl) (by rw [(W116.slot (W108.slot (W104.slot h79 (by decide)) (by decide)) (by decide))]; rfl) ?_
              refine b_ine (t1 := 150) (t2 := 145) rfl rfl rfl (ev_w_in (by omega) (by omega)) (fun g118 => ?_) (fun g118 => False.elim (by omega))
              refine w_t (np := 151) (l2 := [some (eR a0), some (eI (a1)), some (eI (i19))]) (s2 := [eR a0]) rfl (s_an rfl (pos_g I115 gA0 (by decide))) rfl ?_
              refine w_t (np := 153) (l2 := [some (eR a0), some (eI (a1)), some (eI (i19))]) (s2 := [eI (9), eR a0]) rfl rfl rfl ?_
              refine j_pf (np := 156) (w := 9) rfl rfl I115 gA0 (by decide) (n := 69) rfl rfl (hO_i (lo := -2147483648) (hi := 2147483647) rfl (by decide)) ?_
              intro m119 I120 W121
              have F122 : Fr l_353 0 0 g μ m119 := F117.w W121 gA0 rfl
              refine w_t (np := 157) (l2 := [some (eR a0), some (eI (a1)), some (eI (i19))]) (s2 := [eI (0)]) rfl rfl rfl ?_
              refine w_t (np := 158) (l2 := [some (eR a0), some (eI (a1)), some (eI (0))]) (s2 := []) rfl rfl rfl ?_
              have hL158 : ∀ (n123 : Nat) (m127 : eM) (i125 : Int), SI g m127 → Fr l_353 0 0 g μ m127 → (0 ≤ i125 ∧ i125 ≤ 254) → m127.1 a0 1 = 0 → m127.1 a0 64 = v29 → m127.1 a0 63 = a1 → m127.1 a0 57 = x78 → m127.1 a0 59 = x81 → m127.1 a0 60 = x84 → m127.1 a0 61 = x87 → m127.1 a0 49 = x90 → m127.1 a0 54 = 0 → m127.1 a0 55 = x78 → m127.1 a0 58 = v111 → m127.1 a0 56 = v111 → m127.1 a0 0 = 9 → n123 = (254 - i125).toNat → ex_q (dt_fg L ρ) rc (d + 8, (353, 158, [some (eR a0), some (eI (a1)), some (eI (i125))], []), f :: F, m127) := by
                intro n123
                induction n123 using Nat.strongRecOn with
                | _ n123 ih124 =>
                intro m127 i125 I128 F129 b126 k130 k131 k132 k133 k134 k135 k136 k137 k138 k139 k140 k141 k142 hn143
                refine w_t (np := 159) (l2 := [some (eR a0), some (eI (a1)), some (eI (i125))]) (s2 := [eI (i125)]) rfl rfl rfl ?_
                refine w_t (np := 162) (l2 := [some (eR a0), some (eI (a1)), some (eI (i125))]) (s2 := [eI (168), eI (i125)]) rfl rfl rfl ?_
                refine b_cge (t1 := 183) (t2 := 165) rfl rfl rfl (ev_w_in (by omega) (by omega)) rfl (fun g144 => ?_) (fun g144 => ?_)
                · have b145 : 168 ≤ i125 ∧ i125 ≤ 254 := by omega
                  refine w_t (np := 184) (l2 := [some (eR a0), some (eI (a1)), some (eI (i125))]) (s2 := [eR a0]) rfl (s_an rfl (pos_g I128 gA0 (by decide))) rfl ?_
                  refine w_t (np := 185) (l2 := [some (eR a0), some (eI (a1)), some (eI (i125))]) (s2 := [eR a0, eR a0]) rfl (s_an rfl (pos_g I128 gA0 (by decide))) rfl ?_
                  refine w_gf (np := 188) (v := eI (v29)) rfl rfl (I128.kd gA0 (by decide) (n := 69) rfl) (by rw [k131]; rfl) ?_
                  refine j_pf (np := 191) (w := v29) rfl rfl I128 gA0 (by decide) (n := 69) rfl rfl (hO_i (lo := 0) (hi := 24) rfl (by omega)) ?_
                  intro m145 I146 W147
                  have F148 : Fr l_353 0 0 g μ m145 := F129.w W147 gA0 rfl
                  refine w_t (np := 192) (l2 := [some (eR a0), some (eI (a1)), some (eI (i125))]) (s2 := [eI (-1)]) rfl rfl rfl ?_
                  exact b_ri rfl rfl (K m145 (-1) I146 F148 (by decide))
                · have b145 : 0 ≤ i125 ∧ i125 ≤ 167 := by omega
                  refine w_t (np := 166) (l2 := [some (eR a0), some (eI (a1)), some (eI (i125))]) (s2 := [eR a0]) rfl (s_an rfl (pos_g I128 gA0 (by decide))) rfl ?_
                  refine j_gr (np := 169) rfl rfl I128 gA0 (by decide) (n := 69) rfl rfl rfl ?_
                  intro v145 e146 b147 z148
                  have b147 : g v145 = 79 := Nat.eq_of_beq_eq_true b147
                  refine w_t (np := 170) (l2 := [some (eR a0), some (eI (a1)), some (eI (i125))]) (s2 := [eI (i125), eR v145]) rfl rfl rfl ?_
                  refine w_t (np := 171) (l2 := [some (eR a0), some (eI (a1)), some (eI (i125))]) (s2 := [eR a0, eI (i125), eR v145]) rfl (s_an rfl (pos_g I128 gA0 (by decide))) rfl ?_
                  refine j_gr (np := 174) rfl rfl I128 gA0 (by decide) (n := 69) rfl rfl rfl ?_
                  intro v149 e150 b151 z152
                  have b151 : g v149 = 80 := Nat.eq_of_beq_eq_true b151
                  refine w_t (np := 175) (l2 := [some (eR a0), some (eI (a1)), some (eI (i125))]) (s2 := [eI (i125), eR v149, eI (i125), eR v145]) rfl rfl rfl ?_
                  refine j_al (np := 176) rfl rfl I128 b151 (by decide) (n := 168) rfl rfl (lo := -2147483648) (hi := 2147483647) (fun _ => rfl) (by omega) (by omega) ?_
                  intro v153 e154 b155
                  refine j_as (np := 177) rfl rfl I128 b147 (by decide) (n := 168) rfl rfl (lo := -2147483648) (hi := 2147483647) (fun _ => rfl) (by omega) (by omega) (by omega) ?_
                  intro m156 I157 W158
                  have F159 : Fr l_353 0 0 g μ m156 := F129.v W158 b147 rfl rfl
                  obtain ⟨v160, e161⟩ : ∃ zz : Int, zz = (i125) + (1) := ⟨_, rfl⟩
                  have b162 : 1 ≤ v160 ∧ v160 ≤ 168 := by omega
                  refine w_t (np := 180) (l2 := [some (eR a0), some (eI (a1)), some (eI (v160))]) (s2 := []) rfl (b_iinc rfl (by rw [← e161]; exact ev_w_in (by omega) (by omega)) rfl) rfl ?_
                  refine w_go (t1 := 158) rfl rfl ?_
                  exact ih124 (254 - (v160)).toNat (by omega) m156 (v160) I157 F159 (by omega) (W158.addr k130 b147 gA0 (by decide)) (W158.addr k131 b147 gA0 (by decide)) (W158.addr k132 b147 gA0 (by decide)) (W158.addr k133 b147 gA0 (by decide)) (W158.addr k134 b147 gA0 (by decide)) (W158.addr k135 b147 gA0 (by decide)) (W158.addr k136 b147 gA0 (by decide)) (W158.addr k137 b147 gA0 (by decide)) (W158.addr k138 b147 gA0 (by decide)) (W158.addr k139 b147 gA0 (by decide)) (W158.addr k140 b147 gA0 (by decide)) (W158.addr k141 b147 gA0 (by decide)) (W158.addr k142 b147 gA0 (by decide))    rfl
              exact hL158 _ m119 (0) I120 F122 (by decide) (W121.slot (W116.slot (W108.slot (W104.slot k94 (by decide)) (by decide)) (by decide)) (by decide)) (W121.slot (W116.slot (W108.slot (W104.slot k96 (by decide)) (by decide)) (by decide)) (by decide)) (W121.slot (W116.slot (W108.slot (W104.slot k97 (by decide)) (by decide)) (by decide)) (by decide)) (W121.slot (W116.slot (W108.slot (W104.slot h79 (by decide)) (by decide)) (by decide)) (by decide)) (W121.slot (W116.slot (W108.slot (W104.slot h82 (by decide)) (by decide)) (by decide)) (by decide)) (W121.slot (W116.slot (W108.slot (W104.slot h85 (by decide)) (by decide)) (by decide)) (by decide)) (W121.slot (W116.slot (W108.slot (W104.slot h88 (by decide)) (by decide)) (by decide)) (by decide)) (W121.slot (W116.slot (W108.slot (W104.slot h91 (by decide)) (by decide)) (by decide)) (by decide)) (W121.slot (W116.slot (W108.slot W104.at (by decide)) (by decide)) (by decide)) (W121.slot (W116.slot W108.at (by decide)) (by decide)) (W121.slot (W116.slot e112 (by decide)) (by decide)) (W121.slot W116.at (by decide)) W121.at    rfl
            · have b102 : 0 ≤ x78 ∧ x78 ≤ 0 := by omega
              refine w_t (np := 93) (l2 := [some (eR a0), some (eI (a1)), some (eI (i19))]) (s2 := [eR a0]) rfl (s_an rfl (pos_g I76 gA0 (by decide))) rfl ?_
              refine w_gf (np := 96) (v := eI (x87)) rfl rfl (I76.kd gA0 (by decide) (n := 69) rfl) (by rw [h88]; rfl) ?_
              refine b_ieq (t1 := 106) (t2 := 99) rfl rfl rfl (ev_w_in (by omega) (by omega)) (fun g102 => ?_) (fun g102 => ?_)
              · have b103 : 0 ≤ x87 ∧ x87 ≤ 0 := by omega
                refine w_t (np := 107) (l2 := [some (eR a0), some (eI (a1)), some (eI (i19))]) (s2 := [eR a0]) rfl (s_an rfl (pos_g I76 gA0 (by decide))) rfl ?_
                refine w_t (np := 108) (l2 := [some (eR a0), some (eI (a1)), some (eI (i19))]) (s2 := [eI (0), eR a0]) rfl rfl rfl ?_
                refine j_pf (np := 111) (w := 0) rfl rfl I76 gA0 (by decide) (n := 69) rfl rfl (hO_i (lo := 0) (hi := 900) rfl (by decide)) ?_
                intro m103 I104 W105
                have F106 : Fr l_353 0 0 g μ m103 := F77.w W105 gA0 rfl
                refine w_t (np := 112) (l2 := [some (eR a0), some (eI (a1)), some (eI (i19))]) (s2 := [eR a0]) rfl (s_an rfl (pos_g I104 gA0 (by decide))) rfl ?_
                refine w_t (np := 113) (l2 := [some (eR a0), some (eI (a1)), some (eI (i19))]) (s2 := [eR a0, eR a0]) rfl (s_an rfl (pos_g I104 gA0 (by decide))) rfl ?_
                refine w_gf (np := 116) (v := eI (x78)) rfl rfl (I104.kd gA0 (by decide) (n := 69) rfl) (by rw [(W105.slot h79 (by decide))]; rfl) ?_
                refine j_pf (np := 119) (w := x78) rfl rfl I104 gA0 (by decide) (n := 69) rfl rfl (hO_i (lo := -2147483648) (hi := 2147483647) rfl (by omega)) ?_
                intro m107 I108 W109
                have F110 : Fr l_353 0 0 g μ m107 := F106.w W109 gA0 rfl
                refine w_t (np := 120) (l2 := [some (eR a0), some (eI (a1)), some (eI (i19))]) (s2 := [eR a0]) rfl (s_an rfl (pos_g I108 gA0 (by decide))) rfl ?_
                refine w_t (np := 121) (l2 := [some (eR a0), some (eI (a1)), some (eI (i19))]) (s2 := [eR a0, eR a0]) rfl (s_an rfl (pos_g I108 gA0 (by decide))) rfl ?_
                refine w_gf (np := 124) (v := eI (x78)) rfl rfl (I108.kd gA0 (by decide) (n := 69) rfl) (by rw [(W109.slot (W105.slot h79 (by decide)) (by decide))]; rfl) ?_
                refine b_ile (t1 := 134) (t2 := 127) rfl rfl rfl (ev_w_in (by omega) (by omega)) (fun g111 => ?_) (fun g111 => False.elim (by omega))
                refine w_t (np := 135) (l2 := [some (eR a0), some (eI (a1)), some (eI (i19))]) (s2 := [eI (-1), eR a0]) rfl rfl rfl ?_
                refine j_pf (np := 138) (w := -1) rfl rfl I108 gA0 (by decide) (n := 69) rfl rfl (hO_i (lo := -2147483648) (hi := 2147483647) rfl (by decide)) ?_
                intro m112 I113 W114
                have F115 : Fr l_353 0 0 g μ m112 := F110.w W114 gA0 rfl
                refine w_t (np := 139) (l2 := [some (eR a0), some (eI (a1)), some (eI (i19))]) (s2 := [eR a0]) rfl (s_an rfl (pos_g I113 gA0 (by decide))) rfl ?_
                refine w_gf (np := 142) (v := eI (x78)) rfl rfl (I113.kd gA0 (by decide) (n := 69) rfl) (by rw [(W114.slot (W109.slot (W105.slot h79 (by decide)) (by decide)) (by decide))]; rfl) ?_
                refine b_ine (t1 := 150) (t2 := 145) rfl rfl rfl (ev_w_in (by omega) (by omega)) (fun g116 => False.elim (by omega)) (fun g116 => ?_)
                refine w_t (np := 146) (l2 := [some (eR a0), some (eI (a1)), some (eI (i19))]) (s2 := [eR a0]) rfl (s_an rfl (pos_g I113 gA0 (by decide))) rfl ?_
                refine w_gf (np := 149) (v := eI (x90)) rfl rfl (I113.kd gA0 (by decide) (n := 69) rfl) (by rw [(W114.slot (W109.slot (W105.slot h91 (by decide)) (by decide)) (by decide))]; rfl) ?_
                exact b_ri rfl rfl (K m112 (x90) I113 F115 (by omega))
              · refine w_t (np := 100) (l2 := [some (eR a0), some (eI (a1)), some (eI (i19))]) (s2 := [eR a0]) rfl (s_an rfl (pos_g I76 gA0 (by decide))) rfl ?_
                refine w_cw (np := 103) (as := []) (l2 := [some (eR a0), none, none, none, none, none, none, none, none, none]) (rest := []) rfl rfl rfl (Nat.ble_eq.mp rfl) rfl rfl rfl (I76.kd gA0 (by decide) (n := 69) rfl) rfl ?_
                refine s_352 I76 gA0 h79 h88 h82 h85 h91 (by omega) (by omega) (by omega) (by omega) ?_
                intro m103 v106 v108 v110 v112 v114 I104 F105 e107 e109 e111 e113 e115 h116 h117 h118
                have F119 : Fr l_353 0 0 g μ m103 := F77.t F105 rfl
                have b120 : 0 ≤ v106 ∧ v106 ≤ 8 := by
                  rw [← e107]
                  exact I104.int gA0 (by decide) (n := 69) rfl (by decide) rfl
                have b121 : -2147483648 ≤ v108 ∧ v108 ≤ 2147483647 := by
                  rw [← e109]
                  exact I104.int gA0 (by decide) (n := 69) rfl (by decide) rfl
                have b122 : 0 ≤ v110 ∧ v110 ≤ 902 := by
                  rw [← e111]
                  exact I104.int gA0 (by decide) (n := 69) rfl (by decide) rfl
                have b123 : 0 ≤ v112 ∧ v112 ≤ 902 := by
                  rw [← e113]
                  exact I104.int gA0 (by decide) (n := 69) rfl (by decide) rfl
                have b124 : 0 ≤ v114 ∧ v114 ≤ 24 := by
                  rw [← e115]
                  exact I104.int gA0 (by decide) (n := 69) rfl (by decide) rfl
                clear h67 h68
                show ex_q (dt_fg L ρ) rc (d + 8, (353, 103, [some (eR a0), some (eI (a1)), some (eI (i19))], []), f :: F, m103)
                refine w_go (t1 := 85) rfl rfl ?_
                exact ih74 (50 - 2 * (v114) - min (v106) 1).toNat (by omega) m103  (v106) (v110) (v112) (v108) (v114) I104 F119  (F105.k k93 gA0 (by decide) rfl) (F105.k k94 gA0 (by decide) rfl) (F105.k k95 gA0 (by decide) rfl) (F105.k k96 gA0 (by decide) rfl) (F105.k k97 gA0 (by decide) rfl) e107 (by omega) e111 (by omega) e113 (by omega) e109 (by omega) e115 (by omega)  (by omega) (by omega) rfl
          exact hL85 _ m58  (0) (v63) (v65) (v61) (0) I59 F69  (F60.k (W50.slot (W46.slot (W42.slot (W38.slot (W34.slot k24 (by decide)) (by decide)) (by decide)) (by decide)) (by decide)) gA0 (by decide) rfl) (F60.k (W50.slot (W46.slot (W42.slot (W38.slot (W34.slot k25 (by decide)) (by decide)) (by decide)) (by decide)) (by decide)) gA0 (by decide) rfl) (F60.k (W50.slot (W46.slot (W42.slot (W38.slot (W34.slot k26 (by decide)) (by decide)) (by decide)) (by decide)) (by decide)) gA0 (by decide) rfl) (F60.k (W50.slot (W46.slot (W42.slot (W38.slot W34.at (by decide)) (by decide)) (by decide)) (by decide)) gA0 (by decide) rfl) (F60.k (W50.slot (W46.slot W42.at (by decide)) (by decide)) gA0 (by decide) rfl) (F60.k W50.at gA0 (by decide) rfl) (by decide) e64 (by omega) e66 (by omega) e62 (by omega) (F60.k (W50.slot (W46.slot (W42.slot W38.at (by decide)) (by decide)) (by decide)) gA0 (by decide) rfl) (by decide)  (by omega) (by omega) rfl
        · have b29 : 0 ≤ i19 ∧ i19 ≤ 167 := by omega
          refine w_t (np := 36) (l2 := [some (eR a0), some (eI (a1)), some (eI (i19))]) (s2 := [eR a0]) rfl (s_an rfl (pos_g I22 gA0 (by decide))) rfl ?_
          refine j_gr (np := 39) rfl rfl I22 gA0 (by decide) (n := 69) rfl rfl rfl ?_
          intro v29 e30 b31 z32
          have b31 : g v29 = 80 := Nat.eq_of_beq_eq_true b31
          refine w_t (np := 40) (l2 := [some (eR a0), some (eI (a1)), some (eI (i19))]) (s2 := [eI (i19), eR v29]) rfl rfl rfl ?_
          refine w_t (np := 41) (l2 := [some (eR a0), some (eI (a1)), some (eI (i19))]) (s2 := [eR a0, eI (i19), eR v29]) rfl (s_an rfl (pos_g I22 gA0 (by decide))) rfl ?_
          refine j_gr (np := 44) rfl rfl I22 gA0 (by decide) (n := 69) rfl rfl rfl ?_
          intro v33 e34 b35 z36
          have b35 : g v33 = 79 := Nat.eq_of_beq_eq_true b35
          refine w_t (np := 45) (l2 := [some (eR a0), some (eI (a1)), some (eI (i19))]) (s2 := [eI (i19), eR v33, eI (i19), eR v29]) rfl rfl rfl ?_
          refine j_al (np := 46) rfl rfl I22 b35 (by decide) (n := 168) rfl rfl (lo := -2147483648) (hi := 2147483647) (fun _ => rfl) (by omega) (by omega) ?_
          intro v37 e38 b39
          refine j_as (np := 47) rfl rfl I22 b31 (by decide) (n := 168) rfl rfl (lo := -2147483648) (hi := 2147483647) (fun _ => rfl) (by omega) (by omega) (by omega) ?_
          intro m40 I41 W42
          have F43 : Fr l_353 0 0 g μ m40 := F23.v W42 b31 rfl rfl
          obtain ⟨v44, e45⟩ : ∃ zz : Int, zz = (i19) + (1) := ⟨_, rfl⟩
          have b46 : 1 ≤ v44 ∧ v44 ≤ 168 := by omega
          refine w_t (np := 50) (l2 := [some (eR a0), some (eI (a1)), some (eI (v44))]) (s2 := []) rfl (b_iinc rfl (by rw [← e45]; exact ev_w_in (by omega) (by omega)) rfl) rfl ?_
          refine w_go (t1 := 28) rfl rfl ?_
          exact ih18 (254 - (v44)).toNat (by omega) m40 (v44) I41 F43 (by omega) (W42.addr k24 b31 gA0 (by decide)) (W42.addr k25 b31 gA0 (by decide)) (W42.addr k26 b31 gA0 (by decide))    rfl
      exact hL28 _ m11 (0) I12 F14 (by decide) (W13.slot (W9.slot e2 (by decide)) (by decide)) (W13.slot W9.at (by decide)) W13.at    rfl
def l_354 : List Nat := [13314]
theorem s_354 {L : Nat} {ρ : Nat → Int} {rc : eQ} {d : Nat} {f : eFr} {F : List eFr} {μ : eM} {g : Nat → Nat} {a0 : Nat} {a1 : Int} (hI : SI g μ) (gA0 : g a0 = 52) (bA1 : -2147483648 ≤ a1 ∧ a1 ≤ 2147483647) (K : ∀ (μ2 : eM) (v : Int), SI g μ2 → Fr l_354 0 0 g μ μ2 → (-2147483648 ≤ v ∧ v ≤ 2147483647) → ex_q (dt_fg L ρ) rc (d + 1, (f.1, f.2.1, f.2.2.1, eI v :: f.2.2.2), F, μ2)) : ex_q (dt_fg L ρ) rc (d, (354, 0, [some (eR a0), some (eI (a1))], []), f :: F, μ) := by
  have F0 : Fr l_354 0 0 g μ μ := Fr.r
  refine w_t (np := 1) (l2 := [some (eR a0), some (eI (a1))]) (s2 := [eR a0]) rfl (s_an rfl (pos_g hI gA0 (by decide))) rfl ?_
  refine w_t (np := 2) (l2 := [some (eR a0), some (eI (a1))]) (s2 := [eI (0), eR a0]) rfl rfl rfl ?_
  refine j_pf (np := 5) (w := 0) rfl rfl hI gA0 (by decide) (n := 69) rfl rfl (hO_i (lo := -2147483648) (hi := 2147483647) rfl (by decide)) ?_
  intro m1 I2 W3
  have F4 : Fr l_354 0 0 g μ m1 := F0.w W3 gA0 rfl
  refine w_t (np := 6) (l2 := [some (eR a0), some (eI (a1))]) (s2 := [eI (a1)]) rfl rfl rfl ?_
  refine b_ine (t1 := 16) (t2 := 9) rfl rfl rfl (ev_w_in (by omega) (by omega)) (fun g5 => ?_) (fun g5 => ?_)
  · refine w_t (np := 17) (l2 := [some (eR a0), some (eI (a1))]) (s2 := [eI (a1)]) rfl rfl rfl ?_
    refine w_t (np := 18) (l2 := [some (eR a0), some (eI (a1))]) (s2 := [eI (1), eI (a1)]) rfl rfl rfl ?_
    refine b_cne (t1 := 28) (t2 := 21) rfl rfl rfl (ev_w_in (by omega) (by omega)) rfl (fun g6 => ?_) (fun g6 => ?_)
    · refine w_t (np := 29) (l2 := [some (eR a0), some (eI (a1))]) (s2 := [eI (-1)]) rfl rfl rfl ?_
      exact b_ri rfl rfl (K m1 (-1) I2 F4 (by decide))
    · have b7 : 1 ≤ a1 ∧ a1 ≤ 1 := by omega
      refine w_t (np := 22) (l2 := [some (eR a0), some (eI (a1))]) (s2 := [eR a0]) rfl (s_an rfl (pos_g I2 gA0 (by decide))) rfl ?_
      refine j_gi (np := 25) rfl rfl rfl I2 gA0 (by decide) (n := 69) rfl rfl (lo := -2147483648) (hi := 2147483647) rfl ?_
      intro v7 e8 b9
      refine w_go (t1 := 29) rfl rfl ?_
      exact b_ri rfl rfl (K m1 (v7) I2 F4 (by omega))
  · have b6 : 0 ≤ a1 ∧ a1 ≤ 0 := by omega
    refine w_t (np := 10) (l2 := [some (eR a0), some (eI (a1))]) (s2 := [eR a0]) rfl (s_an rfl (pos_g I2 gA0 (by decide))) rfl ?_
    refine j_gi (np := 13) rfl rfl rfl I2 gA0 (by decide) (n := 69) rfl rfl (lo := -2147483648) (hi := 2147483647) rfl ?_
    intro v6 e7 b8
    refine w_go (t1 := 29) rfl rfl ?_
    exact b_ri rfl rfl (K m1 (v6) I2 F4 (by omega))
def l_358 : List Nat := [13313, 13314]
theorem s_358 {L : Nat} {ρ : Nat → Int} {rc : eQ} {d : Nat} {f : eFr} {F : List eFr} {μ : eM} {g : Nat → Nat} {a0 : Nat} {a1 : Int} (hI : SI g μ) (gA0 : g a0 = 52) (bA1 : -2147483648 ≤ a1 ∧ a1 ≤ 2147483647) (K : ∀ (μ2 : eM) (v : Int), SI g μ2 → Fr l_358 0 0 g μ μ2 → (-2147483648 ≤ v ∧ v ≤ 2147483647) → ex_q (dt_fg L ρ) rc (d + 2, (f.1, f.2.1, f.2.2.1, eI v :: f.2.2.2), F, μ2)) : ex_q (dt_fg L ρ) rc (d + 1, (358, 0, [some (eR a0), some (eI (a1))], []), f :: F, μ) := by
  have F0 : Fr l_358 0 0 g μ μ := Fr.r
  refine w_t (np := 1) (l2 := [some (eR a0), some (eI (a1))]) (s2 := [eR a0]) rfl (s_an rfl (pos_g hI gA0 (by decide))) rfl ?_
  refine w_t (np := 2) (l2 := [some (eR a0), some (eI (a1))]) (s2 := [eI (a1), eR a0]) rfl rfl rfl ?_
  refine b_ige (t1 := 9) (t2 := 5) rfl rfl rfl (ev_w_in (by omega) (by omega)) (fun g1 => ?_) (fun g1 => ?_)
  · have b2 : 0 ≤ a1 ∧ a1 ≤ 2147483647 := by omega
    refine w_t (np := 10) (l2 := [some (eR a0), some (eI (a1))]) (s2 := [eI (a1), eR a0]) rfl rfl rfl ?_
    refine w_t (np := 11) (l2 := [some (eR a0), some (eI (a1))]) (s2 := [eR a0, eI (a1), eR a0]) rfl (s_an rfl (pos_g hI gA0 (by decide))) rfl ?_
    refine j_gi (np := 14) rfl rfl rfl hI gA0 (by decide) (n := 69) rfl rfl (lo := 0) (hi := 2000) rfl ?_
    intro v2 e3 b4
    refine b_clt (t1 := 21) (t2 := 17) rfl rfl rfl (ev_w_in (by omega) (by omega)) (ev_w_in (by omega) (by omega)) (fun g5 => ?_) (fun g5 => ?_)
    · have b6 : 0 ≤ a1 ∧ a1 ≤ 1999 := by omega
      have b7 : 1 ≤ v2 ∧ v2 ≤ 2000 := by omega
      refine w_t (np := 22) (l2 := [some (eR a0), some (eI (a1))]) (s2 := [eI (0), eR a0]) rfl rfl rfl ?_
      refine w_cw (np := 25) (as := [eI (0)]) (l2 := [some (eR a0), some (eI (0))]) (rest := []) rfl rfl rfl (Nat.ble_eq.mp rfl) rfl rfl rfl (hI.kd gA0 (by decide) (n := 69) rfl) rfl ?_
      refine w_t (np := 1) (l2 := [some (eR a0), some (eI (0))]) (s2 := [eR a0]) rfl (s_an rfl (pos_g hI gA0 (by decide))) rfl ?_
      refine w_t (np := 2) (l2 := [some (eR a0), some (eI (0))]) (s2 := [eI (0), eR a0]) rfl rfl rfl ?_
      refine j_pf (np := 5) (w := 0) rfl rfl hI gA0 (by decide) (n := 69) rfl rfl (hO_i (lo := -2147483648) (hi := 2147483647) rfl (by decide)) ?_
      intro m6 I7 W8
      have F9 : Fr l_358 0 0 g μ m6 := F0.w W8 gA0 rfl
      refine w_t (np := 6) (l2 := [some (eR a0), some (eI (0))]) (s2 := [eR a0]) rfl (s_an rfl (pos_g I7 gA0 (by decide))) rfl ?_
      refine w_t (np := 7) (l2 := [some (eR a0), some (eI (0))]) (s2 := [eI (0), eR a0]) rfl rfl rfl ?_
      refine j_pf (np := 10) (w := 0) rfl rfl I7 gA0 (by decide) (n := 69) rfl rfl (hO_i (lo := -2147483648) (hi := 2147483647) rfl (by decide)) ?_
      intro m10 I11 W12
      have F13 : Fr l_358 0 0 g μ m10 := F9.w W12 gA0 rfl
      refine w_t (np := 11) (l2 := [some (eR a0), some (eI (0))]) (s2 := [eI (0)]) rfl rfl rfl ?_
      refine b_ine (t1 := 18) (t2 := 14) rfl rfl rfl rfl (fun g14 => absurd g14 (by decide)) (fun g14 => ?_)
      refine w_t (np := 15) (l2 := [some (eR a0), some (eI (0))]) (s2 := [eI (1)]) rfl rfl rfl ?_
      refine w_go (t1 := 19) rfl rfl ?_
      refine b_rz rfl rfl (Or.inr rfl) ?_
      show ex_q (dt_fg L ρ) rc (d + 1, (358, 25, [some (eR a0), some (eI (a1))], [eI (1)]), f :: F, m10)
      refine b_ieq (t1 := 37) (t2 := 28) rfl rfl rfl rfl (fun g15 => absurd g15 (by decide)) (fun g15 => ?_)
      refine w_t (np := 29) (l2 := [some (eR a0), some (eI (a1))]) (s2 := [eR a0]) rfl (s_an rfl (pos_g I11 gA0 (by decide))) rfl ?_
      refine j_gr (np := 32) rfl rfl I11 gA0 (by decide) (n := 69) rfl rfl rfl ?_
      intro v16 e17 b18 z19
      have b18 : g v16 = 89 := Nat.eq_of_beq_eq_true b18
      refine w_t (np := 33) (l2 := [some (eR a0), some (eI (a1))]) (s2 := [eI (a1), eR v16]) rfl rfl rfl ?_
      refine j_al (np := 34) rfl rfl I11 b18 (by decide) (n := 2000) rfl rfl (lo := -2147483648) (hi := 2147483647) (fun _ => rfl) (by omega) (by omega) ?_
      intro v20 e21 b22
      refine w_go (t1 := 38) rfl rfl ?_
      exact b_ri rfl rfl (K m10 (v20) I11 F13 (by omega))
    · refine w_t (np := 18) (l2 := [some (eR a0), some (eI (a1))]) (s2 := [eI (5), eR a0]) rfl rfl rfl ?_
      refine w_go (t1 := 22) rfl rfl ?_
      refine w_cw (np := 25) (as := [eI (5)]) (l2 := [some (eR a0), some (eI (5))]) (rest := []) rfl rfl rfl (Nat.ble_eq.mp rfl) rfl rfl rfl (hI.kd gA0 (by decide) (n := 69) rfl) rfl ?_
      refine w_t (np := 1) (l2 := [some (eR a0), some (eI (5))]) (s2 := [eR a0]) rfl (s_an rfl (pos_g hI gA0 (by decide))) rfl ?_
      refine w_t (np := 2) (l2 := [some (eR a0), some (eI (5))]) (s2 := [eI (0), eR a0]) rfl rfl rfl ?_
      refine j_pf (np := 5) (w := 0) rfl rfl hI gA0 (by decide) (n := 69) rfl rfl (hO_i (lo := -2147483648) (hi := 2147483647) rfl (by decide)) ?_
      intro m6 I7 W8
      have F9 : Fr l_358 0 0 g μ m6 := F0.w W8 gA0 rfl
      refine w_t (np := 6) (l2 := [some (eR a0), some (eI (5))]) (s2 := [eR a0]) rfl (s_an rfl (pos_g I7 gA0 (by decide))) rfl ?_
      refine w_t (np := 7) (l2 := [some (eR a0), some (eI (5))]) (s2 := [eI (5), eR a0]) rfl rfl rfl ?_
      refine j_pf (np := 10) (w := 5) rfl rfl I7 gA0 (by decide) (n := 69) rfl rfl (hO_i (lo := -2147483648) (hi := 2147483647) rfl (by decide)) ?_
      intro m10 I11 W12
      have F13 : Fr l_358 0 0 g μ m10 := F9.w W12 gA0 rfl
      refine w_t (np := 11) (l2 := [some (eR a0), some (eI (5))]) (s2 := [eI (5)]) rfl rfl rfl ?_
      refine b_ine (t1 := 18) (t2 := 14) rfl rfl rfl rfl (fun g14 => ?_) (fun g14 => absurd g14 (by decide))
      refine w_t (np := 19) (l2 := [some (eR a0), some (eI (5))]) (s2 := [eI (0)]) rfl rfl rfl ?_
      refine b_rz rfl rfl (Or.inl rfl) ?_
      show ex_q (dt_fg L ρ) rc (d + 1, (358, 25, [some (eR a0), some (eI (a1))], [eI (0)]), f :: F, m10)
      refine b_ieq (t1 := 37) (t2 := 28) rfl rfl rfl rfl (fun g15 => ?_) (fun g15 => absurd g15 (by decide))
      refine w_t (np := 38) (l2 := [some (eR a0), some (eI (a1))]) (s2 := [eI (-1)]) rfl rfl rfl ?_
      exact b_ri rfl rfl (K m10 (-1) I11 F13 (by decide))
  · have b2 : -2147483648 ≤ a1 ∧ a1 ≤ -1 := by omega
    refine w_t (np := 6) (l2 := [some (eR a0), some (eI (a1))]) (s2 := [eI (1), eR a0]) rfl rfl rfl ?_
    refine w_go (t1 := 22) rfl rfl ?_
    refine w_cw (np := 25) (as := [eI (1)]) (l2 := [some (eR a0), some (eI (1))]) (rest := []) rfl rfl rfl (Nat.ble_eq.mp rfl) rfl rfl rfl (hI.kd gA0 (by decide) (n := 69) rfl) rfl ?_
    refine w_t (np := 1) (l2 := [some (eR a0), some (eI (1))]) (s2 := [eR a0]) rfl (s_an rfl (pos_g hI gA0 (by decide))) rfl ?_
    refine w_t (np := 2) (l2 := [some (eR a0), some (eI (1))]) (s2 := [eI (0), eR a0]) rfl rfl rfl ?_
    refine j_pf (np := 5) (w := 0) rfl rfl hI gA0 (by decide) (n := 69) rfl rfl (hO_i (lo := -2147483648) (hi := 2147483647) rfl (by decide)) ?_
    intro m2 I3 W4
    have F5 : Fr l_358 0 0 g μ m2 := F0.w W4 gA0 rfl
    refine w_t (np := 6) (l2 := [some (eR a0), some (eI (1))]) (s2 := [eR a0]) rfl (s_an rfl (pos_g I3 gA0 (by decide))) rfl ?_
    refine w_t (np := 7) (l2 := [some (eR a0), some (eI (1))]) (s2 := [eI (1), eR a0]) rfl rfl rfl ?_
    refine j_pf (np := 10) (w := 1) rfl rfl I3 gA0 (by decide) (n := 69) rfl rfl (hO_i (lo := -2147483648) (hi := 2147483647) rfl (by decide)) ?_
    intro m6 I7 W8
    have F9 : Fr l_358 0 0 g μ m6 := F5.w W8 gA0 rfl
    refine w_t (np := 11) (l2 := [some (eR a0), some (eI (1))]) (s2 := [eI (1)]) rfl rfl rfl ?_
    refine b_ine (t1 := 18) (t2 := 14) rfl rfl rfl rfl (fun g10 => ?_) (fun g10 => absurd g10 (by decide))
    refine w_t (np := 19) (l2 := [some (eR a0), some (eI (1))]) (s2 := [eI (0)]) rfl rfl rfl ?_
    refine b_rz rfl rfl (Or.inl rfl) ?_
    show ex_q (dt_fg L ρ) rc (d + 1, (358, 25, [some (eR a0), some (eI (a1))], [eI (0)]), f :: F, m6)
    refine b_ieq (t1 := 37) (t2 := 28) rfl rfl rfl rfl (fun g11 => ?_) (fun g11 => absurd g11 (by decide))
    refine w_t (np := 38) (l2 := [some (eR a0), some (eI (a1))]) (s2 := [eI (-1)]) rfl rfl rfl ?_
    exact b_ri rfl rfl (K m6 (-1) I7 F9 (by decide))
