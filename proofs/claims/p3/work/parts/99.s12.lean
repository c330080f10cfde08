/-! methods, walked -/
def l_194 : List Nat := [270, 5124, 5125, 5126, 5127, 5128, 5129, 5632, 5888]
theorem s_194 {L : Nat} {ρ : Nat → Int} {rc : eQ} {d : Nat} {f : eFr} {F : List eFr} {μ : eM} {g : Nat → Nat} {a0 : Nat} {a1 : Int} (hI : SI g μ) (gA0 : g a0 = 1) (bA1 : -2147483648 ≤ a1 ∧ a1 ≤ 2147483647) (K : ∀ (μ2 : eM) (v : Int), SI g μ2 → Fr l_194 0 0 g μ μ2 → (-2147483648 ≤ v ∧ v ≤ 2147483647) → ex_q (dt_fg L ρ) rc (d + 6, (f.1, f.2.1, f.2.2.1, eI v :: f.2.2.2), F, μ2)) : ex_q (dt_fg L ρ) rc (d + 5, (194, 0, [some (eR a0), some (eI (a1))], []), f :: F, μ) := by
  have F0 : Fr l_194 0 0 g μ μ := Fr.r
  refine w_t (np := 1) (l2 := [some (eR a0), some (eI (a1))]) (s2 := [eR a0]) rfl (s_an rfl (pos_g hI gA0 (by decide))) rfl ?_
  refine j_gr (np := 4) rfl rfl hI gA0 (by decide) (n := 14) rfl rfl rfl ?_
  intro v1 e2 b3 z4
  have b3 : g v1 = 29 := Nat.eq_of_beq_eq_true b3
  refine w_t (np := 5) (l2 := [some (eR a0), some (eI (a1))]) (s2 := [eI (a1), eR v1]) rfl rfl rfl ?_
  refine w_cw (np := 8) (as := [eI (a1)]) (l2 := [some (eR v1), some (eI (a1))]) (rest := []) rfl rfl rfl (Nat.ble_eq.mp rfl) rfl rfl rfl (hI.kd b3 (by decide) (n := 7) rfl) rfl ?_
  refine w_t (np := 1) (l2 := [some (eR v1), some (eI (a1))]) (s2 := [eI (a1)]) rfl rfl rfl ?_
  refine b_ilt (t1 := 12) (t2 := 4) rfl rfl rfl (ev_w_in (by omega) (by omega)) (fun g5 => ?_) (fun g5 => ?_)
  · have b6 : -2147483648 ≤ a1 ∧ a1 ≤ -1 := by omega
    refine w_t (np := 13) (l2 := [some (eR v1), some (eI (a1))]) (s2 := [eI (1)]) rfl rfl rfl ?_
    refine w_go (t1 := 17) rfl rfl ?_
    refine b_rz rfl rfl (Or.inr rfl) ?_
    show ex_q (dt_fg L ρ) rc (d + 5, (194, 8, [some (eR a0), some (eI (a1))], [eI (1)]), f :: F, μ)
    refine b_ieq (t1 := 17) (t2 := 11) rfl rfl rfl rfl (fun g6 => absurd g6 (by decide)) (fun g6 => ?_)
    refine w_t (np := 12) (l2 := [some (eR a0), some (eI (a1))]) (s2 := [eR a0]) rfl (s_an rfl (pos_g hI gA0 (by decide))) rfl ?_
    refine w_t (np := 13) (l2 := [some (eR a0), some (eI (a1))]) (s2 := [eI (2), eR a0]) rfl rfl rfl ?_
    refine w_cw (np := 16) (as := [eI (2)]) (l2 := [some (eR a0), some (eI (2))]) (rest := []) rfl rfl rfl (Nat.ble_eq.mp rfl) rfl rfl rfl (hI.kd gA0 (by decide) (n := 14) rfl) rfl ?_
    refine w_t (np := 1) (l2 := [some (eR a0), some (eI (2))]) (s2 := [eR a0]) rfl (s_an rfl (pos_g hI gA0 (by decide))) rfl ?_
    refine w_t (np := 2) (l2 := [some (eR a0), some (eI (2))]) (s2 := [eI (2), eR a0]) rfl rfl rfl ?_
    refine j_pf (np := 5) (w := 2) rfl rfl hI gA0 (by decide) (n := 14) rfl rfl (hO_i (lo := -2147483648) (hi := 2147483647) rfl (by decide)) ?_
    intro m7 I8 W9
    have F10 : Fr l_194 0 0 g μ m7 := F0.w W9 gA0 rfl
    refine w_t (np := 6) (l2 := [some (eR a0), some (eI (2))]) (s2 := [eI (-1)]) rfl rfl rfl ?_
    refine b_ri rfl rfl ?_
    show ex_q (dt_fg L ρ) rc (d + 5, (194, 16, [some (eR a0), some (eI (a1))], [eI (-1)]), f :: F, m7)
    exact b_ri rfl rfl (K m7 (-1) I8 F10 (by decide))
  · have b6 : 0 ≤ a1 ∧ a1 ≤ 2147483647 := by omega
    refine w_t (np := 5) (l2 := [some (eR v1), some (eI (a1))]) (s2 := [eI (a1)]) rfl rfl rfl ?_
    refine w_t (np := 6) (l2 := [some (eR v1), some (eI (a1))]) (s2 := [eR v1, eI (a1)]) rfl (s_an rfl (pos_g hI b3 (by decide))) rfl ?_
    refine j_gi (np := 9) rfl rfl rfl hI b3 (by decide) (n := 7) rfl rfl (lo := 0) (hi := 96) rfl ?_
    intro v6 e7 b8
    refine b_clt (t1 := 16) (t2 := 12) rfl rfl rfl (ev_w_in (by omega) (by omega)) (ev_w_in (by omega) (by omega)) (fun g9 => ?_) (fun g9 => ?_)
    · have b10 : 0 ≤ a1 ∧ a1 ≤ 95 := by omega
      have b11 : 1 ≤ v6 ∧ v6 ≤ 96 := by omega
      refine w_t (np := 17) (l2 := [some (eR v1), some (eI (a1))]) (s2 := [eI (0)]) rfl rfl rfl ?_
      refine b_rz rfl rfl (Or.inl rfl) ?_
      show ex_q (dt_fg L ρ) rc (d + 5, (194, 8, [some (eR a0), some (eI (a1))], [eI (0)]), f :: F, μ)
      refine b_ieq (t1 := 17) (t2 := 11) rfl rfl rfl rfl (fun g10 => ?_) (fun g10 => absurd g10 (by decide))
      refine w_t (np := 18) (l2 := [some (eR a0), some (eI (a1))]) (s2 := [eR a0]) rfl (s_an rfl (pos_g hI gA0 (by decide))) rfl ?_
      refine j_gr (np := 21) rfl rfl hI gA0 (by decide) (n := 14) rfl rfl rfl ?_
      intro v11 e12 b13 z14
      have b13 : g v11 = 20 := Nat.eq_of_beq_eq_true b13
      refine w_t (np := 22) (l2 := [some (eR a0), some (eI (a1))]) (s2 := [eR a0, eR v11]) rfl (s_an rfl (pos_g hI gA0 (by decide))) rfl ?_
      refine w_gf (np := 25) (v := eR v1) rfl rfl (hI.kd gA0 (by decide) (n := 14) rfl) (by rw [e2]; rfl) ?_
      refine w_t (np := 26) (l2 := [some (eR a0), some (eI (a1))]) (s2 := [eI (a1), eR v1, eR v11]) rfl rfl rfl ?_
      refine w_cw (np := 29) (as := [eR v1, eI (a1)]) (l2 := [some (eR v11), some (eR v1), some (eI (a1)), none, none, none, none]) (rest := []) rfl rfl rfl (Nat.ble_eq.mp rfl) rfl rfl rfl (hI.kd b13 (by decide) (n := 9) rfl) rfl ?_
      refine s_93 (a2 := a1) hI b13 b3 (by omega) ?_
      intro m15 I16 F17
      have F18 : Fr l_194 0 0 g μ m15 := F0.t F17 rfl
      show ex_q (dt_fg L ρ) rc (d + 5, (194, 29, [some (eR a0), some (eI (a1))], []), f :: F, m15)
      refine w_t (np := 30) (l2 := [some (eR a0), some (eI (a1))]) (s2 := [eR a0]) rfl (s_an rfl (pos_g I16 gA0 (by decide))) rfl ?_
      refine w_t (np := 31) (l2 := [some (eR a0), some (eI (a1))]) (s2 := [eR a0, eR a0]) rfl (s_an rfl (pos_g I16 gA0 (by decide))) rfl ?_
      refine w_gf (np := 34) (v := eR v11) rfl rfl (I16.kd gA0 (by decide) (n := 14) rfl) (by rw [(F17.k e12 gA0 (by decide) rfl)]; rfl) ?_
      refine j_gi (np := 37) rfl rfl rfl I16 b13 (by decide) (n := 9) rfl rfl (lo := -2147483648) (hi := 2147483647) rfl ?_
      intro v19 e20 b21
      refine w_cw (np := 40) (as := [eI (v19)]) (l2 := [some (eR a0), some (eI (v19))]) (rest := []) rfl rfl rfl (Nat.ble_eq.mp rfl) rfl rfl rfl (I16.kd gA0 (by decide) (n := 14) rfl) rfl ?_
      refine w_t (np := 1) (l2 := [some (eR a0), some (eI (v19))]) (s2 := [eR a0]) rfl (s_an rfl (pos_g I16 gA0 (by decide))) rfl ?_
      refine w_t (np := 2) (l2 := [some (eR a0), some (eI (v19))]) (s2 := [eI (0), eR a0]) rfl rfl rfl ?_
      refine j_pf (np := 5) (w := 0) rfl rfl I16 gA0 (by decide) (n := 14) rfl rfl (hO_i (lo := -2147483648) (hi := 2147483647) rfl (by decide)) ?_
      intro m22 I23 W24
      have F25 : Fr l_194 0 0 g μ m22 := F18.w W24 gA0 rfl
      refine w_t (np := 6) (l2 := [some (eR a0), some (eI (v19))]) (s2 := [eI (v19)]) rfl rfl rfl ?_
      refine b_ri rfl rfl ?_
      show ex_q (dt_fg L ρ) rc (d + 5, (194, 40, [some (eR a0), some (eI (a1))], [eI (v19)]), f :: F, m22)
      exact b_ri rfl rfl (K m22 (v19) I23 F25 (by omega))
    · refine w_t (np := 13) (l2 := [some (eR v1), some (eI (a1))]) (s2 := [eI (1)]) rfl rfl rfl ?_
      refine w_go (t1 := 17) rfl rfl ?_
      refine b_rz rfl rfl (Or.inr rfl) ?_
      show ex_q (dt_fg L ρ) rc (d + 5, (194, 8, [some (eR a0), some (eI (a1))], [eI (1)]), f :: F, μ)
      refine b_ieq (t1 := 17) (t2 := 11) rfl rfl rfl rfl (fun g10 => absurd g10 (by decide)) (fun g10 => ?_)
      refine w_t (np := 12) (l2 := [some (eR a0), some (eI (a1))]) (s2 := [eR a0]) rfl (s_an rfl (pos_g hI gA0 (by decide))) rfl ?_
      refine w_t (np := 13) (l2 := [some (eR a0), some (eI (a1))]) (s2 := [eI (2), eR a0]) rfl rfl rfl ?_
      refine w_cw (np := 16) (as := [eI (2)]) (l2 := [some (eR a0), some (eI (2))]) (rest := []) rfl rfl rfl (Nat.ble_eq.mp rfl) rfl rfl rfl (hI.kd gA0 (by decide) (n := 14) rfl) rfl ?_
      refine w_t (np := 1) (l2 := [some (eR a0), some (eI (2))]) (s2 := [eR a0]) rfl (s_an rfl (pos_g hI gA0 (by decide))) rfl ?_
      refine w_t (np := 2) (l2 := [some (eR a0), some (eI (2))]) (s2 := [eI (2), eR a0]) rfl rfl rfl ?_
      refine j_pf (np := 5) (w := 2) rfl rfl hI gA0 (by decide) (n := 14) rfl rfl (hO_i (lo := -2147483648) (hi := 2147483647) rfl (by decide)) ?_
      intro m11 I12 W13
      have F14 : Fr l_194 0 0 g μ m11 := F0.w W13 gA0 rfl
      refine w_t (np := 6) (l2 := [some (eR a0), some (eI (2))]) (s2 := [eI (-1)]) rfl rfl rfl ?_
      refine b_ri rfl rfl ?_
      show ex_q (dt_fg L ρ) rc (d + 5, (194, 16, [some (eR a0), some (eI (a1))], [eI (-1)]), f :: F, m11)
      exact b_ri rfl rfl (K m11 (-1) I12 F14 (by decide))
def l_195 : List Nat := [270, 5124, 5125, 5126, 5127, 5128, 5129, 5632, 5888]
theorem s_195 {L : Nat} {ρ : Nat → Int} {rc : eQ} {d : Nat} {f : eFr} {F : List eFr} {μ : eM} {g : Nat → Nat} {a0 : Nat} {a1 : Int} (hI : SI g μ) (gA0 : g a0 = 1) (bA1 : -2147483648 ≤ a1 ∧ a1 ≤ 2147483647) (K : ∀ (μ2 : eM) (v : Int), SI g μ2 → Fr l_195 0 0 g μ μ2 → (-2147483648 ≤ v ∧ v ≤ 2147483647) → ex_q (dt_fg L ρ) rc (d + 8, (f.1, f.2.1, f.2.2.1, eI v :: f.2.2.2), F, μ2)) : ex_q (dt_fg L ρ) rc (d + 7, (195, 0, [some (eR a0), some (eI (a1))], []), f :: F, μ) := by
  have F0 : Fr l_195 0 0 g μ μ := Fr.r
  refine w_t (np := 1) (l2 := [some (eR a0), some (eI (a1))]) (s2 := [eI (a1)]) rfl rfl rfl ?_
  refine b_ilt (t1 := 9) (t2 := 4) rfl rfl rfl (ev_w_in (by omega) (by omega)) (fun g1 => ?_) (fun g1 => ?_)
  · have b2 : -2147483648 ≤ a1 ∧ a1 ≤ -1 := by omega
    refine w_t (np := 10) (l2 := [some (eR a0), some (eI (a1))]) (s2 := [eR a0]) rfl (s_an rfl (pos_g hI gA0 (by decide))) rfl ?_
    refine w_t (np := 11) (l2 := [some (eR a0), some (eI (a1))]) (s2 := [eI (1), eR a0]) rfl rfl rfl ?_
    refine w_cw (np := 14) (as := [eI (1)]) (l2 := [some (eR a0), some (eI (1))]) (rest := []) rfl rfl rfl (Nat.ble_eq.mp rfl) rfl rfl rfl (hI.kd gA0 (by decide) (n := 14) rfl) rfl ?_
    refine w_t (np := 1) (l2 := [some (eR a0), some (eI (1))]) (s2 := [eR a0]) rfl (s_an rfl (pos_g hI gA0 (by decide))) rfl ?_
    refine w_t (np := 2) (l2 := [some (eR a0), some (eI (1))]) (s2 := [eI (1), eR a0]) rfl rfl rfl ?_
    refine j_pf (np := 5) (w := 1) rfl rfl hI gA0 (by decide) (n := 14) rfl rfl (hO_i (lo := -2147483648) (hi := 2147483647) rfl (by decide)) ?_
    intro m2 I3 W4
    have F5 : Fr l_195 0 0 g μ m2 := F0.w W4 gA0 rfl
    refine w_t (np := 6) (l2 := [some (eR a0), some (eI (1))]) (s2 := [eI (-1)]) rfl rfl rfl ?_
    refine b_ri rfl rfl ?_
    show ex_q (dt_fg L ρ) rc (d + 7, (195, 14, [some (eR a0), some (eI (a1))], [eI (-1)]), f :: F, m2)
    exact b_ri rfl rfl (K m2 (-1) I3 F5 (by decide))
  · have b2 : 0 ≤ a1 ∧ a1 ≤ 2147483647 := by omega
    refine w_t (np := 5) (l2 := [some (eR a0), some (eI (a1))]) (s2 := [eI (a1)]) rfl rfl rfl ?_
    refine w_t (np := 6) (l2 := [some (eR a0), some (eI (a1))]) (s2 := [eI (4), eI (a1)]) rfl rfl rfl ?_
    refine b_cle (t1 := 15) (t2 := 9) rfl rfl rfl (ev_w_in (by omega) (by omega)) rfl (fun g2 => ?_) (fun g2 => ?_)
    · have b3 : 0 ≤ a1 ∧ a1 ≤ 4 := by omega
      refine w_t (np := 16) (l2 := [some (eR a0), some (eI (a1))]) (s2 := [eI (a1)]) rfl rfl rfl ?_
      refine w_t (np := 17) (l2 := [some (eR a0), some (eI (a1))]) (s2 := [eI (2), eI (a1)]) rfl rfl rfl ?_
      refine b_cle (t1 := 39) (t2 := 20) rfl rfl rfl (ev_w_in (by omega) (by omega)) rfl (fun g3 => ?_) (fun g3 => ?_)
      · have b4 : 0 ≤ a1 ∧ a1 ≤ 2 := by omega
        refine w_t (np := 40) (l2 := [some (eR a0), some (eI (a1))]) (s2 := [eR a0]) rfl (s_an rfl (pos_g hI gA0 (by decide))) rfl ?_
        refine w_t (np := 41) (l2 := [some (eR a0), some (eI (a1))]) (s2 := [eR a0, eR a0]) rfl (s_an rfl (pos_g hI gA0 (by decide))) rfl ?_
        refine j_gr (np := 44) rfl rfl hI gA0 (by decide) (n := 14) rfl rfl rfl ?_
        intro v4 e5 b6 z7
        have b6 : g v4 = 20 := Nat.eq_of_beq_eq_true b6
        refine w_t (np := 45) (l2 := [some (eR a0), some (eI (a1))]) (s2 := [eR a0, eR v4, eR a0]) rfl (s_an rfl (pos_g hI gA0 (by decide))) rfl ?_
        refine j_gr (np := 48) rfl rfl hI gA0 (by decide) (n := 14) rfl rfl rfl ?_
        intro v8 e9 b10 z11
        have b10 : g v8 = 29 := Nat.eq_of_beq_eq_true b10
        refine w_t (np := 49) (l2 := [some (eR a0), some (eI (a1))]) (s2 := [eI (a1), eR v8, eR v4, eR a0]) rfl rfl rfl ?_
        refine w_cw (np := 52) (as := [eR v8, eI (a1)]) (l2 := [some (eR v4), some (eR v8), some (eI (a1)), none, none]) (rest := [eR a0]) rfl rfl rfl (Nat.ble_eq.mp rfl) rfl rfl rfl (hI.kd b6 (by decide) (n := 9) rfl) rfl ?_
        refine s_97 (a2 := a1) hI b6 b10 (by omega) ?_
        intro m12 v15 I13 F14 b16
        have F17 : Fr l_195 0 0 g μ m12 := F0.t F14 rfl
        show ex_q (dt_fg L ρ) rc (d + 7, (195, 52, [some (eR a0), some (eI (a1))], [eI (v15), eR a0]), f :: F, m12)
        refine w_cw (np := 55) (as := [eI (v15)]) (l2 := [some (eR a0), some (eI (v15))]) (rest := []) rfl rfl rfl (Nat.ble_eq.mp rfl) rfl rfl rfl (I13.kd gA0 (by decide) (n := 14) rfl) rfl ?_
        refine w_t (np := 1) (l2 := [some (eR a0), some (eI (v15))]) (s2 := [eR a0]) rfl (s_an rfl (pos_g I13 gA0 (by decide))) rfl ?_
        refine w_t (np := 2) (l2 := [some (eR a0), some (eI (v15))]) (s2 := [eI (0), eR a0]) rfl rfl rfl ?_
        refine j_pf (np := 5) (w := 0) rfl rfl I13 gA0 (by decide) (n := 14) rfl rfl (hO_i (lo := -2147483648) (hi := 2147483647) rfl (by decide)) ?_
        intro m18 I19 W20
        have F21 : Fr l_195 0 0 g μ m18 := F17.w W20 gA0 rfl
        refine w_t (np := 6) (l2 := [some (eR a0), some (eI (v15))]) (s2 := [eI (v15)]) rfl rfl rfl ?_
        refine b_ri rfl rfl ?_
        show ex_q (dt_fg L ρ) rc (d + 7, (195, 55, [some (eR a0), some (eI (a1))], [eI (v15)]), f :: F, m18)
        exact b_ri rfl rfl (K m18 (v15) I19 F21 (by omega))
      · have b4 : 3 ≤ a1 ∧ a1 ≤ 4 := by omega
        refine w_t (np := 21) (l2 := [some (eR a0), some (eI (a1))]) (s2 := [eR a0]) rfl (s_an rfl (pos_g hI gA0 (by decide))) rfl ?_
        refine w_t (np := 22) (l2 := [some (eR a0), some (eI (a1))]) (s2 := [eR a0, eR a0]) rfl (s_an rfl (pos_g hI gA0 (by decide))) rfl ?_
        refine j_gr (np := 25) rfl rfl hI gA0 (by decide) (n := 14) rfl rfl rfl ?_
        intro v4 e5 b6 z7
        have b6 : g v4 = 20 := Nat.eq_of_beq_eq_true b6
        refine w_t (np := 26) (l2 := [some (eR a0), some (eI (a1))]) (s2 := [eR a0, eR v4, eR a0]) rfl (s_an rfl (pos_g hI gA0 (by decide))) rfl ?_
        refine j_gr (np := 29) rfl rfl hI gA0 (by decide) (n := 14) rfl rfl rfl ?_
        intro v8 e9 b10 z11
        have b10 : g v8 = 29 := Nat.eq_of_beq_eq_true b10
        refine w_t (np := 30) (l2 := [some (eR a0), some (eI (a1))]) (s2 := [eI (a1), eR v8, eR v4, eR a0]) rfl rfl rfl ?_
        refine w_t (np := 31) (l2 := [some (eR a0), some (eI (a1))]) (s2 := [eI (2), eI (a1), eR v8, eR v4, eR a0]) rfl rfl rfl ?_
        obtain ⟨v12, e13⟩ : ∃ zz : Int, zz = (a1) - (2) := ⟨_, rfl⟩
        have b14 : 1 ≤ v12 ∧ v12 ≤ 2 := by omega
        refine w_t (np := 32) (l2 := [some (eR a0), some (eI (a1))]) (s2 := [eI (v12), eR v8, eR v4, eR a0]) rfl (b_isub (by rw [← e13]; exact ev_w_in (by omega) (by omega))) rfl ?_
        refine w_cw (np := 35) (as := [eR v8, eI (v12)]) (l2 := [some (eR v4), some (eR v8), some (eI (v12)), none]) (rest := [eR a0]) rfl rfl rfl (Nat.ble_eq.mp rfl) rfl rfl rfl (hI.kd b6 (by decide) (n := 9) rfl) rfl ?_
        refine s_98 (a2 := v12) hI b6 b10 (by omega) ?_
        intro m15 v18 I16 F17 b19
        have F20 : Fr l_195 0 0 g μ m15 := F0.t F17 rfl
        show ex_q (dt_fg L ρ) rc (d + 7, (195, 35, [some (eR a0), some (eI (a1))], [eI (v18), eR a0]), f :: F, m15)
        refine w_cw (np := 38) (as := [eI (v18)]) (l2 := [some (eR a0), some (eI (v18))]) (rest := []) rfl rfl rfl (Nat.ble_eq.mp rfl) rfl rfl rfl (I16.kd gA0 (by decide) (n := 14) rfl) rfl ?_
        refine w_t (np := 1) (l2 := [some (eR a0), some (eI (v18))]) (s2 := [eI (v18)]) rfl rfl rfl ?_
        refine b_ige (t1 := 12) (t2 := 4) rfl rfl rfl (ev_w_in (by omega) (by omega)) (fun g21 => ?_) (fun g21 => ?_)
        · have b22 : 0 ≤ v18 ∧ v18 ≤ 2147483647 := by omega
          refine w_t (np := 13) (l2 := [some (eR a0), some (eI (v18))]) (s2 := [eR a0]) rfl (s_an rfl (pos_g I16 gA0 (by decide))) rfl ?_
          refine w_t (np := 14) (l2 := [some (eR a0), some (eI (v18))]) (s2 := [eI (v18), eR a0]) rfl rfl rfl ?_
          refine w_cw (np := 17) (as := [eI (v18)]) (l2 := [some (eR a0), some (eI (v18))]) (rest := []) rfl rfl rfl (Nat.ble_eq.mp rfl) rfl rfl rfl (I16.kd gA0 (by decide) (n := 14) rfl) rfl ?_
          refine w_t (np := 1) (l2 := [some (eR a0), some (eI (v18))]) (s2 := [eR a0]) rfl (s_an rfl (pos_g I16 gA0 (by decide))) rfl ?_
          refine w_t (np := 2) (l2 := [some (eR a0), some (eI (v18))]) (s2 := [eI (0), eR a0]) rfl rfl rfl ?_
          refine j_pf (np := 5) (w := 0) rfl rfl I16 gA0 (by decide) (n := 14) rfl rfl (hO_i (lo := -2147483648) (hi := 2147483647) rfl (by decide)) ?_
          intro m22 I23 W24
          have F25 : Fr l_195 0 0 g μ m22 := F20.w W24 gA0 rfl
          refine w_t (np := 6) (l2 := [some (eR a0), some (eI (v18))]) (s2 := [eI (v18)]) rfl rfl rfl ?_
          refine b_ri rfl rfl ?_
          show ex_q (dt_fg L ρ) rc (d + 6, (207, 17, [some (eR a0), some (eI (v18))], [eI (v18)]), (195, 38, [some (eR a0), some (eI (a1))], []) :: f :: F, m22)
          refine b_ri rfl rfl ?_
          show ex_q (dt_fg L ρ) rc (d + 7, (195, 38, [some (eR a0), some (eI (a1))], [eI (v18)]), f :: F, m22)
          exact b_ri rfl rfl (K m22 (v18) I23 F25 (by omega))
        · have b22 : -2147483648 ≤ v18 ∧ v18 ≤ -1 := by omega
          refine w_t (np := 5) (l2 := [some (eR a0), some (eI (v18))]) (s2 := [eR a0]) rfl (s_an rfl (pos_g I16 gA0 (by decide))) rfl ?_
          refine w_t (np := 6) (l2 := [some (eR a0), some (eI (v18))]) (s2 := [eI (5), eR a0]) rfl rfl rfl ?_
          refine w_cw (np := 9) (as := [eI (5)]) (l2 := [some (eR a0), some (eI (5))]) (rest := []) rfl rfl rfl (Nat.ble_eq.mp rfl) rfl rfl rfl (I16.kd gA0 (by decide) (n := 14) rfl) rfl ?_
          refine w_t (np := 1) (l2 := [some (eR a0), some (eI (5))]) (s2 := [eR a0]) rfl (s_an rfl (pos_g I16 gA0 (by decide))) rfl ?_
          refine w_t (np := 2) (l2 := [some (eR a0), some (eI (5))]) (s2 := [eI (5), eR a0]) rfl rfl rfl ?_
          refine j_pf (np := 5) (w := 5) rfl rfl I16 gA0 (by decide) (n := 14) rfl rfl (hO_i (lo := -2147483648) (hi := 2147483647) rfl (by decide)) ?_
          intro m22 I23 W24
          have F25 : Fr l_195 0 0 g μ m22 := F20.w W24 gA0 rfl
          refine w_t (np := 6) (l2 := [some (eR a0), some (eI (5))]) (s2 := [eI (-1)]) rfl rfl rfl ?_
          refine b_ri rfl rfl ?_
          show ex_q (dt_fg L ρ) rc (d + 6, (207, 9, [some (eR a0), some (eI (v18))], [eI (-1)]), (195, 38, [some (eR a0), some (eI (a1))], []) :: f :: F, m22)
          refine w_go (t1 := 17) rfl rfl ?_
          refine b_ri rfl rfl ?_
          show ex_q (dt_fg L ρ) rc (d + 7, (195, 38, [some (eR a0), some (eI (a1))], [eI (-1)]), f :: F, m22)
          exact b_ri rfl rfl (K m22 (-1) I23 F25 (by decide))
    · have b3 : 5 ≤ a1 ∧ a1 ≤ 2147483647 := by omega
      refine w_t (np := 10) (l2 := [some (eR a0), some (eI (a1))]) (s2 := [eR a0]) rfl (s_an rfl (pos_g hI gA0 (by decide))) rfl ?_
      refine w_t (np := 11) (l2 := [some (eR a0), some (eI (a1))]) (s2 := [eI (1), eR a0]) rfl rfl rfl ?_
      refine w_cw (np := 14) (as := [eI (1)]) (l2 := [some (eR a0), some (eI (1))]) (rest := []) rfl rfl rfl (Nat.ble_eq.mp rfl) rfl rfl rfl (hI.kd gA0 (by decide) (n := 14) rfl) rfl ?_
      refine w_t (np := 1) (l2 := [some (eR a0), some (eI (1))]) (s2 := [eR a0]) rfl (s_an rfl (pos_g hI gA0 (by decide))) rfl ?_
      refine w_t (np := 2) (l2 := [some (eR a0), some (eI (1))]) (s2 := [eI (1), eR a0]) rfl rfl rfl ?_
      refine j_pf (np := 5) (w := 1) rfl rfl hI gA0 (by decide) (n := 14) rfl rfl (hO_i (lo := -2147483648) (hi := 2147483647) rfl (by decide)) ?_
      intro m3 I4 W5
      have F6 : Fr l_195 0 0 g μ m3 := F0.w W5 gA0 rfl
      refine w_t (np := 6) (l2 := [some (eR a0), some (eI (1))]) (s2 := [eI (-1)]) rfl rfl rfl ?_
      refine b_ri rfl rfl ?_
      show ex_q (dt_fg L ρ) rc (d + 7, (195, 14, [some (eR a0), some (eI (a1))], [eI (-1)]), f :: F, m3)
      exact b_ri rfl rfl (K m3 (-1) I4 F6 (by decide))
theorem s_40 {L : Nat} {ρ : Nat → Int} {rc : eQ} {d : Nat} {f : eFr} {F : List eFr} {μ : eM} {g : Nat → Nat} {a0 : Nat} {a1 : Int} (hI : SI g μ) (gA0 : g a0 = 2) (bA1 : -9223372036854775808 ≤ a1 ∧ a1 ≤ 9223372036854775807) (K : ∀ (v : Int), (-2147483648 ≤ v ∧ v ≤ 2147483647) → ex_q (dt_fg L ρ) rc (d + 4, (f.1, f.2.1, f.2.2.1, eI v :: f.2.2.2), F, μ)) : ex_q (dt_fg L ρ) rc (d + 3, (40, 0, [some (eR a0), some (eJ (a1)), none, none], []), f :: F, μ) := by
  refine w_t (np := 1) (l2 := [some (eR a0), some (eJ (a1)), none, none]) (s2 := [eI (0)]) rfl rfl rfl ?_
  refine w_t (np := 2) (l2 := [some (eR a0), some (eJ (a1)), none, some (eI (0))]) (s2 := []) rfl rfl rfl ?_
  have hL2 : ∀ (n1 : Nat) (i3 : Int), (0 ≤ i3 ∧ i3 ≤ 890) → n1 = (890 - i3).toNat → ex_q (dt_fg L ρ) rc (d + 3, (40, 2, [some (eR a0), some (eJ (a1)), none, some (eI (i3))], []), f :: F, μ) := by
    intro n1
    induction n1 using Nat.strongRecOn with
    | _ n1 ih2 =>
    intro i3 b4 hn5
    refine w_t (np := 3) (l2 := [some (eR a0), some (eJ (a1)), none, some (eI (i3))]) (s2 := [eI (i3)]) rfl rfl rfl ?_
    refine w_t (np := 4) (l2 := [some (eR a0), some (eJ (a1)), none, some (eI (i3))]) (s2 := [eR a0, eI (i3)]) rfl (s_an rfl (pos_g hI gA0 (by decide))) rfl ?_
    refine j_gi (np := 7) rfl rfl rfl hI gA0 (by decide) (n := 8) rfl rfl (lo := 0) (hi := 50) rfl ?_
    intro v6 e7 b8
    refine b_cge (t1 := 27) (t2 := 10) rfl rfl rfl (ev_w_in (by omega) (by omega)) (ev_w_in (by omega) (by omega)) (fun g9 => ?_) (fun g9 => ?_)
    · refine w_t (np := 28) (l2 := [some (eR a0), some (eJ (a1)), none, some (eI (i3))]) (s2 := [eI (-1)]) rfl rfl rfl ?_
      exact b_ri rfl rfl (K (-1) (by decide))
    · have b10 : 0 ≤ i3 ∧ i3 ≤ 49 := by omega
      have b11 : 1 ≤ v6 ∧ v6 ≤ 50 := by omega
      refine w_t (np := 11) (l2 := [some (eR a0), some (eJ (a1)), none, some (eI (i3))]) (s2 := [eR a0]) rfl (s_an rfl (pos_g hI gA0 (by decide))) rfl ?_
      refine w_t (np := 12) (l2 := [some (eR a0), some (eJ (a1)), none, some (eI (i3))]) (s2 := [eI (i3), eR a0]) rfl rfl rfl ?_
      refine w_t (np := 13) (l2 := [some (eR a0), some (eJ (a1)), none, some (eI (i3))]) (s2 := [eJ (a1), eI (i3), eR a0]) rfl rfl rfl ?_
      refine w_cw (np := 16) (as := [eI (i3), eJ (a1)]) (l2 := [some (eR a0), some (eI (i3)), some (eJ (a1)), none, none, none, none, none, none, none, none, none, none]) (rest := []) rfl rfl rfl (Nat.ble_eq.mp rfl) rfl rfl rfl (hI.kd gA0 (by decide) (n := 8) rfl) rfl ?_
      refine s_41 (a1 := i3) hI gA0 (by omega) bA1 ?_
      intro v10 b11
      show ex_q (dt_fg L ρ) rc (d + 3, (40, 16, [some (eR a0), some (eJ (a1)), none, some (eI (i3))], [eI (v10)]), f :: F, μ)
      refine b_ieq (t1 := 21) (t2 := 19) rfl rfl rfl (ev_w_in (by omega) (by omega)) (fun g12 => ?_) (fun g12 => ?_)
      · have b13 : 0 ≤ v10 ∧ v10 ≤ 0 := by omega
        obtain ⟨v13, e14⟩ : ∃ zz : Int, zz = (i3) + (1) := ⟨_, rfl⟩
        have b15 : 1 ≤ v13 ∧ v13 ≤ 50 := by omega
        refine w_t (np := 24) (l2 := [some (eR a0), some (eJ (a1)), none, some (eI (v13))]) (s2 := []) rfl (b_iinc rfl (by rw [← e14]; exact ev_w_in (by omega) (by omega)) rfl) rfl ?_
        refine w_go (t1 := 2) rfl rfl ?_
        exact ih2 (890 - (v13)).toNat (by omega) (v13) (by omega)     rfl
      · have b13 : 1 ≤ v10 ∧ v10 ≤ 1 := by omega
        refine w_t (np := 20) (l2 := [some (eR a0), some (eJ (a1)), none, some (eI (i3))]) (s2 := [eI (i3)]) rfl rfl rfl ?_
        exact b_ri rfl rfl (K (i3) (by omega))
  exact hL2 _ (0) (by decide)     rfl
theorem s_40_2 {L : Nat} {ρ : Nat → Int} {rc : eQ} {d : Nat} {f : eFr} {F : List eFr} {μ : eM} {g : Nat → Nat} {a0 : Nat} {a1 : Int} (hI : SI g μ) (gA0 : g a0 = 7) (bA1 : -9223372036854775808 ≤ a1 ∧ a1 ≤ 9223372036854775807) (K : ∀ (v : Int), (-2147483648 ≤ v ∧ v ≤ 2147483647) → ex_q (dt_fg L ρ) rc (d + 4, (f.1, f.2.1, f.2.2.1, eI v :: f.2.2.2), F, μ)) : ex_q (dt_fg L ρ) rc (d + 3, (40, 0, [some (eR a0), some (eJ (a1)), none, none], []), f :: F, μ) := by
  refine w_t (np := 1) (l2 := [some (eR a0), some (eJ (a1)), none, none]) (s2 := [eI (0)]) rfl rfl rfl ?_
  refine w_t (np := 2) (l2 := [some (eR a0), some (eJ (a1)), none, some (eI (0))]) (s2 := []) rfl rfl rfl ?_
  have hL2 : ∀ (n1 : Nat) (i3 : Int), (0 ≤ i3 ∧ i3 ≤ 890) → n1 = (890 - i3).toNat → ex_q (dt_fg L ρ) rc (d + 3, (40, 2, [some (eR a0), some (eJ (a1)), none, some (eI (i3))], []), f :: F, μ) := by
    intro n1
    induction n1 using Nat.strongRecOn with
    | _ n1 ih2 =>
    intro i3 b4 hn5
    refine w_t (np := 3) (l2 := [some (eR a0), some (eJ (a1)), none, some (eI (i3))]) (s2 := [eI (i3)]) rfl rfl rfl ?_
    refine w_t (np := 4) (l2 := [some (eR a0), some (eJ (a1)), none, some (eI (i3))]) (s2 := [eR a0, eI (i3)]) rfl (s_an rfl (pos_g hI gA0 (by decide))) rfl ?_
    refine j_gi (np := 7) rfl rfl rfl hI gA0 (by decide) (n := 8) rfl rfl (lo := 0) (hi := 890) rfl ?_
    intro v6 e7 b8
    refine b_cge (t1 := 27) (t2 := 10) rfl rfl rfl (ev_w_in (by omega) (by omega)) (ev_w_in (by omega) (by omega)) (fun g9 => ?_) (fun g9 => ?_)
    · refine w_t (np := 28) (l2 := [some (eR a0), some (eJ (a1)), none, some (eI (i3))]) (s2 := [eI (-1)]) rfl rfl rfl ?_
      exact b_ri rfl rfl (K (-1) (by decide))
    · have b10 : 0 ≤ i3 ∧ i3 ≤ 889 := by omega
      have b11 : 1 ≤ v6 ∧ v6 ≤ 890 := by omega
      refine w_t (np := 11) (l2 := [some (eR a0), some (eJ (a1)), none, some (eI (i3))]) (s2 := [eR a0]) rfl (s_an rfl (pos_g hI gA0 (by decide))) rfl ?_
      refine w_t (np := 12) (l2 := [some (eR a0), some (eJ (a1)), none, some (eI (i3))]) (s2 := [eI (i3), eR a0]) rfl rfl rfl ?_
      refine w_t (np := 13) (l2 := [some (eR a0), some (eJ (a1)), none, some (eI (i3))]) (s2 := [eJ (a1), eI (i3), eR a0]) rfl rfl rfl ?_
      refine w_cw (np := 16) (as := [eI (i3), eJ (a1)]) (l2 := [some (eR a0), some (eI (i3)), some (eJ (a1)), none, none, none, none, none, none, none, none, none, none]) (rest := []) rfl rfl rfl (Nat.ble_eq.mp rfl) rfl rfl rfl (hI.kd gA0 (by decide) (n := 8) rfl) rfl ?_
      refine s_41_2 (a1 := i3) hI gA0 (by omega) bA1 ?_
      intro v10 b11
      show ex_q (dt_fg L ρ) rc (d + 3, (40, 16, [some (eR a0), some (eJ (a1)), none, some (eI (i3))], [eI (v10)]), f :: F, μ)
      refine b_ieq (t1 := 21) (t2 := 19) rfl rfl rfl (ev_w_in (by omega) (by omega)) (fun g12 => ?_) (fun g12 => ?_)
      · have b13 : 0 ≤ v10 ∧ v10 ≤ 0 := by omega
        obtain ⟨v13, e14⟩ : ∃ zz : Int, zz = (i3) + (1) := ⟨_, rfl⟩
        have b15 : 1 ≤ v13 ∧ v13 ≤ 890 := by omega
        refine w_t (np := 24) (l2 := [some (eR a0), some (eJ (a1)), none, some (eI (v13))]) (s2 := []) rfl (b_iinc rfl (by rw [← e14]; exact ev_w_in (by omega) (by omega)) rfl) rfl ?_
        refine w_go (t1 := 2) rfl rfl ?_
        exact ih2 (890 - (v13)).toNat (by omega) (v13) (by omega)     rfl
      · have b13 : 1 ≤ v10 ∧ v10 ≤ 1 := by omega
        refine w_t (np := 20) (l2 := [some (eR a0), some (eJ (a1)), none, some (eI (i3))]) (s2 := [eI (i3)]) rfl rfl rfl ?_
        exact b_ri rfl rfl (K (i3) (by omega))
  exact hL2 _ (0) (by decide)     rfl
def l_107 : List Nat := [8971, 8972, 8973, 8968, 8969, 8970, 9216, 9472, 9728]
theorem s_107 {L : Nat} {ρ : Nat → Int} {rc : eQ} {d : Nat} {f : eFr} {F : List eFr} {μ : eM} {g : Nat → Nat} {a0 : Nat} (hI : SI g μ) (gA0 : g a0 = 35) (K : ∀ (μ2 : eM), SI g μ2 → Fr l_107 0 0 g μ μ2 → ex_q (dt_fg L ρ) rc (d + 5, (f.1, f.2.1, f.2.2.1, f.2.2.2), F, μ2)) : ex_q (dt_fg L ρ) rc (d + 4, (107, 0, [some (eR a0), none], []), f :: F, μ) := by
  have F0 : Fr l_107 0 0 g μ μ := Fr.r
  refine w_t (np := 1) (l2 := [some (eR a0), none]) (s2 := [eR a0]) rfl (s_an rfl (pos_g hI gA0 (by decide))) rfl ?_
  refine j_gr (np := 4) rfl rfl hI gA0 (by decide) (n := 15) rfl rfl rfl ?_
  intro v1 e2 b3 z4
  have b3 : g v1 = 37 := Nat.eq_of_beq_eq_true b3
  refine w_t (np := 5) (l2 := [some (eR a0), none]) (s2 := [eI (-1), eR v1]) rfl rfl rfl ?_
  refine w_cu (np := 8) (as := [eR v1, eI (-1)]) (l2 := [some (eR v1), some (eI (-1)), none, none]) (rest := []) rfl rfl rfl (Nat.ble_eq.mp rfl) rfl rfl rfl rfl ?_
  refine s_365_3 (a1 := -1) hI b3 (by decide) ?_
  intro m5 I6 F7
  have F8 : Fr l_107 0 0 g μ m5 := F0.t F7 rfl
  show ex_q (dt_fg L ρ) rc (d + 4, (107, 8, [some (eR a0), none], []), f :: F, m5)
  refine w_t (np := 9) (l2 := [some (eR a0), none]) (s2 := [eI (0)]) rfl rfl rfl ?_
  refine w_t (np := 10) (l2 := [some (eR a0), some (eI (0))]) (s2 := []) rfl rfl rfl ?_
  have hL10 : ∀ (n9 : Nat) (m13 : eM) (i11 : Int), SI g m13 → Fr l_107 0 0 g μ m13 → (0 ≤ i11 ∧ i11 ≤ 2670) → m13.1 a0 1 = ((v1 : Nat) : Int) → n9 = (2670 - i11).toNat → ex_q (dt_fg L ρ) rc (d + 4, (107, 10, [some (eR a0), some (eI (i11))], []), f :: F, m13) := by
    intro n9
    induction n9 using Nat.strongRecOn with
    | _ n9 ih10 =>
    intro m13 i11 I14 F15 b12 k16 hn17
    refine w_t (np := 11) (l2 := [some (eR a0), some (eI (i11))]) (s2 := [eI (i11)]) rfl rfl rfl ?_
    refine w_t (np := 12) (l2 := [some (eR a0), some (eI (i11))]) (s2 := [eI (3), eI (i11)]) rfl rfl rfl ?_
    refine w_t (np := 13) (l2 := [some (eR a0), some (eI (i11))]) (s2 := [eR a0, eI (3), eI (i11)]) rfl (s_an rfl (pos_g I14 gA0 (by decide))) rfl ?_
    refine j_gr (np := 16) rfl rfl I14 gA0 (by decide) (n := 15) rfl rfl rfl ?_
    intro v18 e19 b20 z21
    rcases hor2 b20 with b20 | b20
    · refine j_gi (np := 19) rfl rfl rfl I14 b20 (by decide) (n := 8) rfl rfl (lo := 0) (hi := 50) rfl ?_
      intro v22 e23 b24
      obtain ⟨v25, e26⟩ : ∃ zz : Int, zz = (3) * (v22) := ⟨_, rfl⟩
      have b27 : 0 ≤ v25 ∧ v25 ≤ 150 := by omega
      refine w_t (np := 20) (l2 := [some (eR a0), some (eI (i11))]) (s2 := [eI (v25), eI (i11)]) rfl (b_imul (by rw [← e26]; exact ev_w_in (by omega) (by omega))) rfl ?_
      refine b_cge (t1 := 34) (t2 := 23) rfl rfl rfl (ev_w_in (by omega) (by omega)) (ev_w_in (by omega) (by omega)) (fun g28 => ?_) (fun g28 => ?_)
      · refine w_t (np := 35) (l2 := [some (eR a0), some (eI (i11))]) (s2 := [eR a0]) rfl (s_an rfl (pos_g I14 gA0 (by decide))) rfl ?_
        refine w_cw (np := 38) (as := []) (l2 := [some (eR a0), none]) (rest := []) rfl rfl rfl (Nat.ble_eq.mp rfl) rfl rfl rfl (I14.kd gA0 (by decide) (n := 15) rfl) rfl ?_
        refine s_112 I14 gA0 ?_
        intro m29 I30 F31
        have F32 : Fr l_107 0 0 g μ m29 := F15.t F31 rfl
        show ex_q (dt_fg L ρ) rc (d + 4, (107, 38, [some (eR a0), some (eI (i11))], []), f :: F, m29)
        exact v_rv rfl rfl (K m29 I30 F32)
      · have b29 : 0 ≤ i11 ∧ i11 ≤ 149 := by omega
        have b30 : 1 ≤ v25 ∧ v25 ≤ 150 := by omega
        refine w_t (np := 24) (l2 := [some (eR a0), some (eI (i11))]) (s2 := [eR a0]) rfl (s_an rfl (pos_g I14 gA0 (by decide))) rfl ?_
        refine w_t (np := 25) (l2 := [some (eR a0), some (eI (i11))]) (s2 := [eI (i11), eR a0]) rfl rfl rfl ?_
        refine w_cw (np := 28) (as := [eI (i11)]) (l2 := [some (eR a0), some (eI (i11)), none, none, none]) (rest := []) rfl rfl rfl (Nat.ble_eq.mp rfl) rfl rfl rfl (I14.kd gA0 (by decide) (n := 15) rfl) rfl ?_
        refine s_108 (a1 := i11) I14 gA0 (by omega) ?_
        intro m29 I30 F31
        have F32 : Fr l_107 0 0 g μ m29 := F15.t F31 rfl
        show ex_q (dt_fg L ρ) rc (d + 4, (107, 28, [some (eR a0), some (eI (i11))], []), f :: F, m29)
        obtain ⟨v33, e34⟩ : ∃ zz : Int, zz = (i11) + (1) := ⟨_, rfl⟩
        have b35 : 1 ≤ v33 ∧ v33 ≤ 150 := by omega
        refine w_t (np := 31) (l2 := [some (eR a0), some (eI (v33))]) (s2 := []) rfl (b_iinc rfl (by rw [← e34]; exact ev_w_in (by omega) (by omega)) rfl) rfl ?_
        refine w_go (t1 := 10) rfl rfl ?_
        exact ih10 (2670 - (v33)).toNat (by omega) m29 (v33) I30 F32 (by omega) (F31.k k16 gA0 (by decide) rfl)    rfl
    · refine j_gi (np := 19) rfl rfl rfl I14 b20 (by decide) (n := 8) rfl rfl (lo := 0) (hi := 890) rfl ?_
      intro v22 e23 b24
      obtain ⟨v25, e26⟩ : ∃ zz : Int, zz = (3) * (v22) := ⟨_, rfl⟩
      have b27 : 0 ≤ v25 ∧ v25 ≤ 2670 := by omega
      refine w_t (np := 20) (l2 := [some (eR a0), some (eI (i11))]) (s2 := [eI (v25), eI (i11)]) rfl (b_imul (by rw [← e26]; exact ev_w_in (by omega) (by omega))) rfl ?_
      refine b_cge (t1 := 34) (t2 := 23) rfl rfl rfl (ev_w_in (by omega) (by omega)) (ev_w_in (by omega) (by omega)) (fun g28 => ?_) (fun g28 => ?_)
      · refine w_t (np := 35) (l2 := [some (eR a0), some (eI (i11))]) (s2 := [eR a0]) rfl (s_an rfl (pos_g I14 gA0 (by decide))) rfl ?_
        refine w_cw (np := 38) (as := []) (l2 := [some (eR a0), none]) (rest := []) rfl rfl rfl (Nat.ble_eq.mp rfl) rfl rfl rfl (I14.kd gA0 (by decide) (n := 15) rfl) rfl ?_
        refine s_112 I14 gA0 ?_
        intro m29 I30 F31
        have F32 : Fr l_107 0 0 g μ m29 := F15.t F31 rfl
        show ex_q (dt_fg L ρ) rc (d + 4, (107, 38, [some (eR a0), some (eI (i11))], []), f :: F, m29)
        exact v_rv rfl rfl (K m29 I30 F32)
      · have b29 : 0 ≤ i11 ∧ i11 ≤ 2669 := by omega
        have b30 : 1 ≤ v25 ∧ v25 ≤ 2670 := by omega
        refine w_t (np := 24) (l2 := [some (eR a0), some (eI (i11))]) (s2 := [eR a0]) rfl (s_an rfl (pos_g I14 gA0 (by decide))) rfl ?_
        refine w_t (np := 25) (l2 := [some (eR a0), some (eI (i11))]) (s2 := [eI (i11), eR a0]) rfl rfl rfl ?_
        refine w_cw (np := 28) (as := [eI (i11)]) (l2 := [some (eR a0), some (eI (i11)), none, none, none]) (rest := []) rfl rfl rfl (Nat.ble_eq.mp rfl) rfl rfl rfl (I14.kd gA0 (by decide) (n := 15) rfl) rfl ?_
        refine s_108 (a1 := i11) I14 gA0 (by omega) ?_
        intro m29 I30 F31
        have F32 : Fr l_107 0 0 g μ m29 := F15.t F31 rfl
        show ex_q (dt_fg L ρ) rc (d + 4, (107, 28, [some (eR a0), some (eI (i11))], []), f :: F, m29)
        obtain ⟨v33, e34⟩ : ∃ zz : Int, zz = (i11) + (1) := ⟨_, rfl⟩
        have b35 : 1 ≤ v33 ∧ v33 ≤ 2670 := by omega
        refine w_t (np := 31) (l2 := [some (eR a0), some (eI (v33))]) (s2 := []) rfl (b_iinc rfl (by rw [← e34]; exact ev_w_in (by omega) (by omega)) rfl) rfl ?_
        refine w_go (t1 := 10) rfl rfl ?_
        exact ih10 (2670 - (v33)).toNat (by omega) m29 (v33) I30 F32 (by omega) (F31.k k16 gA0 (by decide) rfl)    rfl
  exact hL10 _ m5 (0) I6 F8 (by decide) (F7.k e2 gA0 (by decide) rfl)    rfl
def l_138 : List Nat := [7430, 7431, 8448, 7936, 8192, 7680, 8704]
theorem s_138 {L : Nat} {ρ : Nat → Int} {rc : eQ} {d : Nat} {f : eFr} {F : List eFr} {μ : eM} {g : Nat → Nat} {a0 : Nat} {a1 : Int} {a2 : Int} {a4 : Int} {a5 : Int} (hI : SI g μ) (gA0 : g a0 = 29) (bA1 : 0 ≤ a1 ∧ a1 ≤ 1) (bA2 : -9223372036854775808 ≤ a2 ∧ a2 ≤ 9223372036854775807) (bA4 : 0 ≤ a4 ∧ a4 ≤ 9) (bA5 : 0 ≤ a5 ∧ a5 ≤ 1) (K : ∀ (μ2 : eM) (v : Int), SI g μ2 → Fr l_138 0 0 g μ μ2 → (0 ≤ v ∧ v ≤ 7) → ex_q (dt_fg L ρ) rc (d + 5, (f.1, f.2.1, f.2.2.1, eI v :: f.2.2.2), F, μ2)) : ex_q (dt_fg L ρ) rc (d + 4, (138, 0, [some (eR a0), some (eI (a1)), some (eJ (a2)), none, some (eI (a4)), some (eI (a5)), none, none, none, none, none], []), f :: F, μ) := by
  have F0 : Fr l_138 0 0 g μ μ := Fr.r
  refine w_t (np := 1) (l2 := [some (eR a0), some (eI (a1)), some (eJ (a2)), none, some (eI (a4)), some (eI (a5)), none, none, none, none, none]) (s2 := [eR a0]) rfl (s_an rfl (pos_g hI gA0 (by decide))) rfl ?_
  refine j_gi (np := 4) rfl rfl rfl hI gA0 (by decide) (n := 7) rfl rfl (lo := 0) (hi := 24) rfl ?_
  intro v1 e2 b3
  refine w_t (np := 6) (l2 := [some (eR a0), some (eI (a1)), some (eJ (a2)), none, some (eI (a4)), some (eI (a5)), none, none, none, none, none]) (s2 := [eI (24), eI (v1)]) rfl rfl rfl ?_
  refine b_clt (t1 := 11) (t2 := 9) rfl rfl rfl (ev_w_in (by omega) (by omega)) rfl (fun g4 => ?_) (fun g4 => ?_)
  · have b5 : 0 ≤ v1 ∧ v1 ≤ 23 := by omega
    refine w_t (np := 13) (l2 := [some (eR a0), some (eI (a1)), some (eJ (a2)), none, some (eI (a4)), some (eI (a5)), none, none, none, none, none]) (s2 := [eI (a4)]) rfl rfl rfl ?_
    refine w_cu (np := 16) (as := [eI (a4)]) (l2 := [some (eI (a4))]) (rest := []) rfl rfl rfl (Nat.ble_eq.mp rfl) rfl rfl rfl rfl ?_
    refine s_74 (a0 := a4) hI (by omega) ?_
    intro v5 b6
    show ex_q (dt_fg L ρ) rc (d + 4, (138, 16, [some (eR a0), some (eI (a1)), some (eJ (a2)), none, some (eI (a4)), some (eI (a5)), none, none, none, none, none], [eJ (v5)]), f :: F, μ)
    refine w_t (np := 18) (l2 := [some (eR a0), some (eI (a1)), some (eJ (a2)), none, some (eI (a4)), some (eI (a5)), some (eJ (v5)), none, none, none, none]) (s2 := []) rfl rfl rfl ?_
    refine w_t (np := 20) (l2 := [some (eR a0), some (eI (a1)), some (eJ (a2)), none, some (eI (a4)), some (eI (a5)), some (eJ (v5)), none, none, none, none]) (s2 := [eI (a4)]) rfl rfl rfl ?_
    refine w_t (np := 21) (l2 := [some (eR a0), some (eI (a1)), some (eJ (a2)), none, some (eI (a4)), some (eI (a5)), some (eJ (v5)), none, none, none, none]) (s2 := [eI (a1), eI (a4)]) rfl rfl rfl ?_
    refine w_cu (np := 24) (as := [eI (a1)]) (l2 := [some (eI (a1))]) (rest := [eI (a4)]) rfl rfl rfl (Nat.ble_eq.mp rfl) rfl rfl rfl rfl ?_
    refine w_t (np := 1) (l2 := [some (eI (a1))]) (s2 := [eI (a1)]) rfl rfl rfl ?_
    refine b_ine (t1 := 8) (t2 := 4) rfl rfl rfl (ev_w_in (by omega) (by omega)) (fun g7 => ?_) (fun g7 => ?_)
    · have b8 : 1 ≤ a1 ∧ a1 ≤ 1 := by omega
      refine w_t (np := 9) (l2 := [some (eI (a1))]) (s2 := [eI (3)]) rfl rfl rfl ?_
      refine b_ri rfl rfl ?_
      show ex_q (dt_fg L ρ) rc (d + 4, (138, 24, [some (eR a0), some (eI (a1)), some (eJ (a2)), none, some (eI (a4)), some (eI (a5)), some (eJ (v5)), none, none, none, none], [eI (3), eI (a4)]), f :: F, μ)
      refine w_t (np := 25) (l2 := [some (eR a0), some (eI (a1)), some (eJ (a2)), none, some (eI (a4)), some (eI (a5)), some (eJ (v5)), none, none, none, none]) (s2 := [eI (1), eI (3), eI (a4)]) rfl rfl rfl ?_
      refine w_t (np := 26) (l2 := [some (eR a0), some (eI (a1)), some (eJ (a2)), none, some (eI (a4)), some (eI (a5)), some (eJ (v5)), none, none, none, none]) (s2 := [eI (2), eI (1), eI (3), eI (a4)]) rfl rfl rfl ?_
      refine w_t (np := 28) (l2 := [some (eR a0), some (eI (a1)), some (eJ (a2)), none, some (eI (a4)), some (eI (a5)), some (eJ (v5)), none, none, none, none]) (s2 := [eI (a5), eI (2), eI (1), eI (3), eI (a4)]) rfl rfl rfl ?_
      obtain ⟨v8, e9⟩ : ∃ zz : Int, zz = (2) * (a5) := ⟨_, rfl⟩
      have b10 : 0 ≤ v8 ∧ v8 ≤ 2 := by omega
      refine w_t (np := 29) (l2 := [some (eR a0), some (eI (a1)), some (eJ (a2)), none, some (eI (a4)), some (eI (a5)), some (eJ (v5)), none, none, none, none]) (s2 := [eI (v8), eI (1), eI (3), eI (a4)]) rfl (b_imul (by rw [← e9]; exact ev_w_in (by omega) (by omega))) rfl ?_
      obtain ⟨v11, e12⟩ : ∃ zz : Int, zz = (1) - (v8) := ⟨_, rfl⟩
      have b13 : -1 ≤ v11 ∧ v11 ≤ 1 := by omega
      refine w_t (np := 30) (l2 := [some (eR a0), some (eI (a1)), some (eJ (a2)), none, some (eI (a4)), some (eI (a5)), some (eJ (v5)), none, none, none, none]) (s2 := [eI (v11), eI (3), eI (a4)]) rfl (b_isub (by rw [← e12]; exact ev_w_in (by omega) (by omega))) rfl ?_
      obtain ⟨v14, e15⟩ : ∃ zz : Int, zz = (3) * (v11) := ⟨_, rfl⟩
      have b16 : -3 ≤ v14 ∧ v14 ≤ 3 := by omega
      refine w_t (np := 31) (l2 := [some (eR a0), some (eI (a1)), some (eJ (a2)), none, some (eI (a4)), some (eI (a5)), some (eJ (v5)), none, none, none, none]) (s2 := [eI (v14), eI (a4)]) rfl (b_imul (by rw [← e15]; exact ev_w_in (by omega) (by omega))) rfl ?_
      obtain ⟨v17, e18⟩ : ∃ zz : Int, zz = (a4) + (v14) := ⟨_, rfl⟩
      have b19 : -3 ≤ v17 ∧ v17 ≤ 12 := by omega
      refine w_t (np := 32) (l2 := [some (eR a0), some (eI (a1)), some (eJ (a2)), none, some (eI (a4)), some (eI (a5)), some (eJ (v5)), none, none, none, none]) (s2 := [eI (v17)]) rfl (b_iadd (by rw [← e18]; exact ev_w_in (by omega) (by omega))) rfl ?_
      refine w_cu (np := 35) (as := [eI (v17)]) (l2 := [some (eI (v17))]) (rest := []) rfl rfl rfl (Nat.ble_eq.mp rfl) rfl rfl rfl rfl ?_
      refine s_74 (a0 := v17) hI (by omega) ?_
      intro v20 b21
      show ex_q (dt_fg L ρ) rc (d + 4, (138, 35, [some (eR a0), some (eI (a1)), some (eJ (a2)), none, some (eI (a4)), some (eI (a5)), some (eJ (v5)), none, none, none, none], [eJ (v20)]), f :: F, μ)
      refine w_t (np := 37) (l2 := [some (eR a0), some (eI (a1)), some (eJ (a2)), none, some (eI (a4)), some (eI (a5)), some (eJ (v5)), none, some (eJ (v20)), none, none]) (s2 := []) rfl rfl rfl ?_
      refine w_t (np := 38) (l2 := [some (eR a0), some (eI (a1)), some (eJ (a2)), none, some (eI (a4)), some (eI (a5)), some (eJ (v5)), none, some (eJ (v20)), none, none]) (s2 := [eR a0]) rfl (s_an rfl (pos_g hI gA0 (by decide))) rfl ?_
      refine j_gr (np := 41) rfl rfl hI gA0 (by decide) (n := 7) rfl rfl rfl ?_
      intro v22 e23 b24 z25
      have b24 : g v22 = 30 := Nat.eq_of_beq_eq_true b24
      refine w_t (np := 42) (l2 := [some (eR a0), some (eI (a1)), some (eJ (a2)), none, some (eI (a4)), some (eI (a5)), some (eJ (v5)), none, some (eJ (v20)), none, none]) (s2 := [eR a0, eR v22]) rfl (s_an rfl (pos_g hI gA0 (by decide))) rfl ?_
      refine w_gf (np := 45) (v := eI (v1)) rfl rfl (hI.kd gA0 (by decide) (n := 7) rfl) (by rw [e2]; rfl) ?_
      refine w_t (np := 46) (l2 := [some (eR a0), some (eI (a1)), some (eJ (a2)), none, some (eI (a4)), some (eI (a5)), some (eJ (v5)), none, some (eJ (v20)), none, none]) (s2 := [eI (a1), eI (v1), eR v22]) rfl rfl rfl ?_
      refine j_as (np := 47) rfl rfl hI b24 (by decide) (n := 24) rfl rfl (lo := 0) (hi := 1) (fun _ => rfl) (by omega) (by omega) (by omega) ?_
      intro m26 I27 W28
      have F29 : Fr l_138 0 0 g μ m26 := F0.v W28 b24 rfl rfl
      refine w_t (np := 48) (l2 := [some (eR a0), some (eI (a1)), some (eJ (a2)), none, some (eI (a4)), some (eI (a5)), some (eJ (v5)), none, some (eJ (v20)), none, none]) (s2 := [eR a0]) rfl (s_an rfl (pos_g I27 gA0 (by decide))) rfl ?_
      refine j_gr (np := 51) rfl rfl I27 gA0 (by decide) (n := 7) rfl rfl rfl ?_
      intro v30 e31 b32 z33
      have b32 : g v30 = 31 := Nat.eq_of_beq_eq_true b32
      refine w_t (np := 52) (l2 := [some (eR a0), some (eI (a1)), some (eJ (a2)), none, some (eI (a4)), some (eI (a5)), some (eJ (v5)), none, some (eJ (v20)), none, none]) (s2 := [eR a0, eR v30]) rfl (s_an rfl (pos_g I27 gA0 (by decide))) rfl ?_
      refine w_gf (np := 55) (v := eI (v1)) rfl rfl (I27.kd gA0 (by decide) (n := 7) rfl) (by rw [(W28.addr e2 b24 gA0 (by decide))]; rfl) ?_
      refine w_t (np := 57) (l2 := [some (eR a0), some (eI (a1)), some (eJ (a2)), none, some (eI (a4)), some (eI (a5)), some (eJ (v5)), none, some (eJ (v20)), none, none]) (s2 := [eI (a4), eI (v1), eR v30]) rfl rfl rfl ?_
      refine j_as (np := 58) rfl rfl I27 b32 (by decide) (n := 24) rfl rfl (lo := 0) (hi := 9) (fun _ => rfl) (by omega) (by omega) (by omega) ?_
      intro m34 I35 W36
      have F37 : Fr l_138 0 0 g μ m34 := F29.v W36 b32 rfl rfl
      refine w_t (np := 59) (l2 := [some (eR a0), some (eI (a1)), some (eJ (a2)), none, some (eI (a4)), some (eI (a5)), some (eJ (v5)), none, some (eJ (v20)), none, none]) (s2 := [eR a0]) rfl (s_an rfl (pos_g I35 gA0 (by decide))) rfl ?_
      refine j_gr (np := 62) rfl rfl I35 gA0 (by decide) (n := 7) rfl rfl rfl ?_
      intro v38 e39 b40 z41
      have b40 : g v38 = 32 := Nat.eq_of_beq_eq_true b40
      refine w_t (np := 63) (l2 := [some (eR a0), some (eI (a1)), some (eJ (a2)), none, some (eI (a4)), some (eI (a5)), some (eJ (v5)), none, some (eJ (v20)), none, none]) (s2 := [eR a0, eR v38]) rfl (s_an rfl (pos_g I35 gA0 (by decide))) rfl ?_
      refine w_gf (np := 66) (v := eI (v1)) rfl rfl (I35.kd gA0 (by decide) (n := 7) rfl) (by rw [(W36.addr (W28.addr e2 b24 gA0 (by decide)) b32 gA0 (by decide))]; rfl) ?_
      refine w_t (np := 68) (l2 := [some (eR a0), some (eI (a1)), some (eJ (a2)), none, some (eI (a4)), some (eI (a5)), some (eJ (v5)), none, some (eJ (v20)), none, none]) (s2 := [eI (a5), eI (v1), eR v38]) rfl rfl rfl ?_
      refine j_as (np := 69) rfl rfl I35 b40 (by decide) (n := 24) rfl rfl (lo := 0) (hi := 1) (fun _ => rfl) (by omega) (by omega) (by omega) ?_
      intro m42 I43 W44
      have F45 : Fr l_138 0 0 g μ m42 := F37.v W44 b40 rfl rfl
      refine w_t (np := 70) (l2 := [some (eR a0), some (eI (a1)), some (eJ (a2)), none, some (eI (a4)), some (eI (a5)), some (eJ (v5)), none, some (eJ (v20)), none, none]) (s2 := [eR a0]) rfl (s_an rfl (pos_g I43 gA0 (by decide))) rfl ?_
      refine j_gr (np := 73) rfl rfl I43 gA0 (by decide) (n := 7) rfl rfl rfl ?_
      intro v46 e47 b48 z49
      have b48 : g v46 = 33 := Nat.eq_of_beq_eq_true b48
      refine w_t (np := 74) (l2 := [some (eR a0), some (eI (a1)), some (eJ (a2)), none, some (eI (a4)), some (eI (a5)), some (eJ (v5)), none, some (eJ (v20)), none, none]) (s2 := [eI (4), eR v46]) rfl rfl rfl ?_
      refine w_t (np := 75) (l2 := [some (eR a0), some (eI (a1)), some (eJ (a2)), none, some (eI (a4)), some (eI (a5)), some (eJ (v5)), none, some (eJ (v20)), none, none]) (s2 := [eR a0, eI (4), eR v46]) rfl (s_an rfl (pos_g I43 gA0 (by decide))) rfl ?_
      refine w_gf (np := 78) (v := eI (v1)) rfl rfl (I43.kd gA0 (by decide) (n := 7) rfl) (by rw [(W44.addr (W36.addr (W28.addr e2 b24 gA0 (by decide)) b32 gA0 (by decide)) b40 gA0 (by decide))]; rfl) ?_
      obtain ⟨v50, e51⟩ : ∃ zz : Int, zz = (4) * (v1) := ⟨_, rfl⟩
      have b52 : 0 ≤ v50 ∧ v50 ≤ 92 := by omega
      refine w_t (np := 79) (l2 := [some (eR a0), some (eI (a1)), some (eJ (a2)), none, some (eI (a4)), some (eI (a5)), some (eJ (v5)), none, some (eJ (v20)), none, none]) (s2 := [eI (v50), eR v46]) rfl (b_imul (by rw [← e51]; exact ev_w_in (by omega) (by omega))) rfl ?_
      refine w_t (np := 80) (l2 := [some (eR a0), some (eI (a1)), some (eJ (a2)), none, some (eI (a4)), some (eI (a5)), some (eJ (v5)), none, some (eJ (v20)), none, none]) (s2 := [eJ (a2), eI (v50), eR v46]) rfl rfl rfl ?_
      refine j_sl (np := 81) rfl rfl I43 b48 (by decide) (n := 96) rfl rfl (lo := -9223372036854775808) (hi := 9223372036854775807) (fun _ => rfl) (by omega) (by omega) (by omega) ?_
      intro m53 I54 W55
      have F56 : Fr l_138 0 0 g μ m53 := F45.v W55 b48 rfl rfl
      refine w_t (np := 82) (l2 := [some (eR a0), some (eI (a1)), some (eJ (a2)), none, some (eI (a4)), some (eI (a5)), some (eJ (v5)), none, some (eJ (v20)), none, none]) (s2 := [eR a0]) rfl (s_an rfl (pos_g I54 gA0 (by decide))) rfl ?_
      refine w_gf (np := 85) (v := eR v46) rfl rfl (I54.kd gA0 (by decide) (n := 7) rfl) (by rw [(W55.addr e47 b48 gA0 (by decide))]; rfl) ?_
      refine w_t (np := 86) (l2 := [some (eR a0), some (eI (a1)), some (eJ (a2)), none, some (eI (a4)), some (eI (a5)), some (eJ (v5)), none, some (eJ (v20)), none, none]) (s2 := [eI (4), eR v46]) rfl rfl rfl ?_
      refine w_t (np := 87) (l2 := [some (eR a0), some (eI (a1)), some (eJ (a2)), none, some (eI (a4)), some (eI (a5)), some (eJ (v5)), none, some (eJ (v20)), none, none]) (s2 := [eR a0, eI (4), eR v46]) rfl (s_an rfl (pos_g I54 gA0 (by decide))) rfl ?_
      refine w_gf (np := 90) (v := eI (v1)) rfl rfl (I54.kd gA0 (by decide) (n := 7) rfl) (by rw [(W55.addr (W44.addr (W36.addr (W28.addr e2 b24 gA0 (by decide)) b32 gA0 (by decide)) b40 gA0 (by decide)) b48 gA0 (by decide))]; rfl) ?_
      obtain ⟨v57, e58⟩ : ∃ zz : Int, zz = (4) * (v1) := ⟨_, rfl⟩
      have b59 : 0 ≤ v57 ∧ v57 ≤ 92 := by omega
      refine w_t (np := 91) (l2 := [some (eR a0), some (eI (a1)), some (eJ (a2)), none, some (eI (a4)), some (eI (a5)), some (eJ (v5)), none, some (eJ (v20)), none, none]) (s2 := [eI (v57), eR v46]) rfl (b_imul (by rw [← e58]; exact ev_w_in (by omega) (by omega))) rfl ?_
      refine w_t (np := 92) (l2 := [some (eR a0), some (eI (a1)), some (eJ (a2)), none, some (eI (a4)), some (eI (a5)), some (eJ (v5)), none, some (eJ (v20)), none, none]) (s2 := [eI (1), eI (v57), eR v46]) rfl rfl rfl ?_
      obtain ⟨v60, e61⟩ : ∃ zz : Int, zz = (v57) + (1) := ⟨_, rfl⟩
      have b62 : 1 ≤ v60 ∧ v60 ≤ 93 := by omega
      refine w_t (np := 93) (l2 := [some (eR a0), some (eI (a1)), some (eJ (a2)), none, some (eI (a4)), some (eI (a5)), some (eJ (v5)), none, some (eJ (v20)), none, none]) (s2 := [eI (v60), eR v46]) rfl (b_iadd (by rw [← e61]; exact ev_w_in (by omega) (by omega))) rfl ?_
      refine w_t (np := 94) (l2 := [some (eR a0), some (eI (a1)), some (eJ (a2)), none, some (eI (a4)), some (eI (a5)), some (eJ (v5)), none, some (eJ (v20)), none, none]) (s2 := [eJ (a2), eI (v60), eR v46]) rfl rfl rfl ?_
      refine w_t (np := 96) (l2 := [some (eR a0), some (eI (a1)), some (eJ (a2)), none, some (eI (a4)), some (eI (a5)), some (eJ (v5)), none, some (eJ (v20)), none, none]) (s2 := [eJ (v5), eJ (a2), eI (v60), eR v46]) rfl rfl rfl ?_
      refine w_cu (np := 99) (as := [eJ (a2), eJ (v5)]) (l2 := [some (eJ (a2)), none, some (eJ (v5)), none]) (rest := [eI (v60), eR v46]) rfl rfl rfl (Nat.ble_eq.mp rfl) rfl rfl rfl rfl ?_
      refine s_75 I54 bA2 b6 ?_
      intro v63 b64
      show ex_q (dt_fg L ρ) rc (d + 4, (138, 99, [some (eR a0), some (eI (a1)), some (eJ (a2)), none, some (eI (a4)), some (eI (a5)), some (eJ (v5)), none, some (eJ (v20)), none, none], [eJ (v63), eI (v60), eR v46]), f :: F, m53)
      refine j_sl (np := 100) rfl rfl I54 b48 (by decide) (n := 96) rfl rfl (lo := -9223372036854775808) (hi := 9223372036854775807) (fun _ => rfl) (by omega) (by omega) (by omega) ?_
      intro m65 I66 W67
      have F68 : Fr l_138 0 0 g μ m65 := F56.v W67 b48 rfl rfl
      refine w_t (np := 101) (l2 := [some (eR a0), some (eI (a1)), some (eJ (a2)), none, some (eI (a4)), some (eI (a5)), some (eJ (v5)), none, some (eJ (v20)), none, none]) (s2 := [eR a0]) rfl (s_an rfl (pos_g I66 gA0 (by decide))) rfl ?_
      refine w_gf (np := 104) (v := eR v46) rfl rfl (I66.kd gA0 (by decide) (n := 7) rfl) (by rw [(W67.addr (W55.addr e47 b48 gA0 (by decide)) b48 gA0 (by decide))]; rfl) ?_
      refine w_t (np := 105) (l2 := [some (eR a0), some (eI (a1)), some (eJ (a2)), none, some (eI (a4)), some (eI (a5)), some (eJ (v5)), none, some (eJ (v20)), none, none]) (s2 := [eI (4), eR v46]) rfl rfl rfl ?_
      refine w_t (np := 106) (l2 := [some (eR a0), some (eI (a1)), some (eJ (a2)), none, some (eI (a4)), some (eI (a5)), some (eJ (v5)), none, some (eJ (v20)), none, none]) (s2 := [eR a0, eI (4), eR v46]) rfl (s_an rfl (pos_g I66 gA0 (by decide))) rfl ?_
      refine w_gf (np := 109) (v := eI (v1)) rfl rfl (I66.kd gA0 (by decide) (n := 7) rfl) (by rw [(W67.addr (W55.addr (W44.addr (W36.addr (W28.addr e2 b24 gA0 (by decide)) b32 gA0 (by decide)) b40 gA0 (by decide)) b48 gA0 (by decide)) b48 gA0 (by decide))]; rfl) ?_
      obtain ⟨v69, e70⟩ : ∃ zz : Int, zz = (4) * (v1) := ⟨_, rfl⟩
      have b71 : 0 ≤ v69 ∧ v69 ≤ 92 := by omega
      refine w_t (np := 110) (l2 := [some (eR a0), some (eI (a1)), some (eJ (a2)), none, some (eI (a4)), some (eI (a5)), some (eJ (v5)), none, some (eJ (v20)), none, none]) (s2 := [eI (v69), eR v46]) rfl (b_imul (by rw [← e70]; exact ev_w_in (by omega) (by omega))) rfl ?_
      refine w_t (np := 111) (l2 := [some (eR a0), some (eI (a1)), some (eJ (a2)), none, some (eI (a4)), some (eI (a5)), some (eJ (v5)), none, some (eJ (v20)), none, none]) (s2 := [eI (2), eI (v69), eR v46]) rfl rfl rfl ?_
      obtain ⟨v72, e73⟩ : ∃ zz : Int, zz = (v69) + (2) := ⟨_, rfl⟩
      have b74 : 2 ≤ v72 ∧ v72 ≤ 94 := by omega
      refine w_t (np := 112) (l2 := [some (eR a0), some (eI (a1)), some (eJ (a2)), none, some (eI (a4)), some (eI (a5)), some (eJ (v5)), none, some (eJ (v20)), none, none]) (s2 := [eI (v72), eR v46]) rfl (b_iadd (by rw [← e73]; exact ev_w_in (by omega) (by omega))) rfl ?_
      refine w_t (np := 113) (l2 := [some (eR a0), some (eI (a1)), some (eJ (a2)), none, some (eI (a4)), some (eI (a5)), some (eJ (v5)), none, some (eJ (v20)), none, none]) (s2 := [eJ (a2), eI (v72), eR v46]) rfl rfl rfl ?_
      refine w_t (np := 115) (l2 := [some (eR a0), some (eI (a1)), some (eJ (a2)), none, some (eI (a4)), some (eI (a5)), some (eJ (v5)), none, some (eJ (v20)), none, none]) (s2 := [eJ (v5), eJ (a2), eI (v72), eR v46]) rfl rfl rfl ?_
      refine w_cu (np := 118) (as := [eJ (a2), eJ (v5)]) (l2 := [some (eJ (a2)), none, some (eJ (v5)), none]) (rest := [eI (v72), eR v46]) rfl rfl rfl (Nat.ble_eq.mp rfl) rfl rfl rfl rfl ?_
      refine s_75 I66 bA2 b6 ?_
      intro v75 b76
      show ex_q (dt_fg L ρ) rc (d + 4, (138, 118, [some (eR a0), some (eI (a1)), some (eJ (a2)), none, some (eI (a4)), some (eI (a5)), some (eJ (v5)), none, some (eJ (v20)), none, none], [eJ (v75), eI (v72), eR v46]), f :: F, m65)
      refine w_t (np := 120) (l2 := [some (eR a0), some (eI (a1)), some (eJ (a2)), none, some (eI (a4)), some (eI (a5)), some (eJ (v5)), none, some (eJ (v20)), none, none]) (s2 := [eJ (v20), eJ (v75), eI (v72), eR v46]) rfl rfl rfl ?_
      refine w_cu (np := 123) (as := [eJ (v75), eJ (v20)]) (l2 := [some (eJ (v75)), none, some (eJ (v20)), none]) (rest := [eI (v72), eR v46]) rfl rfl rfl (Nat.ble_eq.mp rfl) rfl rfl rfl rfl ?_
      refine s_75 I66 b76 b21 ?_
      intro v77 b78
      show ex_q (dt_fg L ρ) rc (d + 4, (138, 123, [some (eR a0), some (eI (a1)), some (eJ (a2)), none, some (eI (a4)), some (eI (a5)), some (eJ (v5)), none, some (eJ (v20)), none, none], [eJ (v77), eI (v72), eR v46]), f :: F, m65)
      refine j_sl (np := 124) rfl rfl I66 b48 (by decide) (n := 96) rfl rfl (lo := -9223372036854775808) (hi := 9223372036854775807) (fun _ => rfl) (by omega) (by omega) (by omega) ?_
      intro m79 I80 W81
      have F82 : Fr l_138 0 0 g μ m79 := F68.v W81 b48 rfl rfl
      refine w_t (np := 125) (l2 := [some (eR a0), some (eI (a1)), some (eJ (a2)), none, some (eI (a4)), some (eI (a5)), some (eJ (v5)), none, some (eJ (v20)), none, none]) (s2 := [eR a0]) rfl (s_an rfl (pos_g I80 gA0 (by decide))) rfl ?_
      refine w_gf (np := 128) (v := eR v46) rfl rfl (I80.kd gA0 (by decide) (n := 7) rfl) (by rw [(W81.addr (W67.addr (W55.addr e47 b48 gA0 (by decide)) b48 gA0 (by decide)) b48 gA0 (by decide))]; rfl) ?_
      refine w_t (np := 129) (l2 := [some (eR a0), some (eI (a1)), some (eJ (a2)), none, some (eI (a4)), some (eI (a5)), some (eJ (v5)), none, some (eJ (v20)), none, none]) (s2 := [eI (4), eR v46]) rfl rfl rfl ?_
      refine w_t (np := 130) (l2 := [some (eR a0), some (eI (a1)), some (eJ (a2)), none, some (eI (a4)), some (eI (a5)), some (eJ (v5)), none, some (eJ (v20)), none, none]) (s2 := [eR a0, eI (4), eR v46]) rfl (s_an rfl (pos_g I80 gA0 (by decide))) rfl ?_
      refine w_gf (np := 133) (v := eI (v1)) rfl rfl (I80.kd gA0 (by decide) (n := 7) rfl) (by rw [(W81.addr (W67.addr (W55.addr (W44.addr (W36.addr (W28.addr e2 b24 gA0 (by decide)) b32 gA0 (by decide)) b40 gA0 (by decide)) b48 gA0 (by decide)) b48 gA0 (by decide)) b48 gA0 (by decide))]; rfl) ?_
      obtain ⟨v83, e84⟩ : ∃ zz : Int, zz = (4) * (v1) := ⟨_, rfl⟩
      have b85 : 0 ≤ v83 ∧ v83 ≤ 92 := by omega
      refine w_t (np := 134) (l2 := [some (eR a0), some (eI (a1)), some (eJ (a2)), none, some (eI (a4)), some (eI (a5)), some (eJ (v5)), none, some (eJ (v20)), none, none]) (s2 := [eI (v83), eR v46]) rfl (b_imul (by rw [← e84]; exact ev_w_in (by omega) (by omega))) rfl ?_
      refine w_t (np := 135) (l2 := [some (eR a0), some (eI (a1)), some (eJ (a2)), none, some (eI (a4)), some (eI (a5)), some (eJ (v5)), none, some (eJ (v20)), none, none]) (s2 := [eI (3), eI (v83), eR v46]) rfl rfl rfl ?_
      obtain ⟨v86, e87⟩ : ∃ zz : Int, zz = (v83) + (3) := ⟨_, rfl⟩
      have b88 : 3 ≤ v86 ∧ v86 ≤ 95 := by omega
      refine w_t (np := 136) (l2 := [some (eR a0), some (eI (a1)), some (eJ (a2)), none, some (eI (a4)), some (eI (a5)), some (eJ (v5)), none, some (eJ (v20)), none, none]) (s2 := [eI (v86), eR v46]) rfl (b_iadd (by rw [← e87]; exact ev_w_in (by omega) (by omega))) rfl ?_
      refine w_t (np := 137) (l2 := [some (eR a0), some (eI (a1)), some (eJ (a2)), none, some (eI (a4)), some (eI (a5)), some (eJ (v5)), none, some (eJ (v20)), none, none]) (s2 := [eJ (a2), eI (v86), eR v46]) rfl rfl rfl ?_
      refine w_t (np := 139) (l2 := [some (eR a0), some (eI (a1)), some (eJ (a2)), none, some (eI (a4)), some (eI (a5)), some (eJ (v5)), none, some (eJ (v20)), none, none]) (s2 := [eJ (v20), eJ (a2), eI (v86), eR v46]) rfl rfl rfl ?_
      refine w_cu (np := 142) (as := [eJ (a2), eJ (v20)]) (l2 := [some (eJ (a2)), none, some (eJ (v20)), none]) (rest := [eI (v86), eR v46]) rfl rfl rfl (Nat.ble_eq.mp rfl) rfl rfl rfl rfl ?_
      refine s_75 I80 bA2 b21 ?_
      intro v89 b90
      show ex_q (dt_fg L ρ) rc (d + 4, (138, 142, [some (eR a0), some (eI (a1)), some (eJ (a2)), none, some (eI (a4)), some (eI (a5)), some (eJ (v5)), none, some (eJ (v20)), none, none], [eJ (v89), eI (v86), eR v46]), f :: F, m79)
      refine j_sl (np := 143) rfl rfl I80 b48 (by decide) (n := 96) rfl rfl (lo := -9223372036854775808) (hi := 9223372036854775807) (fun _ => rfl) (by omega) (by omega) (by omega) ?_
      intro m91 I92 W93
      have F94 : Fr l_138 0 0 g μ m91 := F82.v W93 b48 rfl rfl
      refine w_t (np := 144) (l2 := [some (eR a0), some (eI (a1)), some (eJ (a2)), none, some (eI (a4)), some (eI (a5)), some (eJ (v5)), none, some (eJ (v20)), none, none]) (s2 := [eI (0)]) rfl rfl rfl ?_
      refine w_t (np := 146) (l2 := [some (eR a0), some (eI (a1)), some (eJ (a2)), none, some (eI (a4)), some (eI (a5)), some (eJ (v5)), none, some (eJ (v20)), none, some (eI (0))]) (s2 := []) rfl rfl rfl ?_
      have hL146 : ∀ (n95 : Nat) (m99 : eM) (i97 : Int), SI g m99 → Fr l_138 0 0 g μ m99 → (0 ≤ i97 ∧ i97 ≤ 24) → m99.1 a0 5 = v1 → m99.1 a0 0 = ((v22 : Nat) : Int) → m99.1 a0 1 = ((v30 : Nat) : Int) → m99.1 a0 2 = ((v38 : Nat) : Int) → m99.1 a0 3 = ((v46 : Nat) : Int) → n95 = (24 - i97).toNat → ex_q (dt_fg L ρ) rc (d + 4, (138, 146, [some (eR a0), some (eI (a1)), some (eJ (a2)), none, some (eI (a4)), some (eI (a5)), some (eJ (v5)), none, some (eJ (v20)), none, some (eI (i97))], []), f :: F, m99) := by
        intro n95
        induction n95 using Nat.strongRecOn with
        | _ n95 ih96 =>
        intro m99 i97 I100 F101 b98 k102 k103 k104 k105 k106 hn107
        refine w_t (np := 148) (l2 := [some (eR a0), some (eI (a1)), some (eJ (a2)), none, some (eI (a4)), some (eI (a5)), some (eJ (v5)), none, some (eJ (v20)), none, some (eI (i97))]) (s2 := [eI (i97)]) rfl rfl rfl ?_
        refine w_t (np := 149) (l2 := [some (eR a0), some (eI (a1)), some (eJ (a2)), none, some (eI (a4)), some (eI (a5)), some (eJ (v5)), none, some (eJ (v20)), none, some (eI (i97))]) (s2 := [eR a0, eI (i97)]) rfl (s_an rfl (pos_g I100 gA0 (by decide))) rfl ?_
        refine w_gf (np := 152) (v := eI (v1)) rfl rfl (I100.kd gA0 (by decide) (n := 7) rfl) (by rw [k102]; rfl) ?_
        refine b_cge (t1 := 177) (t2 := 155) rfl rfl rfl (ev_w_in (by omega) (by omega)) (ev_w_in (by omega) (by omega)) (fun g108 => ?_) (fun g108 => ?_)
        · refine w_t (np := 178) (l2 := [some (eR a0), some (eI (a1)), some (eJ (a2)), none, some (eI (a4)), some (eI (a5)), some (eJ (v5)), none, some (eJ (v20)), none, some (eI (i97))]) (s2 := [eI (0)]) rfl rfl rfl ?_
          refine w_t (np := 180) (l2 := [some (eR a0), some (eI (a1)), some (eJ (a2)), none, some (eI (a4)), some (eI (a5)), some (eJ (v5)), none, some (eJ (v20)), none, some (eI (0))]) (s2 := []) rfl rfl rfl ?_
          have hL180 : ∀ (n109 : Nat) (m113 : eM) (i111 : Int), SI g m113 → Fr l_138 0 0 g μ m113 → (0 ≤ i111 ∧ i111 ≤ 24) → m113.1 a0 5 = v1 → m113.1 a0 0 = ((v22 : Nat) : Int) → m113.1 a0 1 = ((v30 : Nat) : Int) → m113.1 a0 2 = ((v38 : Nat) : Int) → m113.1 a0 3 = ((v46 : Nat) : Int) → n109 = (24 - i111).toNat → ex_q (dt_fg L ρ) rc (d + 4, (138, 180, [some (eR a0), some (eI (a1)), some (eJ (a2)), none, some (eI (a4)), some (eI (a5)), some (eJ (v5)), none, some (eJ (v20)), none, some (eI (i111))], []), f :: F, m113) := by
            intro n109
            induction n109 using Nat.strongRecOn with
            | _ n109 ih110 =>
            intro m113 i111 I114 F115 b112 k116 k117 k118 k119 k120 hn121
            refine w_t (np := 182) (l2 := [some (eR a0), some (eI (a1)), some (eJ (a2)), none, some (eI (a4)), some (eI (a5)), some (eJ (v5)), none, some (eJ (v20)), none, some (eI (i111))]) (s2 := [eI (i111)]) rfl rfl rfl ?_
            refine w_t (np := 183) (l2 := [some (eR a0), some (eI (a1)), some (eJ (a2)), none, some (eI (a4)), some (eI (a5)), some (eJ (v5)), none, some (eJ (v20)), none, some (eI (i111))]) (s2 := [eR a0, eI (i111)]) rfl (s_an rfl (pos_g I114 gA0 (by decide))) rfl ?_
            refine w_gf (np := 186) (v := eI (v1)) rfl rfl (I114.kd gA0 (by decide) (n := 7) rfl) (by rw [k116]; rfl) ?_
            refine b_cge (t1 := 211) (t2 := 189) rfl rfl rfl (ev_w_in (by omega) (by omega)) (ev_w_in (by omega) (by omega)) (fun g122 => ?_) (fun g122 => ?_)
            · refine w_t (np := 212) (l2 := [some (eR a0), some (eI (a1)), some (eJ (a2)), none, some (eI (a4)), some (eI (a5)), some (eJ (v5)), none, some (eJ (v20)), none, some (eI (i111))]) (s2 := [eR a0]) rfl (s_an rfl (pos_g I114 gA0 (by decide))) rfl ?_
              refine w_t (np := 213) (l2 := [some (eR a0), some (eI (a1)), some (eJ (a2)), none, some (eI (a4)), some (eI (a5)), some (eJ (v5)), none, some (eJ (v20)), none, some (eI (i111))]) (s2 := [eR a0, eR a0]) rfl rfl rfl ?_
              refine w_gf (np := 216) (v := eI (v1)) rfl rfl (I114.kd gA0 (by decide) (n := 7) rfl) (by rw [k116]; rfl) ?_
              refine w_t (np := 217) (l2 := [some (eR a0), some (eI (a1)), some (eJ (a2)), none, some (eI (a4)), some (eI (a5)), some (eJ (v5)), none, some (eJ (v20)), none, some (eI (i111))]) (s2 := [eI (1), eI (v1), eR a0]) rfl rfl rfl ?_
              obtain ⟨v123, e124⟩ : ∃ zz : Int, zz = (v1) + (1) := ⟨_, rfl⟩
              have b125 : 1 ≤ v123 ∧ v123 ≤ 24 := by omega
              refine w_t (np := 218) (l2 := [some (eR a0), some (eI (a1)), some (eJ (a2)), none, some (eI (a4)), some (eI (a5)), some (eJ (v5)), none, some (eJ (v20)), none, some (eI (i111))]) (s2 := [eI (v123), eR a0]) rfl (b_iadd (by rw [← e124]; exact ev_w_in (by omega) (by omega))) rfl ?_
              refine j_pf (np := 221) (w := v123) rfl rfl I114 gA0 (by decide) (n := 7) rfl rfl (hO_i (lo := 0) (hi := 24) rfl (by omega)) ?_
              intro m126 I127 W128
              have F129 : Fr l_138 0 0 g μ m126 := F115.w W128 gA0 rfl
              refine w_t (np := 222) (l2 := [some (eR a0), some (eI (a1)), some (eJ (a2)), none, some (eI (a4)), some (eI (a5)), some (eJ (v5)), none, some (eJ (v20)), none, some (eI (i111))]) (s2 := [eR a0]) rfl (s_an rfl (pos_g I127 gA0 (by decide))) rfl ?_
              refine w_t (np := 223) (l2 := [some (eR a0), some (eI (a1)), some (eJ (a2)), none, some (eI (a4)), some (eI (a5)), some (eJ (v5)), none, some (eJ (v20)), none, some (eI (i111))]) (s2 := [eR a0, eR a0]) rfl (s_an rfl (pos_g I127 gA0 (by decide))) rfl ?_
              refine w_gf (np := 226) (v := eI (v123)) rfl rfl (I127.kd gA0 (by decide) (n := 7) rfl) (by rw [W128.at]; rfl) ?_
              refine w_t (np := 227) (l2 := [some (eR a0), some (eI (a1)), some (eJ (a2)), none, some (eI (a4)), some (eI (a5)), some (eJ (v5)), none, some (eJ (v20)), none, some (eI (i111))]) (s2 := [eI (1), eI (v123), eR a0]) rfl rfl rfl ?_
              obtain ⟨v130, e131⟩ : ∃ zz : Int, zz = (v123) - (1) := ⟨_, rfl⟩
              have b132 : 0 ≤ v130 ∧ v130 ≤ 23 := by omega
              refine w_t (np := 228) (l2 := [some (eR a0), some (eI (a1)), some (eJ (a2)), none, some (eI (a4)), some (eI (a5)), some (eJ (v5)), none, some (eJ (v20)), none, some (eI (i111))]) (s2 := [eI (v130), eR a0]) rfl (b_isub (by rw [← e131]; exact ev_w_in (by omega) (by omega))) rfl ?_
              refine w_cw (np := 231) (as := [eI (v130)]) (l2 := [some (eR a0), some (eI (v130)), none, none, none]) (rest := []) rfl rfl rfl (Nat.ble_eq.mp rfl) rfl rfl rfl (I127.kd gA0 (by decide) (n := 7) rfl) rfl ?_
              refine s_137 (a1 := v130) I127 gA0 (by omega) ?_
              intro m133 I134 F135
              have F136 : Fr l_138 0 0 g μ m133 := F129.t F135 rfl
              show ex_q (dt_fg L ρ) rc (d + 4, (138, 231, [some (eR a0), some (eI (a1)), some (eJ (a2)), none, some (eI (a4)), some (eI (a5)), some (eJ (v5)), none, some (eJ (v20)), none, some (eI (i111))], []), f :: F, m133)
              refine w_t (np := 232) (l2 := [some (eR a0), some (eI (a1)), some (eJ (a2)), none, some (eI (a4)), some (eI (a5)), some (eJ (v5)), none, some (eJ (v20)), none, some (eI (i111))]) (s2 := [eI (0)]) rfl rfl rfl ?_
              exact b_ri rfl rfl (K m133 (0) I134 F136 (by decide))
            · have b123 : 0 ≤ i111 ∧ i111 ≤ 22 := by omega
              have b124 : 1 ≤ v1 ∧ v1 ≤ 23 := by omega
              refine w_t (np := 190) (l2 := [some (eR a0), some (eI (a1)), some (eJ (a2)), none, some (eI (a4)), some (eI (a5)), some (eJ (v5)), none, some (eJ (v20)), none, some (eI (i111))]) (s2 := [eR a0]) rfl (s_an rfl (pos_g I114 gA0 (by decide))) rfl ?_
              refine w_t (np := 192) (l2 := [some (eR a0), some (eI (a1)), some (eJ (a2)), none, some (eI (a4)), some (eI (a5)), some (eJ (v5)), none, some (eJ (v20)), none, some (eI (i111))]) (s2 := [eI (i111), eR a0]) rfl rfl rfl ?_
              refine w_t (np := 193) (l2 := [some (eR a0), some (eI (a1)), some (eJ (a2)), none, some (eI (a4)), some (eI (a5)), some (eJ (v5)), none, some (eJ (v20)), none, some (eI (i111))]) (s2 := [eR a0, eI (i111), eR a0]) rfl (s_an rfl (pos_g I114 gA0 (by decide))) rfl ?_
              refine w_gf (np := 196) (v := eI (v1)) rfl rfl (I114.kd gA0 (by decide) (n := 7) rfl) (by rw [k116]; rfl) ?_
              refine w_cw (np := 199) (as := [eI (i111), eI (v1)]) (l2 := [some (eR a0), some (eI (i111)), some (eI (v1)), none, none]) (rest := []) rfl rfl rfl (Nat.ble_eq.mp rfl) rfl rfl rfl (I114.kd gA0 (by decide) (n := 7) rfl) rfl ?_
              refine s_144 (a1 := i111) (a2 := v1) I114 gA0 (by omega) (by omega) ?_
              intro v123 b124
              show ex_q (dt_fg L ρ) rc (d + 4, (138, 199, [some (eR a0), some (eI (a1)), some (eJ (a2)), none, some (eI (a4)), some (eI (a5)), some (eJ (v5)), none, some (eJ (v20)), none, some (eI (i111))], [eI (v123)]), f :: F, m113)
              refine b_ieq (t1 := 205) (t2 := 202) rfl rfl rfl (ev_w_in (by omega) (by omega)) (fun g125 => ?_) (fun g125 => ?_)
              · have b126 : 0 ≤ v123 ∧ v123 ≤ 0 := by omega
                obtain ⟨v126, e127⟩ : ∃ zz : Int, zz = (i111) + (1) := ⟨_, rfl⟩
                have b128 : 1 ≤ v126 ∧ v126 ≤ 23 := by omega
                refine w_t (np := 208) (l2 := [some (eR a0), some (eI (a1)), some (eJ (a2)), none, some (eI (a4)), some (eI (a5)), some (eJ (v5)), none, some (eJ (v20)), none, some (eI (v126))]) (s2 := []) rfl (b_iinc rfl (by rw [← e127]; exact ev_w_in (by omega) (by omega)) rfl) rfl ?_
                refine w_go (t1 := 180) rfl rfl ?_
                exact ih110 (24 - (v126)).toNat (by omega) m113 (v126) I114 F115 (by omega) k116 k117 k118 k119 k120    rfl
              · have b126 : 1 ≤ v123 ∧ v123 ≤ 1 := by omega
                refine w_t (np := 204) (l2 := [some (eR a0), some (eI (a1)), some (eJ (a2)), none, some (eI (a4)), some (eI (a5)), some (eJ (v5)), none, some (eJ (v20)), none, some (eI (i111))]) (s2 := [eI (7)]) rfl rfl rfl ?_
                exact b_ri rfl rfl (K m113 (7) I114 F115 (by decide))
          exact hL180 _ m99 (0) I100 F101 (by decide) k102 k103 k104 k105 k106    rfl
        · have b109 : 0 ≤ i97 ∧ i97 ≤ 22 := by omega
          have b110 : 1 ≤ v1 ∧ v1 ≤ 23 := by omega
          refine w_t (np := 156) (l2 := [some (eR a0), some (eI (a1)), some (eJ (a2)), none, some (eI (a4)), some (eI (a5)), some (eJ (v5)), none, some (eJ (v20)), none, some (eI (i97))]) (s2 := [eR a0]) rfl (s_an rfl (pos_g I100 gA0 (by decide))) rfl ?_
          refine w_t (np := 158) (l2 := [some (eR a0), some (eI (a1)), some (eJ (a2)), none, some (eI (a4)), some (eI (a5)), some (eJ (v5)), none, some (eJ (v20)), none, some (eI (i97))]) (s2 := [eI (i97), eR a0]) rfl rfl rfl ?_
          refine w_t (np := 159) (l2 := [some (eR a0), some (eI (a1)), some (eJ (a2)), none, some (eI (a4)), some (eI (a5)), some (eJ (v5)), none, some (eJ (v20)), none, some (eI (i97))]) (s2 := [eR a0, eI (i97), eR a0]) rfl (s_an rfl (pos_g I100 gA0 (by decide))) rfl ?_
          refine w_gf (np := 162) (v := eI (v1)) rfl rfl (I100.kd gA0 (by decide) (n := 7) rfl) (by rw [k102]; rfl) ?_
          refine w_cw (np := 165) (as := [eI (i97), eI (v1)]) (l2 := [some (eR a0), some (eI (i97)), some (eI (v1))]) (rest := []) rfl rfl rfl (Nat.ble_eq.mp rfl) rfl rfl rfl (I100.kd gA0 (by decide) (n := 7) rfl) rfl ?_
          refine s_141 (a1 := i97) (a2 := v1) I100 gA0 (by omega) (by omega) ?_
          intro v109 b110
          show ex_q (dt_fg L ρ) rc (d + 4, (138, 165, [some (eR a0), some (eI (a1)), some (eJ (a2)), none, some (eI (a4)), some (eI (a5)), some (eJ (v5)), none, some (eJ (v20)), none, some (eI (i97))], [eI (v109)]), f :: F, m99)
          refine b_ieq (t1 := 171) (t2 := 168) rfl rfl rfl (ev_w_in (by omega) (by omega)) (fun g111 => ?_) (fun g111 => ?_)
          · have b112 : 0 ≤ v109 ∧ v109 ≤ 0 := by omega
            obtain ⟨v112, e113⟩ : ∃ zz : Int, zz = (i97) + (1) := ⟨_, rfl⟩
            have b114 : 1 ≤ v112 ∧ v112 ≤ 23 := by omega
            refine w_t (np := 174) (l2 := [some (eR a0), some (eI (a1)), some (eJ (a2)), none, some (eI (a4)), some (eI (a5)), some (eJ (v5)), none, some (eJ (v20)), none, some (eI (v112))]) (s2 := []) rfl (b_iinc rfl (by rw [← e113]; exact ev_w_in (by omega) (by omega)) rfl) rfl ?_
            refine w_go (t1 := 146) rfl rfl ?_
            exact ih96 (24 - (v112)).toNat (by omega) m99 (v112) I100 F101 (by omega) k102 k103 k104 k105 k106    rfl
          · have b112 : 1 ≤ v109 ∧ v109 ≤ 1 := by omega
            refine w_t (np := 170) (l2 := [some (eR a0), some (eI (a1)), some (eJ (a2)), none, some (eI (a4)), some (eI (a5)), some (eJ (v5)), none, some (eJ (v20)), none, some (eI (i97))]) (s2 := [eI (6)]) rfl rfl rfl ?_
            exact b_ri rfl rfl (K m99 (6) I100 F101 (by decide))
      exact hL146 _ m91 (0) I92 F94 (by decide) (W93.addr (W81.addr (W67.addr (W55.addr (W44.addr (W36.addr (W28.addr e2 b24 gA0 (by decide)) b32 gA0 (by decide)) b40 gA0 (by decide)) b48 gA0 (by decide)) b48 gA0 (by decide)) b48 gA0 (by decide)) b48 gA0 (by decide)) (W93.addr (W81.addr (W67.addr (W55.addr (W44.addr (W36.addr (W28.addr e23 b24 gA0 (by decide)) b32 gA0 (by decide)) b40 gA0 (by decide)) b48 gA0 (by decide)) b48 gA0 (by decide)) b48 gA0 (by decide)) b48 gA0 (by decide)) (W93.addr (W81.addr (W67.addr (W55.addr (W44.addr (W36.addr e31 b32 gA0 (by decide)) b40 gA0 (by decide)) b48 gA0 (by decide)) b48 gA0 (by decide)) b48 gA0 (by decide)) b48 gA0 (by decide)) (W93.addr (W81.addr (W67.addr (W55.addr (W44.addr e39 b40 gA0 (by decide)) b48 gA0 (by decide)) b48 gA0 (by decide)) b48 gA0 (by decide)) b48 gA0 (by decide)) (W93.addr (W81.addr (W67.addr (W55.addr e47 b48 gA0 (by decide)) b48 gA0 (by decide)) b48 gA0 (by decide)) b48 gA0 (by decide))    rfl
    · have b8 : 0 ≤ a1 ∧ a1 ≤ 0 := by omega
      refine w_t (np := 5) (l2 := [some (eI (a1))]) (s2 := [eI (1)]) rfl rfl rfl ?_
      refine w_go (t1 := 9) rfl rfl ?_
      refine b_ri rfl rfl ?_
      show ex_q (dt_fg L ρ) rc (d + 4, (138, 24, [some (eR a0), some (eI (a1)), some (eJ (a2)), none, some (eI (a4)), some (eI (a5)), some (eJ (v5)), none, none, none, none], [eI (1), eI (a4)]), f :: F, μ)
      refine w_t (np := 25) (l2 := [some (eR a0), some (eI (a1)), some (eJ (a2)), none, some (eI (a4)), some (eI (a5)), some (eJ (v5)), none, none, none, none]) (s2 := [eI (1), eI (1), eI (a4)]) rfl rfl rfl ?_
      refine w_t (np := 26) (l2 := [some (eR a0), some (eI (a1)), some (eJ (a2)), none, some (eI (a4)), some (eI (a5)), some (eJ (v5)), none, none, none, none]) (s2 := [eI (2), eI (1), eI (1), eI (a4)]) rfl rfl rfl ?_
      refine w_t (np := 28) (l2 := [some (eR a0), some (eI (a1)), some (eJ (a2)), none, some (eI (a4)), some (eI (a5)), some (eJ (v5)), none, none, none, none]) (s2 := [eI (a5), eI (2), eI (1), eI (1), eI (a4)]) rfl rfl rfl ?_
      obtain ⟨v8, e9⟩ : ∃ zz : Int, zz = (2) * (a5) := ⟨_, rfl⟩
      have b10 : 0 ≤ v8 ∧ v8 ≤ 2 := by omega
      refine w_t (np := 29) (l2 := [some (eR a0), some (eI (a1)), some (eJ (a2)), none, some (eI (a4)), some (eI (a5)), some (eJ (v5)), none, none, none, none]) (s2 := [eI (v8), eI (1), eI (1), eI (a4)]) rfl (b_imul (by rw [← e9]; exact ev_w_in (by omega) (by omega))) rfl ?_
      obtain ⟨v11, e12⟩ : ∃ zz : Int, zz = (1) - (v8) := ⟨_, rfl⟩
      have b13 : -1 ≤ v11 ∧ v11 ≤ 1 := by omega
      refine w_t (np := 30) (l2 := [some (eR a0), some (eI (a1)), some (eJ (a2)), none, some (eI (a4)), some (eI (a5)), some (eJ (v5)), none, none, none, none]) (s2 := [eI (v11), eI (1), eI (a4)]) rfl (b_isub (by rw [← e12]; exact ev_w_in (by omega) (by omega))) rfl ?_
      obtain ⟨v14, e15⟩ : ∃ zz : Int, zz = (1) * (v11) := ⟨_, rfl⟩
      have b16 : -1 ≤ v14 ∧ v14 ≤ 1 := by omega
      refine w_t (np := 31) (l2 := [some (eR a0), some (eI (a1)), some (eJ (a2)), none, some (eI (a4)), some (eI (a5)), some (eJ (v5)), none, none, none, none]) (s2 := [eI (v14), eI (a4)]) rfl (b_imul (by rw [← e15]; exact ev_w_in (by omega) (by omega))) rfl ?_
      obtain ⟨v17, e18⟩ : ∃ zz : Int, zz = (a4) + (v14) := ⟨_, rfl⟩
      have b19 : -1 ≤ v17 ∧ v17 ≤ 10 := by omega
      refine w_t (np := 32) (l2 := [some (eR a0), some (eI (a1)), some (eJ (a2)), none, some (eI (a4)), some (eI (a5)), some (eJ (v5)), none, none, none, none]) (s2 := [eI (v17)]) rfl (b_iadd (by rw [← e18]; exact ev_w_in (by omega) (by omega))) rfl ?_
      refine w_cu (np := 35) (as := [eI (v17)]) (l2 := [some (eI (v17))]) (rest := []) rfl rfl rfl (Nat.ble_eq.mp rfl) rfl rfl rfl rfl ?_
      refine s_74 (a0 := v17) hI (by omega) ?_
      intro v20 b21
      show ex_q (dt_fg L ρ) rc (d + 4, (138, 35, [some (eR a0), some (eI (a1)), some (eJ (a2)), none, some (eI (a4)), some (eI (a5)), some (eJ (v5)), none, none, none, none], [eJ (v20)]), f :: F, μ)
      refine w_t (np := 37) (l2 := [some (eR a0), some (eI (a1)), some (eJ (a2)), none, some (eI (a4)), some (eI (a5)), some (eJ (v5)), none, some (eJ (v20)), none, none]) (s2 := []) rfl rfl rfl ?_
      refine w_t (np := 38) (l2 := [some (eR a0), some (eI (a1)), some (eJ (a2)), none, some (eI (a4)), some (eI (a5)), some (eJ (v5)), none, some (eJ (v20)), none, none]) (s2 := [eR a0]) rfl (s_an rfl (pos_g hI gA0 (by decide))) rfl ?_
      refine j_gr (np := 41) rfl rfl hI gA0 (by decide) (n := 7) rfl rfl rfl ?_
      intro v22 e23 b24 z25
      have b24 : g v22 = 30 := Nat.eq_of_beq_eq_true b24
      refine w_t (np := 42) (l2 := [some (eR a0), some (eI (a1)), some (eJ (a2)), none, some (eI (a4)), some (eI (a5)), some (eJ (v5)), none, some (eJ (v20)), none, none]) (s2 := [eR a0, eR v22]) rfl (s_an rfl (pos_g hI gA0 (by decide))) rfl ?_
      refine w_gf (np := 45) (v := eI (v1)) rfl rfl (hI.kd gA0 (by decide) (n := 7) rfl) (by rw [e2]; rfl) ?_
      refine w_t (np := 46) (l2 := [some (eR a0), some (eI (a1)), some (eJ (a2)), none, some (eI (a4)), some (eI (a5)), some (eJ (v5)), none, some (eJ (v20)), none, none]) (s2 := [eI (a1), eI (v1), eR v22]) rfl rfl rfl ?_
      refine j_as (np := 47) rfl rfl hI b24 (by decide) (n := 24) rfl rfl (lo := 0) (hi := 1) (fun _ => rfl) (by omega) (by omega) (by omega) ?_
      intro m26 I27 W28
      have F29 : Fr l_138 0 0 g μ m26 := F0.v W28 b24 rfl rfl
      refine w_t (np := 48) (l2 := [some (eR a0), some (eI (a1)), some (eJ (a2)), none, some (eI (a4)), some (eI (a5)), some (eJ (v5)), none, some (eJ (v20)), none, none]) (s2 := [eR a0]) rfl (s_an rfl (pos_g I27 gA0 (by decide))) rfl ?_
      refine j_gr (np := 51) rfl rfl I27 gA0 (by decide) (n := 7) rfl rfl rfl ?_
      intro v30 e31 b32 z33
      have b32 : g v30 = 31 := Nat.eq_of_beq_eq_true b32
      refine w_t (np := 52) (l2 := [some (eR a0), some (eI (a1)), some (eJ (a2)), none, some (eI (a4)), some (eI (a5)), some (eJ (v5)), none, some (eJ (v20)), none, none]) (s2 := [eR a0, eR v30]) rfl (s_an rfl (pos_g I27 gA0 (by decide))) rfl ?_
      refine w_gf (np := 55) (v := eI (v1)) rfl rfl (I27.kd gA0 (by decide) (n := 7) rfl) (by rw [(W28.addr e2 b24 gA0 (by decide))]; rfl) ?_
      refine w_t (np := 57) (l2 := [some (eR a0), some (eI (a1)), some (eJ (a2)), none, some (eI (a4)), some (eI (a5)), some (eJ (v5)), none, some (eJ (v20)), none, none]) (s2 := [eI (a4), eI (v1), eR v30]) rfl rfl rfl ?_
      refine j_as (np := 58) rfl rfl I27 b32 (by decide) (n := 24) rfl rfl (lo := 0) (hi := 9) (fun _ => rfl) (by omega) (by omega) (by omega) ?_
      intro m34 I35 W36
      have F37 : Fr l_138 0 0 g μ m34 := F29.v W36 b32 rfl rfl
      refine w_t (np := 59) (l2 := [some (eR a0), some (eI (a1)), some (eJ (a2)), none, some (eI (a4)), some (eI (a5)), some (eJ (v5)), none, some (eJ (v20)), none, none]) (s2 := [eR a0]) rfl (s_an rfl (pos_g I35 gA0 (by decide))) rfl ?_
      refine j_gr (np := 62) rfl rfl I35 gA0 (by decide) (n := 7) rfl rfl rfl ?_
      intro v38 e39 b40 z41
      have b40 : g v38 = 32 := Nat.eq_of_beq_eq_true b40
      refine w_t (np := 63) (l2 := [some (eR a0), some (eI (a1)), some (eJ (a2)), none, some (eI (a4)), some (eI (a5)), some (eJ (v5)), none, some (eJ (v20)), none, none]) (s2 := [eR a0, eR v38]) rfl (s_an rfl (pos_g I35 gA0 (by decide))) rfl ?_
      refine w_gf (np := 66) (v := eI (v1)) rfl rfl (I35.kd gA0 (by decide) (n := 7) rfl) (by rw [(W36.addr (W28.addr e2 b24 gA0 (by decide)) b32 gA0 (by decide))]; rfl) ?_
      refine w_t (np := 68) (l2 := [some (eR a0), some (eI (a1)), some (eJ (a2)), none, some (eI (a4)), some (eI (a5)), some (eJ (v5)), none, some (eJ (v20)), none, none]) (s2 := [eI (a5), eI (v1), eR v38]) rfl rfl rfl ?_
      refine j_as (np := 69) rfl rfl I35 b40 (by decide) (n := 24) rfl rfl (lo := 0) (hi := 1) (fun _ => rfl) (by omega) (by omega) (by omega) ?_
      intro m42 I43 W44
      have F45 : Fr l_138 0 0 g μ m42 := F37.v W44 b40 rfl rfl
      refine w_t (np := 70) (l2 := [some (eR a0), some (eI (a1)), some (eJ (a2)), none, some (eI (a4)), some (eI (a5)), some (eJ (v5)), none, some (eJ (v20)), none, none]) (s2 := [eR a0]) rfl (s_an rfl (pos_g I43 gA0 (by decide))) rfl ?_
      refine j_gr (np := 73) rfl rfl I43 gA0 (by decide) (n := 7) rfl rfl rfl ?_
      intro v46 e47 b48 z49
      have b48 : g v46 = 33 := Nat.eq_of_beq_eq_true b48
      refine w_t (np := 74) (l2 := [some (eR a0), some (eI (a1)), some (eJ (a2)), none, some (eI (a4)), some (eI (a5)), some (eJ (v5)), none, some (eJ (v20)), none, none]) (s2 := [eI (4), eR v46]) rfl rfl rfl ?_
      refine w_t (np := 75) (l2 := [some (eR a0), some (eI (a1)), some (eJ (a2)), none, some (eI (a4)), some (eI (a5)), some (eJ (v5)), none, some (eJ (v20)), none, none]) (s2 := [eR a0, eI (4), eR v46]) rfl (s_an rfl (pos_g I43 gA0 (by decide))) rfl ?_
      refine w_gf (np := 78) (v := eI (v1)) rfl rfl (I43.kd gA0 (by decide) (n := 7) rfl) (by rw [(W44.addr (W36.addr (W28.addr e2 b24 gA0 (by decide)) b32 gA0 (by decide)) b40 gA0 (by decide))]; rfl) ?_
      obtain ⟨v50, e51⟩ : ∃ zz : Int, zz = (4) * (v1) := ⟨_, rfl⟩
      have b52 : 0 ≤ v50 ∧ v50 ≤ 92 := by omega
      refine w_t (np := 79) (l2 := [some (eR a0), some (eI (a1)), some (eJ (a2)), none, some (eI (a4)), some (eI (a5)), some (eJ (v5)), none, some (eJ (v20)), none, none]) (s2 := [eI (v50), eR v46]) rfl (b_imul (by rw [← e51]; exact ev_w_in (by omega) (by omega))) rfl ?_
      refine w_t (np := 80) (l2 := [some (eR a0), some (eI (a1)), some (eJ (a2)), none, some (eI (a4)), some (eI (a5)), some (eJ (v5)), none, some (eJ (v20)), none, none]) (s2 := [eJ (a2), eI (v50), eR v46]) rfl rfl rfl ?_
      refine j_sl (np := 81) rfl rfl I43 b48 (by decide) (n := 96) rfl rfl (lo := -9223372036854775808) (hi := 9223372036854775807) (fun _ => rfl) (by omega) (by omega) (by omega) ?_
      intro m53 I54 W55
      have F56 : Fr l_138 0 0 g μ m53 := F45.v W55 b48 rfl rfl
      refine w_t (np := 82) (l2 := [some (eR a0), some (eI (a1)), some (eJ (a2)), none, some (eI (a4)), some (eI (a5)), some (eJ (v5)), none, some (eJ (v20)), none, none]) (s2 := [eR a0]) rfl (s_an rfl (pos_g I54 gA0 (by decide))) rfl ?_
      refine w_gf (np := 85) (v := eR v46) rfl rfl (I54.kd gA0 (by decide) (n := 7) rfl) (by rw [(W55.addr e47 b48 gA0 (by decide))]; rfl) ?_
      refine w_t (np := 86) (l2 := [some (eR a0), some (eI (a1)), some (eJ (a2)), none, some (eI (a4)), some (eI (a5)), some (eJ (v5)), none, some (eJ (v20)), none, none]) (s2 := [eI (4), eR v46]) rfl rfl rfl ?_
      refine w_t (np := 87) (l2 := [some (eR a0), some (eI (a1)), some (eJ (a2)), none, some (eI (a4)), some (eI (a5)), some (eJ (v5)), none, some (eJ (v20)), none, none]) (s2 := [eR a0, eI (4), eR v46]) rfl (s_an rfl (pos_g I54 gA0 (by decide))) rfl ?_
      refine w_gf (np := 90) (v := eI (v1)) rfl rfl (I54.kd gA0 (by decide) (n := 7) rfl) (by rw [(W55.addr (W44.addr (W36.addr (W28.addr e2 b24 gA0 (by decide)) b32 gA0 (by decide)) b40 gA0 (by decide)) b48 gA0 (by decide))]; rfl) ?_
      obtain ⟨v57, e58⟩ : ∃ zz : Int, zz = (4) * (v1) := ⟨_, rfl⟩
      have b59 : 0 ≤ v57 ∧ v57 ≤ 92 := by omega
      refine w_t (np := 91) (l2 := [some (eR a0), some (eI (a1)), some (eJ (a2)), none, some (eI (a4)), some (eI (a5)), some (eJ (v5)), none, some (eJ (v20)), none, none]) (s2 := [eI (v57), eR v46]) rfl (b_imul (by rw [← e58]; exact ev_w_in (by omega) (by omega))) rfl ?_
      refine w_t (np := 92) (l2 := [some (eR a0), some (eI (a1)), some (eJ (a2)), none, some (eI (a4)), some (eI (a5)), some (eJ (v5)), none, some (eJ (v20)), none, none]) (s2 := [eI (1), eI (v57), eR v46]) rfl rfl rfl ?_
      obtain ⟨v60, e61⟩ : ∃ zz : Int, zz = (v57) + (1) := ⟨_, rfl⟩
      have b62 : 1 ≤ v60 ∧ v60 ≤ 93 := by omega
      refine w_t (np := 93) (l2 := [some (eR a0), some (eI (a1)), some (eJ (a2)), none, some (eI (a4)), some (eI (a5)), some (eJ (v5)), none, some (eJ (v20)), none, none]) (s2 := [eI (v60), eR v46]) rfl (b_iadd (by rw [← e61]; exact ev_w_in (by omega) (by omega))) rfl ?_
      refine w_t (np := 94) (l2 := [some (eR a0), some (eI (a1)), some (eJ (a2)), none, some (eI (a4)), some (eI (a5)), some (eJ (v5)), none, some (eJ (v20)), none, none]) (s2 := [eJ (a2), eI (v60), eR v46]) rfl rfl rfl ?_
      refine w_t (np := 96) (l2 := [some (eR a0), some (eI (a1)), some (eJ (a2)), none, some (eI (a4)), some (eI (a5)), some (eJ (v5)), none, some (eJ (v20)), none, none]) (s2 := [eJ (v5), eJ (a2), eI (v60), eR v46]) rfl rfl rfl ?_
      refine w_cu (np := 99) (as := [eJ (a2), eJ (v5)]) (l2 := [some (eJ (a2)), none, some (eJ (v5)), none]) (rest := [eI (v60), eR v46]) rfl rfl rfl (Nat.ble_eq.mp rfl) rfl rfl rfl rfl ?_
      refine s_75 I54 bA2 b6 ?_
      intro v63 b64
      show ex_q (dt_fg L ρ) rc (d + 4, (138, 99, [some (eR a0), some (eI (a1)), some (eJ (a2)), none, some (eI (a4)), some (eI (a5)), some (eJ (v5)), none, some (eJ (v20)), none, none], [eJ (v63), eI (v60), eR v46]), f :: F, m53)
      refine j_sl (np := 100) rfl rfl I54 b48 (by decide) (n := 96) rfl rfl (lo := -9223372036854775808) (hi := 9223372036854775807) (fun _ => rfl) (by omega) (by omega) (by omega) ?_
      intro m65 I66 W67
      have F68 : Fr l_138 0 0 g μ m65 := F56.v W67 b48 rfl rfl
      refine w_t (np := 101) (l2 := [some (eR a0), some (eI (a1)), some (eJ (a2)), none, some (eI (a4)), some (eI (a5)), some (eJ (v5)), none, some (eJ (v20)), none, none]) (s2 := [eR a0]) rfl (s_an rfl (pos_g I66 gA0 (by decide))) rfl ?_
      refine w_gf (np := 104) (v := eR v46) rfl rfl (I66.kd gA0 (by decide) (n := 7) rfl) (by rw [(W67.addr (W55.addr e47 b48 gA0 (by decide)) b48 gA0 (by decide))]; rfl) ?_
      refine w_t (np := 105) (l2 := [some (eR a0), some (eI (a1)), some (eJ (a2)), none, some (eI (a4)), some (eI (a5)), some (eJ (v5)), none, some (eJ (v20)), none, none]) (s2 := [eI (4), eR v46]) rfl rfl rfl ?_
      refine w_t (np := 106) (l2 := [some (eR a0), some (eI (a1)), some (eJ (a2)), none, some (eI (a4)), some (eI (a5)), some (eJ (v5)), none, some (eJ (v20)), none, none]) (s2 := [eR a0, eI (4), eR v46]) rfl (s_an rfl (pos_g I66 gA0 (by decide))) rfl ?_
      refine w_gf (np := 109) (v := eI (v1)) rfl rfl (I66.kd gA0 (by decide) (n := 7) rfl) (by rw [(W67.addr (W55.addr (W44.addr (W36.addr (W28.addr e2 b24 gA0 (by decide)) b32 gA0 (by decide)) b40 gA0 (by decide)) b48 gA0 (by decide)) b48 gA0 (by decide))]; rfl) ?_
      obtain ⟨v69, e70⟩ : ∃ zz : Int, zz = (4) * (v1) := ⟨_, rfl⟩
      have b71 : 0 ≤ v69 ∧ v69 ≤ 92 := by omega
      refine w_t (np := 110) (l2 := [some (eR a0), some (eI (a1)), some (eJ (a2)), none, some (eI (a4)), some (eI (a5)), some (eJ (v5)), none, some (eJ (v20)), none, none]) (s2 := [eI (v69), eR v46]) rfl (b_imul (by rw [← e70]; exact ev_w_in (by omega) (by omega))) rfl ?_
      refine w_t (np := 111) (l2 := [some (eR a0), some (eI (a1)), some (eJ (a2)), none, some (eI (a4)), some (eI (a5)), some (eJ (v5)), none, some (eJ (v20)), none, none]) (s2 := [eI (2), eI (v69), eR v46]) rfl rfl rfl ?_
      obtain ⟨v72, e73⟩ : ∃ zz : Int, zz = (v69) + (2) := ⟨_, rfl⟩
      have b74 : 2 ≤ v72 ∧ v72 ≤ 94 := by omega
      refine w_t (np := 112) (l2 := [some (eR a0), some (eI (a1)), some (eJ (a2)), none, some (eI (a4)), some (eI (a5)), some (eJ (v5)), none, some (eJ (v20)), none, none]) (s2 := [eI (v72), eR v46]) rfl (b_iadd (by rw [← e73]; exact ev_w_in (by omega) (by omega))) rfl ?_
      refine w_t (np := 113) (l2 := [some (eR a0), some (eI (a1)), some (eJ (a2)), none, some (eI (a4)), some (eI (a5)), some (eJ (v5)), none, some (eJ (v20)), none, none]) (s2 := [eJ (a2), eI (v72), eR v46]) rfl rfl rfl ?_
      refine w_t (np := 115) (l2 := [some (eR a0), some (eI (a1)), some (eJ (a2)), none, some (eI (a4)), some (eI (a5)), some (eJ (v5)), none, some (eJ (v20)), none, none]) (s2 := [eJ (v5), eJ (a2), eI (v72), eR v46]) rfl rfl rfl ?_
      refine w_cu (np := 118) (as := [eJ (a2), eJ (v5)]) (l2 := [some (eJ (a2)), none, some (eJ (v5)), none]) (rest := [eI (v72), eR v46]) rfl rfl rfl (Nat.ble_eq.mp rfl) rfl rfl rfl rfl ?_
      refine s_75 I66 bA2 b6 ?_
      intro v75 b76
      show ex_q (dt_fg L ρ) rc (d + 4, (138, 118, [some (eR a0), some (eI (a1)), some (eJ (a2)), none, some (eI (a4)), some (eI (a5)), some (eJ (v5)), none, some (eJ (v20)), none, none], [eJ (v75), eI (v72), eR v46]), f :: F, m65)
      refine w_t (np := 120) (l2 := [some (eR a0), some (eI (a1)), some (eJ (a2)), none, some (eI (a4)), some (eI (a5)), some (eJ (v5)), none, some (eJ (v20)), none, none]) (s2 := [eJ (v20), eJ (v75), eI (v72), eR v46]) rfl rfl rfl ?_
      refine w_cu (np := 123) (as := [eJ (v75), eJ (v20)]) (l2 := [some (eJ (v75)), none, some (eJ (v20)), none]) (rest := [eI (v72), eR v46]) rfl rfl rfl (Nat.ble_eq.mp rfl) rfl rfl rfl rfl ?_
      refine s_75 I66 b76 b21 ?_
      intro v77 b78
      show ex_q (dt_fg L ρ) rc (d + 4, (138, 123, [some (eR a0), some (eI (a1)), some (eJ (a2)), none, some (eI (a4)), some (eI (a5)), some (eJ (v5)), none, some (eJ (v20)), none, none], [eJ (v77), eI (v72), eR v46]), f :: F, m65)
      refine j_sl (np := 124) rfl rfl I66 b48 (by decide) (n := 96) rfl rfl (lo := -9223372036854775808) (hi := 9223372036854775807) (fun _ => rfl) (by omega) (by omega) (by omega) ?_
      intro m79 I80 W81
      have F82 : Fr l_138 0 0 g μ m79 := F68.v W81 b48 rfl rfl
      refine w_t (np := 125) (l2 := [some (eR a0), some (eI (a1)), some (eJ (a2)), none, some (eI (a4)), some (eI (a5)), some (eJ (v5)), none, some (eJ (v20)), none, none]) (s2 := [eR a0]) rfl (s_an rfl (pos_g I80 gA0 (by decide))) rfl ?_
      refine w_gf (np := 128) (v := eR v46) rfl rfl (I80.kd gA0 (by decide) (n := 7) rfl) (by rw [(W81.addr (W67.addr (W55.addr e47 b48 gA0 (by decide)) b48 gA0 (by decide)) b48 gA0 (by decide))]; rfl) ?_
      refine w_t (np := 129) (l2 := [some (eR a0), some (eI (a1)), some (eJ (a2)), none, some (eI (a4)), some (eI (a5)), some (eJ (v5)), none, some (eJ (v20)), none, none]) (s2 := [eI (4), eR v46]) rfl rfl rfl ?_
      refine w_t (np := 130) (l2 := [some (eR a0), some (eI (a1)), some (eJ (a2)), none, some (eI (a4)), some (eI (a5)), some (eJ (v5)), none, some (eJ (v20)), none, none]) (s2 := [eR a0, eI (4), eR v46]) rfl (s_an rfl (pos_g I80 gA0 (by decide))) rfl ?_
      refine w_gf (np := 133) (v := eI (v1)) rfl rfl (I80.kd gA0 (by decide) (n := 7) rfl) (by rw [(W81.addr (W67.addr (W55.addr (W44.addr (W36.addr (W28.addr e2 b24 gA0 (by decide)) b32 gA0 (by decide)) b40 gA0 (by decide)) b48 gA0 (by decide)) b48 gA0 (by decide)) b48 gA0 (by decide))]; rfl) ?_
      obtain ⟨v83, e84⟩ : ∃ zz : Int, zz = (4) * (v1) := ⟨_, rfl⟩
      have b85 : 0 ≤ v83 ∧ v83 ≤ 92 := by omega
      refine w_t (np := 134) (l2 := [some (eR a0), some (eI (a1)), some (eJ (a2)), none, some (eI (a4)), some (eI (a5)), some (eJ (v5)), none, some (eJ (v20)), none, none]) (s2 := [eI (v83), eR v46]) rfl (b_imul (by rw [← e84]; exact ev_w_in (by omega) (by omega))) rfl ?_
      refine w_t (np := 135) (l2 := [some (eR a0), some (eI (a1)), some (eJ (a2)), none, some (eI (a4)), some (eI (a5)), some (eJ (v5)), none, some (eJ (v20)), none, none]) (s2 := [eI (3), eI (v83), eR v46]) rfl rfl rfl ?_
      obtain ⟨v86, e87⟩ : ∃ zz : Int, zz = (v83) + (3) := ⟨_, rfl⟩
      have b88 : 3 ≤ v86 ∧ v86 ≤ 95 := by omega
      refine w_t (np := 136) (l2 := [some (eR a0), some (eI (a1)), some (eJ (a2)), none, some (eI (a4)), some (eI (a5)), some (eJ (v5)), none, some (eJ (v20)), none, none]) (s2 := [eI (v86), eR v46]) rfl (b_iadd (by rw [← e87]; exact ev_w_in (by omega) (by omega))) rfl ?_
      refine w_t (np := 137) (l2 := [some (eR a0), some (eI (a1)), some (eJ (a2)), none, some (eI (a4)), some (eI (a5)), some (eJ (v5)), none, some (eJ (v20)), none, none]) (s2 := [eJ (a2), eI (v86), eR v46]) rfl rfl rfl ?_
      refine w_t (np := 139) (l2 := [some (eR a0), some (eI (a1)), some (eJ (a2)), none, some (eI (a4)), some (eI (a5)), some (eJ (v5)), none, some (eJ (v20)), none, none]) (s2 := [eJ (v20), eJ (a2), eI (v86), eR v46]) rfl rfl rfl ?_
      refine w_cu (np := 142) (as := [eJ (a2), eJ (v20)]) (l2 := [some (eJ (a2)), none, some (eJ (v20)), none]) (rest := [eI (v86), eR v46]) rfl rfl rfl (Nat.ble_eq.mp rfl) rfl rfl rfl rfl ?_
      refine s_75 I80 bA2 b21 ?_
      intro v89 b90
      show ex_q (dt_fg L ρ) rc (d + 4, (138, 142, [some (eR a0), some (eI (a1)), some (eJ (a2)), none, some (eI (a4)), some (eI (a5)), some (eJ (v5)), none, some (eJ (v20)), none, none], [eJ (v89), eI (v86), eR v46]), f :: F, m79)
      refine j_sl (np := 143) rfl rfl I80 b48 (by decide) (n := 96) rfl rfl (lo := -9223372036854775808) (hi := 9223372036854775807) (fun _ => rfl) (by omega) (by omega) (by omega) ?_
      intro m91 I92 W93
      have F94 : Fr l_138 0 0 g μ m91 := F82.v W93 b48 rfl rfl
      refine w_t (np := 144) (l2 := [some (eR a0), some (eI (a1)), some (eJ (a2)), none, some (eI (a4)), some (eI (a5)), some (eJ (v5)), none, some (eJ (v20)), none, none]) (s2 := [eI (0)]) rfl rfl rfl ?_
      refine w_t (np := 146) (l2 := [some (eR a0), some (eI (a1)), some (eJ (a2)), none, some (eI (a4)), some (eI (a5)), some (eJ (v5)), none, some (eJ (v20)), none, some (eI (0))]) (s2 := []) rfl rfl rfl ?_
      have hL146 : ∀ (n95 : Nat) (m99 : eM) (i97 : Int), SI g m99 → Fr l_138 0 0 g μ m99 → (0 ≤ i97 ∧ i97 ≤ 24) → m99.1 a0 5 = v1 → m99.1 a0 0 = ((v22 : Nat) : Int) → m99.1 a0 1 = ((v30 : Nat) : Int) → m99.1 a0 2 = ((v38 : Nat) : Int) → m99.1 a0 3 = ((v46 : Nat) : Int) → n95 = (24 - i97).toNat → ex_q (dt_fg L ρ) rc (d + 4, (138, 146, [some (eR a0), some (eI (a1)), some (eJ (a2)), none, some (eI (a4)), some (eI (a5)), some (eJ (v5)), none, some (eJ (v20)), none, some (eI (i97))], []), f :: F, m99) := by
        intro n95
        induction n95 using Nat.strongRecOn with
        | _ n95 ih96 =>
        intro m99 i97 I100 F101 b98 k102 k103 k104 k105 k106 hn107
        refine w_t (np := 148) (l2 := [some (eR a0), some (eI (a1)), some (eJ (a2)), none, some (eI (a4)), some (eI (a5)), some (eJ (v5)), none, some (eJ (v20)), none, some (eI (i97))]) (s2 := [eI (i97)]) rfl rfl rfl ?_
        refine w_t (np := 149) (l2 := [some (eR a0), some (eI (a1)), some (eJ (a2)), none, some (eI (a4)), some (eI (a5)), some (eJ (v5)), none, some (eJ (v20)), none, some (eI (i97))]) (s2 := [eR a0, eI (i97)]) rfl (s_an rfl (pos_g I100 gA0 (by decide))) rfl ?_
        refine w_gf (np := 152) (v := eI (v1)) rfl rfl (I100.kd gA0 (by decide) (n := 7) rfl) (by rw [k102]; rfl) ?_
        refine b_cge (t1 := 177) (t2 := 155) rfl rfl rfl (ev_w_in (by omega) (by omega)) (ev_w_in (by omega) (by omega)) (fun g108 => ?_) (fun g108 => ?_)
        · refine w_t (np := 178) (l2 := [some (eR a0), some (eI (a1)), some (eJ (a2)), none, some (eI (a4)), some (eI (a5)), some (eJ (v5)), none, some (eJ (v20)), none, some (eI (i97))]) (s2 := [eI (0)]) rfl rfl rfl ?_
          refine w_t (np := 180) (l2 := [some (eR a0), some (eI (a1)), some (eJ (a2)), none, some (eI (a4)), some (eI (a5)), some (eJ (v5)), none, some (eJ (v20)), none, some (eI (0))]) (s2 := []) rfl rfl rfl ?_
          have hL180 : ∀ (n109 : Nat) (m113 : eM) (i111 : Int), SI g m113 → Fr l_138 0 0 g μ m113 → (0 ≤ i111 ∧ i111 ≤ 24) → m113.1 a0 5 = v1 → m113.1 a0 0 = ((v22 : Nat) : Int) → m113.1 a0 1 = ((v30 : Nat) : Int) → m113.1 a0 2 = ((v38 : Nat) : Int) → m113.1 a0 3 = ((v46 : Nat) : Int) → n109 = (24 - i111).toNat → ex_q (dt_fg L ρ) rc (d + 4, (138, 180, [some (eR a0), some (eI (a1)), some (eJ (a2)), none, some (eI (a4)), some (eI (a5)), some (eJ (v5)), none, some (eJ (v20)), none, some (eI (i111))], []), f :: F, m113) := by
            intro n109
            induction n109 using Nat.strongRecOn with
            | _ n109 ih110 =>
            intro m113 i111 I114 F115 b112 k116 k117 k118 k119 k120 hn121
            refine w_t (np := 182) (l2 := [some (eR a0), some (eI (a1)), some (eJ (a2)), none, some (eI (a4)), some (eI (a5)), some (eJ (v5)), none, some (eJ (v20)), none, some (eI (i111))]) (s2 := [eI (i111)]) rfl rfl rfl ?_
            refine w_t (np := 183) (l2 := [some (eR a0), some (eI (a1)), some (eJ (a2)), none, some (eI (a4)), some (eI (a5)), some (eJ (v5)), none, some (eJ (v20)), none, some (eI (i111))]) (s2 := [eR a0, eI (i111)]) rfl (s_an rfl (pos_g I114 gA0 (by decide))) rfl ?_
            refine w_gf (np := 186) (v := eI (v1)) rfl rfl (I114.kd gA0 (by decide) (n := 7) rfl) (by rw [k116]; rfl) ?_
            refine b_cge (t1 := 211) (t2 := 189) rfl rfl rfl (ev_w_in (by omega) (by omega)) (ev_w_in (by omega) (by omega)) (fun g122 => ?_) (fun g122 => ?_)
            · refine w_t (np := 212) (l2 := [some (eR a0), some (eI (a1)), some (eJ (a2)), none, some (eI (a4)), some (eI (a5)), some (eJ (v5)), none, some (eJ (v20)), none, some (eI (i111))]) (s2 := [eR a0]) rfl (s_an rfl (pos_g I114 gA0 (by decide))) rfl ?_
              refine w_t (np := 213) (l2 := [some (eR a0), some (eI (a1)), some (eJ (a2)), none, some (eI (a4)), some (eI (a5)), some (eJ (v5)), none, some (eJ (v20)), none, some (eI (i111))]) (s2 := [eR a0, eR a0]) rfl rfl rfl ?_
              refine w_gf (np := 216) (v := eI (v1)) rfl rfl (I114.kd gA0 (by decide) (n := 7) rfl) (by rw [k116]; rfl) ?_
              refine w_t (np := 217) (l2 := [some (eR a0), some (eI (a1)), some (eJ (a2)), none, some (eI (a4)), some (eI (a5)), some (eJ (v5)), none, some (eJ (v20)), none, some (eI (i111))]) (s2 := [eI (1), eI (v1), eR a0]) rfl rfl rfl ?_
              obtain ⟨v123, e124⟩ : ∃ zz : Int, zz = (v1) + (1) := ⟨_, rfl⟩
              have b125 : 1 ≤ v123 ∧ v123 ≤ 24 := by omega
              refine w_t (np := 218) (l2 := [some (eR a0), some (eI (a1)), some (eJ (a2)), none, some (eI (a4)), some (eI (a5)), some (eJ (v5)), none, some (eJ (v20)), none, some (eI (i111))]) (s2 := [eI (v123), eR a0]) rfl (b_iadd (by rw [← e124]; exact ev_w_in (by omega) (by omega))) rfl ?_
              refine j_pf (np := 221) (w := v123) rfl rfl I114 gA0 (by decide) (n := 7) rfl rfl (hO_i (lo := 0) (hi := 24) rfl (by omega)) ?_
              intro m126 I127 W128
              have F129 : Fr l_138 0 0 g μ m126 := F115.w W128 gA0 rfl
              refine w_t (np := 222) (l2 := [some (eR a0), some (eI (a1)), some (eJ (a2)), none, some (eI (a4)), some (eI (a5)), some (eJ (v5)), none, some (eJ (v20)), none, some (eI (i111))]) (s2 := [eR a0]) rfl (s_an rfl (pos_g I127 gA0 (by decide))) rfl ?_
              refine w_t (np := 223) (l2 := [some (eR a0), some (eI (a1)), some (eJ (a2)), none, some (eI (a4)), some (eI (a5)), some (eJ (v5)), none, some (eJ (v20)), none, some (eI (i111))]) (s2 := [eR a0, eR a0]) rfl (s_an rfl (pos_g I127 gA0 (by decide))) rfl ?_
              refine w_gf (np := 226) (v := eI (v123)) rfl rfl (I127.kd gA0 (by decide) (n := 7) rfl) (by rw [W128.at]; rfl) ?_
              refine w_t (np := 227) (l2 := [some (eR a0), some (eI (a1)), some (eJ (a2)), none, some (eI (a4)), some (eI (a5)), some (eJ (v5)), none, some (eJ (v20)), none, some (eI (i111))]) (s2 := [eI (1), eI (v123), eR a0]) rfl rfl rfl ?_
              obtain ⟨v130, e131⟩ : ∃ zz : Int, zz = (v123) - (1) := ⟨_, rfl⟩
              have b132 : 0 ≤ v130 ∧ v130 ≤ 23 := by omega
              refine w_t (np := 228) (l2 := [some (eR a0), some (eI (a1)), some (eJ (a2)), none, some (eI (a4)), some (eI (a5)), some (eJ (v5)), none, some (eJ (v20)), none, some (eI (i111))]) (s2 := [eI (v130), eR a0]) rfl (b_isub (by rw [← e131]; exact ev_w_in (by omega) (by omega))) rfl ?_
              refine w_cw (np := 231) (as := [eI (v130)]) (l2 := [some (eR a0), some (eI (v130)), none, none, none]) (rest := []) rfl rfl rfl (Nat.ble_eq.mp rfl) rfl rfl rfl (I127.kd gA0 (by decide) (n := 7) rfl) rfl ?_
              refine s_137 (a1 := v130) I127 gA0 (by omega) ?_
              intro m133 I134 F135
              have F136 : Fr l_138 0 0 g μ m133 := F129.t F135 rfl
              show ex_q (dt_fg L ρ) rc (d + 4, (138, 231, [some (eR a0), some (eI (a1)), some (eJ (a2)), none, some (eI (a4)), some (eI (a5)), some (eJ (v5)), none, some (eJ (v20)), none, some (eI (i111))], []), f :: F, m133)
              refine w_t (np := 232) (l2 := [some (eR a0), some (eI (a1)), some (eJ (a2)), none, some (eI (a4)), some (eI (a5)), some (eJ (v5)), none, some (eJ (v20)), none, some (eI (i111))]) (s2 := [eI (0)]) rfl rfl rfl ?_
              exact b_ri rfl rfl (K m133 (0) I134 F136 (by decide))
            · have b123 : 0 ≤ i111 ∧ i111 ≤ 22 := by omega
              have b124 : 1 ≤ v1 ∧ v1 ≤ 23 := by omega
              refine w_t (np := 190) (l2 := [some (eR a0), some (eI (a1)), some (eJ (a2)), none, some (eI (a4)), some (eI (a5)), some (eJ (v5)), none, some (eJ (v20)), none, some (eI (i111))]) (s2 := [eR a0]) rfl (s_an rfl (pos_g I114 gA0 (by decide))) rfl ?_
              refine w_t (np := 192) (l2 := [some (eR a0), some (eI (a1)), some (eJ (a2)), none, some (eI (a4)), some (eI (a5)), some (eJ (v5)), none, some (eJ (v20)), none, some (eI (i111))]) (s2 := [eI (i111), eR a0]) rfl rfl rfl ?_
              refine w_t (np := 193) (l2 := [some (eR a0), some (eI (a1)), some (eJ (a2)), none, some (eI (a4)), some (eI (a5)), some (eJ (v5)), none, some (eJ (v20)), none, some (eI (i111))]) (s2 := [eR a0, eI (i111), eR a0]) rfl (s_an rfl (pos_g I114 gA0 (by decide))) rfl ?_
              refine w_gf (np := 196) (v := eI (v1)) rfl rfl (I114.kd gA0 (by decide) (n := 7) rfl) (by rw [k116]; rfl) ?_
              refine w_cw (np := 199) (as := [eI (i111), eI (v1)]) (l2 := [some (eR a0), some (eI (i111)), some (eI (v1)), none, none]) (rest := []) rfl rfl rfl (Nat.ble_eq.mp rfl) rfl rfl rfl (I114.kd gA0 (by decide) (n := 7) rfl) rfl ?_
              refine s_144 (a1 := i111) (a2 := v1) I114 gA0 (by omega) (by omega) ?_
              intro v123 b124
              show ex_q (dt_fg L ρ) rc (d + 4, (138, 199, [some (eR a0), some (eI (a1)), some (eJ (a2)), none, some (eI (a4)), some (eI (a5)), some (eJ (v5)), none, some (eJ (v20)), none, some (eI (i111))], [eI (v123)]), f :: F, m113)
              refine b_ieq (t1 := 205) (t2 := 202) rfl rfl rfl (ev_w_in (by omega) (by omega)) (fun g125 => ?_) (fun g125 => ?_)
              · have b126 : 0 ≤ v123 ∧ v123 ≤ 0 := by omega
                obtain ⟨v126, e127⟩ : ∃ zz : Int, zz = (i111) + (1) := ⟨_, rfl⟩
                have b128 : 1 ≤ v126 ∧ v126 ≤ 23 := by omega
                refine w_t (np := 208) (l2 := [some (eR a0), some (eI (a1)), some (eJ (a2)), none, some (eI (a4)), some (eI (a5)), some (eJ (v5)), none, some (eJ (v20)), none, some (eI (v126))]) (s2 := []) rfl (b_iinc rfl (by rw [← e127]; exact ev_w_in (by omega) (by omega)) rfl) rfl ?_
                refine w_go (t1 := 180) rfl rfl ?_
                exact ih110 (24 - (v126)).toNat (by omega) m113 (v126) I114 F115 (by omega) k116 k117 k118 k119 k120    rfl
              · have b126 : 1 ≤ v123 ∧ v123 ≤ 1 := by omega
                refine w_t (np := 204) (l2 := [some (eR a0), some (eI (a1)), some (eJ (a2)), none, some (eI (a4)), some (eI (a5)), some (eJ (v5)), none, some (eJ (v20)), none, some (eI (i111))]) (s2 := [eI (7)]) rfl rfl rfl ?_
                exact b_ri rfl rfl (K m113 (7) I114 F115 (by decide))
          exact hL180 _ m99 (0) I100 F101 (by decide) k102 k103 k104 k105 k106    rfl
        · have b109 : 0 ≤ i97 ∧ i97 ≤ 22 := by omega
          have b110 : 1 ≤ v1 ∧ v1 ≤ 23 := by omega
          refine w_t (np := 156) (l2 := [some (eR a0), some (eI (a1)), some (eJ (a2)), none, some (eI (a4)), some (eI (a5)), some (eJ (v5)), none, some (eJ (v20)), none, some (eI (i97))]) (s2 := [eR a0]) rfl (s_an rfl (pos_g I100 gA0 (by decide))) rfl ?_
          refine w_t (np := 158) (l2 := [some (eR a0), some (eI (a1)), some (eJ (a2)), none, some (eI (a4)), some (eI (a5)), some (eJ (v5)), none, some (eJ (v20)), none, some (eI (i97))]) (s2 := [eI (i97), eR a0]) rfl rfl rfl ?_
          refine w_t (np := 159) (l2 := [some (eR a0), some (eI (a1)), some (eJ (a2)), none, some (eI (a4)), some (eI (a5)), some (eJ (v5)), none, some (eJ (v20)), none, some (eI (i97))]) (s2 := [eR a0, eI (i97), eR a0]) rfl (s_an rfl (pos_g I100 gA0 (by decide))) rfl ?_
          refine w_gf (np := 162) (v := eI (v1)) rfl rfl (I100.kd gA0 (by decide) (n := 7) rfl) (by rw [k102]; rfl) ?_
          refine w_cw (np := 165) (as := [eI (i97), eI (v1)]) (l2 := [some (eR a0), some (eI (i97)), some (eI (v1))]) (rest := []) rfl rfl rfl (Nat.ble_eq.mp rfl) rfl rfl rfl (I100.kd gA0 (by decide) (n := 7) rfl) rfl ?_
          refine s_141 (a1 := i97) (a2 := v1) I100 gA0 (by omega) (by omega) ?_
          intro v109 b110
          show ex_q (dt_fg L ρ) rc (d + 4, (138, 165, [some (eR a0), some (eI (a1)), some (eJ (a2)), none, some (eI (a4)), some (eI (a5)), some (eJ (v5)), none, some (eJ (v20)), none, some (eI (i97))], [eI (v109)]), f :: F, m99)
          refine b_ieq (t1 := 171) (t2 := 168) rfl rfl rfl (ev_w_in (by omega) (by omega)) (fun g111 => ?_) (fun g111 => ?_)
          · have b112 : 0 ≤ v109 ∧ v109 ≤ 0 := by omega
            obtain ⟨v112, e113⟩ : ∃ zz : Int, zz = (i97) + (1) := ⟨_, rfl⟩
            have b114 : 1 ≤ v112 ∧ v112 ≤ 23 := by omega
            refine w_t (np := 174) (l2 := [some (eR a0), some (eI (a1)), some (eJ (a2)), none, some (eI (a4)), some (eI (a5)), some (eJ (v5)), none, some (eJ (v20)), none, some (eI (v112))]) (s2 := []) rfl (b_iinc rfl (by rw [← e113]; exact ev_w_in (by omega) (by omega)) rfl) rfl ?_
            refine w_go (t1 := 146) rfl rfl ?_
            exact ih96 (24 - (v112)).toNat (by omega) m99 (v112) I100 F101 (by omega) k102 k103 k104 k105 k106    rfl
          · have b112 : 1 ≤ v109 ∧ v109 ≤ 1 := by omega
            refine w_t (np := 170) (l2 := [some (eR a0), some (eI (a1)), some (eJ (a2)), none, some (eI (a4)), some (eI (a5)), some (eJ (v5)), none, some (eJ (v20)), none, some (eI (i97))]) (s2 := [eI (6)]) rfl rfl rfl ?_
            exact b_ri rfl rfl (K m99 (6) I100 F101 (by decide))
      exact hL146 _ m91 (0) I92 F94 (by decide) (W93.addr (W81.addr (W67.addr (W55.addr (W44.addr (W36.addr (W28.addr e2 b24 gA0 (by decide)) b32 gA0 (by decide)) b40 gA0 (by decide)) b48 gA0 (by decide)) b48 gA0 (by decide)) b48 gA0 (by decide)) b48 gA0 (by decide)) (W93.addr (W81.addr (W67.addr (W55.addr (W44.addr (W36.addr (W28.addr e23 b24 gA0 (by decide)) b32 gA0 (by decide)) b40 gA0 (by decide)) b48 gA0 (by decide)) b48 gA0 (by decide)) b48 gA0 (by decide)) b48 gA0 (by decide)) (W93.addr (W81.addr (W67.addr (W55.addr (W44.addr (W36.addr e31 b32 gA0 (by decide)) b40 gA0 (by decide)) b48 gA0 (by decide)) b48 gA0 (by decide)) b48 gA0 (by decide)) b48 gA0 (by decide)) (W93.addr (W81.addr (W67.addr (W55.addr (W44.addr e39 b40 gA0 (by decide)) b48 gA0 (by decide)) b48 gA0 (by decide)) b48 gA0 (by decide)) b48 gA0 (by decide)) (W93.addr (W81.addr (W67.addr (W55.addr e47 b48 gA0 (by decide)) b48 gA0 (by decide)) b48 gA0 (by decide)) b48 gA0 (by decide))    rfl
  · have b5 : 24 ≤ v1 ∧ v1 ≤ 24 := by omega
    refine w_t (np := 10) (l2 := [some (eR a0), some (eI (a1)), some (eJ (a2)), none, some (eI (a4)), some (eI (a5)), none, none, none, none, none]) (s2 := [eI (3)]) rfl rfl rfl ?_
    exact b_ri rfl rfl (K μ (3) hI F0 (by decide))
def l_162 : List Nat := [270]
theorem s_162 {L : Nat} {ρ : Nat → Int} {rc : eQ} {d : Nat} {f : eFr} {F : List eFr} {μ : eM} {g : Nat → Nat} {a0 : Nat} {a1 : Int} {a2 : Int} {a3 : Int} {a4 : Int} (hI : SI g μ) (gA0 : g a0 = 1) (bA1 : -2147483648 ≤ a1 ∧ a1 ≤ 2147483647) (bA2 : -2147483648 ≤ a2 ∧ a2 ≤ 2147483647) (bA3 : -2147483648 ≤ a3 ∧ a3 ≤ 2147483647) (bA4 : -2147483648 ≤ a4 ∧ a4 ≤ 2147483647) (K : ∀ (μ2 : eM) (v : Int), SI g μ2 → Fr l_162 0 0 g μ μ2 → (-2147483648 ≤ v ∧ v ≤ 2147483647) → ex_q (dt_fg L ρ) rc (d + 5, (f.1, f.2.1, f.2.2.1, eI v :: f.2.2.2), F, μ2)) : ex_q (dt_fg L ρ) rc (d + 4, (162, 0, [some (eR a0), some (eI (a1)), some (eI (a2)), some (eI (a3)), some (eI (a4))], []), f :: F, μ) := by
  have F0 : Fr l_162 0 0 g μ μ := Fr.r
  refine w_t (np := 1) (l2 := [some (eR a0), some (eI (a1)), some (eI (a2)), some (eI (a3)), some (eI (a4))]) (s2 := [eI (a1)]) rfl rfl rfl ?_
  refine w_t (np := 2) (l2 := [some (eR a0), some (eI (a1)), some (eI (a2)), some (eI (a3)), some (eI (a4))]) (s2 := [eI (a2), eI (a1)]) rfl rfl rfl ?_
  refine w_t (np := 3) (l2 := [some (eR a0), some (eI (a1)), some (eI (a2)), some (eI (a3)), some (eI (a4))]) (s2 := [eI (a3), eI (a2), eI (a1)]) rfl rfl rfl ?_
  refine w_t (np := 5) (l2 := [some (eR a0), some (eI (a1)), some (eI (a2)), some (eI (a3)), some (eI (a4))]) (s2 := [eI (a4), eI (a3), eI (a2), eI (a1)]) rfl rfl rfl ?_
  refine w_t (np := 8) (l2 := [some (eR a0), some (eI (a1)), some (eI (a2)), some (eI (a3)), some (eI (a4))]) (s2 := [eI (9999), eI (a4), eI (a3), eI (a2), eI (a1)]) rfl rfl rfl ?_
  refine w_cu (np := 11) (as := [eI (a1), eI (a2), eI (a3), eI (a4), eI (9999)]) (l2 := [some (eI (a1)), some (eI (a2)), some (eI (a3)), some (eI (a4)), some (eI (9999))]) (rest := []) rfl rfl rfl (Nat.ble_eq.mp rfl) rfl rfl rfl rfl ?_
  refine s_72 (a0 := a1) (a1 := a2) (a2 := a3) (a3 := a4) (a4 := 9999) hI (by omega) (by omega) (by omega) (by omega) (by decide) ?_
  intro v1 b2
  show ex_q (dt_fg L ρ) rc (d + 4, (162, 11, [some (eR a0), some (eI (a1)), some (eI (a2)), some (eI (a3)), some (eI (a4))], [eI (v1)]), f :: F, μ)
  refine b_ine (t1 := 20) (t2 := 14) rfl rfl rfl (ev_w_in (by omega) (by omega)) (fun g3 => ?_) (fun g3 => ?_)
  · have b4 : 1 ≤ v1 ∧ v1 ≤ 1 := by omega
    refine w_t (np := 21) (l2 := [some (eR a0), some (eI (a1)), some (eI (a2)), some (eI (a3)), some (eI (a4))]) (s2 := [eR a0]) rfl (s_an rfl (pos_g hI gA0 (by decide))) rfl ?_
    refine w_t (np := 22) (l2 := [some (eR a0), some (eI (a1)), some (eI (a2)), some (eI (a3)), some (eI (a4))]) (s2 := [eR a0, eR a0]) rfl (s_an rfl (pos_g hI gA0 (by decide))) rfl ?_
    refine j_gr (np := 25) rfl rfl hI gA0 (by decide) (n := 14) rfl rfl rfl ?_
    intro v4 e5 b6 z7
    rcases hor2 b6 with b6 | b6
    · refine w_t (np := 26) (l2 := [some (eR a0), some (eI (a1)), some (eI (a2)), some (eI (a3)), some (eI (a4))]) (s2 := [eI (a1), eR v4, eR a0]) rfl rfl rfl ?_
      refine w_t (np := 27) (l2 := [some (eR a0), some (eI (a1)), some (eI (a2)), some (eI (a3)), some (eI (a4))]) (s2 := [eI (a2), eI (a1), eR v4, eR a0]) rfl rfl rfl ?_
      refine w_t (np := 28) (l2 := [some (eR a0), some (eI (a1)), some (eI (a2)), some (eI (a3)), some (eI (a4))]) (s2 := [eI (a3), eI (a2), eI (a1), eR v4, eR a0]) rfl rfl rfl ?_
      refine w_t (np := 30) (l2 := [some (eR a0), some (eI (a1)), some (eI (a2)), some (eI (a3)), some (eI (a4))]) (s2 := [eI (a4), eI (a3), eI (a2), eI (a1), eR v4, eR a0]) rfl rfl rfl ?_
      refine w_cu (np := 33) (as := [eI (a1), eI (a2), eI (a3), eI (a4)]) (l2 := [some (eI (a1)), some (eI (a2)), some (eI (a3)), some (eI (a4))]) (rest := [eR v4, eR a0]) rfl rfl rfl (Nat.ble_eq.mp rfl) rfl rfl rfl rfl ?_
      refine s_71 (a0 := a1) (a1 := a2) (a2 := a3) (a3 := a4) hI (by omega) (by omega) (by omega) (by omega) ?_
      intro v8 b9
      show ex_q (dt_fg L ρ) rc (d + 4, (162, 33, [some (eR a0), some (eI (a1)), some (eI (a2)), some (eI (a3)), some (eI (a4))], [eJ (v8), eR v4, eR a0]), f :: F, μ)
      refine w_cw (np := 36) (as := [eJ (v8)]) (l2 := [some (eR v4), some (eJ (v8)), none, none]) (rest := [eR a0]) rfl rfl rfl (Nat.ble_eq.mp rfl) rfl rfl rfl (hI.kd b6 (by decide) (n := 8) rfl) rfl ?_
      refine s_40 hI b6 b9 ?_
      intro v10 b11
      show ex_q (dt_fg L ρ) rc (d + 4, (162, 36, [some (eR a0), some (eI (a1)), some (eI (a2)), some (eI (a3)), some (eI (a4))], [eI (v10), eR a0]), f :: F, μ)
      refine w_cw (np := 39) (as := [eI (v10)]) (l2 := [some (eR a0), some (eI (v10))]) (rest := []) rfl rfl rfl (Nat.ble_eq.mp rfl) rfl rfl rfl (hI.kd gA0 (by decide) (n := 14) rfl) rfl ?_
      refine w_t (np := 1) (l2 := [some (eR a0), some (eI (v10))]) (s2 := [eI (v10)]) rfl rfl rfl ?_
      refine b_ige (t1 := 12) (t2 := 4) rfl rfl rfl (ev_w_in (by omega) (by omega)) (fun g12 => ?_) (fun g12 => ?_)
      · have b13 : 0 ≤ v10 ∧ v10 ≤ 2147483647 := by omega
        refine w_t (np := 13) (l2 := [some (eR a0), some (eI (v10))]) (s2 := [eR a0]) rfl (s_an rfl (pos_g hI gA0 (by decide))) rfl ?_
        refine w_t (np := 14) (l2 := [some (eR a0), some (eI (v10))]) (s2 := [eI (v10), eR a0]) rfl rfl rfl ?_
        refine w_cw (np := 17) (as := [eI (v10)]) (l2 := [some (eR a0), some (eI (v10))]) (rest := []) rfl rfl rfl (Nat.ble_eq.mp rfl) rfl rfl rfl (hI.kd gA0 (by decide) (n := 14) rfl) rfl ?_
        refine w_t (np := 1) (l2 := [some (eR a0), some (eI (v10))]) (s2 := [eR a0]) rfl (s_an rfl (pos_g hI gA0 (by decide))) rfl ?_
        refine w_t (np := 2) (l2 := [some (eR a0), some (eI (v10))]) (s2 := [eI (0), eR a0]) rfl rfl rfl ?_
        refine j_pf (np := 5) (w := 0) rfl rfl hI gA0 (by decide) (n := 14) rfl rfl (hO_i (lo := -2147483648) (hi := 2147483647) rfl (by decide)) ?_
        intro m13 I14 W15
        have F16 : Fr l_162 0 0 g μ m13 := F0.w W15 gA0 rfl
        refine w_t (np := 6) (l2 := [some (eR a0), some (eI (v10))]) (s2 := [eI (v10)]) rfl rfl rfl ?_
        refine b_ri rfl rfl ?_
        show ex_q (dt_fg L ρ) rc (d + 3, (207, 17, [some (eR a0), some (eI (v10))], [eI (v10)]), (162, 39, [some (eR a0), some (eI (a1)), some (eI (a2)), some (eI (a3)), some (eI (a4))], []) :: f :: F, m13)
        refine b_ri rfl rfl ?_
        show ex_q (dt_fg L ρ) rc (d + 4, (162, 39, [some (eR a0), some (eI (a1)), some (eI (a2)), some (eI (a3)), some (eI (a4))], [eI (v10)]), f :: F, m13)
        exact b_ri rfl rfl (K m13 (v10) I14 F16 (by omega))
      · have b13 : -2147483648 ≤ v10 ∧ v10 ≤ -1 := by omega
        refine w_t (np := 5) (l2 := [some (eR a0), some (eI (v10))]) (s2 := [eR a0]) rfl (s_an rfl (pos_g hI gA0 (by decide))) rfl ?_
        refine w_t (np := 6) (l2 := [some (eR a0), some (eI (v10))]) (s2 := [eI (5), eR a0]) rfl rfl rfl ?_
        refine w_cw (np := 9) (as := [eI (5)]) (l2 := [some (eR a0), some (eI (5))]) (rest := []) rfl rfl rfl (Nat.ble_eq.mp rfl) rfl rfl rfl (hI.kd gA0 (by decide) (n := 14) rfl) rfl ?_
        refine w_t (np := 1) (l2 := [some (eR a0), some (eI (5))]) (s2 := [eR a0]) rfl (s_an rfl (pos_g hI gA0 (by decide))) rfl ?_
        refine w_t (np := 2) (l2 := [some (eR a0), some (eI (5))]) (s2 := [eI (5), eR a0]) rfl rfl rfl ?_
        refine j_pf (np := 5) (w := 5) rfl rfl hI gA0 (by decide) (n := 14) rfl rfl (hO_i (lo := -2147483648) (hi := 2147483647) rfl (by decide)) ?_
        intro m13 I14 W15
        have F16 : Fr l_162 0 0 g μ m13 := F0.w W15 gA0 rfl
        refine w_t (np := 6) (l2 := [some (eR a0), some (eI (5))]) (s2 := [eI (-1)]) rfl rfl rfl ?_
        refine b_ri rfl rfl ?_
        show ex_q (dt_fg L ρ) rc (d + 3, (207, 9, [some (eR a0), some (eI (v10))], [eI (-1)]), (162, 39, [some (eR a0), some (eI (a1)), some (eI (a2)), some (eI (a3)), some (eI (a4))], []) :: f :: F, m13)
        refine w_go (t1 := 17) rfl rfl ?_
        refine b_ri rfl rfl ?_
        show ex_q (dt_fg L ρ) rc (d + 4, (162, 39, [some (eR a0), some (eI (a1)), some (eI (a2)), some (eI (a3)), some (eI (a4))], [eI (-1)]), f :: F, m13)
        exact b_ri rfl rfl (K m13 (-1) I14 F16 (by decide))
    · refine w_t (np := 26) (l2 := [some (eR a0), some (eI (a1)), some (eI (a2)), some (eI (a3)), some (eI (a4))]) (s2 := [eI (a1), eR v4, eR a0]) rfl rfl rfl ?_
      refine w_t (np := 27) (l2 := [some (eR a0), some (eI (a1)), some (eI (a2)), some (eI (a3)), some (eI (a4))]) (s2 := [eI (a2), eI (a1), eR v4, eR a0]) rfl rfl rfl ?_
      refine w_t (np := 28) (l2 := [some (eR a0), some (eI (a1)), some (eI (a2)), some (eI (a3)), some (eI (a4))]) (s2 := [eI (a3), eI (a2), eI (a1), eR v4, eR a0]) rfl rfl rfl ?_
      refine w_t (np := 30) (l2 := [some (eR a0), some (eI (a1)), some (eI (a2)), some (eI (a3)), some (eI (a4))]) (s2 := [eI (a4), eI (a3), eI (a2), eI (a1), eR v4, eR a0]) rfl rfl rfl ?_
      refine w_cu (np := 33) (as := [eI (a1), eI (a2), eI (a3), eI (a4)]) (l2 := [some (eI (a1)), some (eI (a2)), some (eI (a3)), some (eI (a4))]) (rest := [eR v4, eR a0]) rfl rfl rfl (Nat.ble_eq.mp rfl) rfl rfl rfl rfl ?_
      refine s_71 (a0 := a1) (a1 := a2) (a2 := a3) (a3 := a4) hI (by omega) (by omega) (by omega) (by omega) ?_
      intro v8 b9
      show ex_q (dt_fg L ρ) rc (d + 4, (162, 33, [some (eR a0), some (eI (a1)), some (eI (a2)), some (eI (a3)), some (eI (a4))], [eJ (v8), eR v4, eR a0]), f :: F, μ)
      refine w_cw (np := 36) (as := [eJ (v8)]) (l2 := [some (eR v4), some (eJ (v8)), none, none]) (rest := [eR a0]) rfl rfl rfl (Nat.ble_eq.mp rfl) rfl rfl rfl (hI.kd b6 (by decide) (n := 8) rfl) rfl ?_
      refine s_40_2 hI b6 b9 ?_
      intro v10 b11
      show ex_q (dt_fg L ρ) rc (d + 4, (162, 36, [some (eR a0), some (eI (a1)), some (eI (a2)), some (eI (a3)), some (eI (a4))], [eI (v10), eR a0]), f :: F, μ)
      refine w_cw (np := 39) (as := [eI (v10)]) (l2 := [some (eR a0), some (eI (v10))]) (rest := []) rfl rfl rfl (Nat.ble_eq.mp rfl) rfl rfl rfl (hI.kd gA0 (by decide) (n := 14) rfl) rfl ?_
      refine w_t (np := 1) (l2 := [some (eR a0), some (eI (v10))]) (s2 := [eI (v10)]) rfl rfl rfl ?_
      refine b_ige (t1 := 12) (t2 := 4) rfl rfl rfl (ev_w_in (by omega) (by omega)) (fun g12 => ?_) (fun g12 => ?_)
      · have b13 : 0 ≤ v10 ∧ v10 ≤ 2147483647 := by omega
        refine w_t (np := 13) (l2 := [some (eR a0), some (eI (v10))]) (s2 := [eR a0]) rfl (s_an rfl (pos_g hI gA0 (by decide))) rfl ?_
        refine w_t (np := 14) (l2 := [some (eR a0), some (eI (v10))]) (s2 := [eI (v10), eR a0]) rfl rfl rfl ?_
        refine w_cw (np := 17) (as := [eI (v10)]) (l2 := [some (eR a0), some (eI (v10))]) (rest := []) rfl rfl rfl (Nat.ble_eq.mp rfl) rfl rfl rfl (hI.kd gA0 (by decide) (n := 14) rfl) rfl ?_
        refine w_t (np := 1) (l2 := [some (eR a0), some (eI (v10))]) (s2 := [eR a0]) rfl (s_an rfl (pos_g hI gA0 (by decide))) rfl ?_
        refine w_t (np := 2) (l2 := [some (eR a0), some (eI (v10))]) (s2 := [eI (0), eR a0]) rfl rfl rfl ?_
        refine j_pf (np := 5) (w := 0) rfl rfl hI gA0 (by decide) (n := 14) rfl rfl (hO_i (lo := -2147483648) (hi := 2147483647) rfl (by decide)) ?_
        intro m13 I14 W15
        have F16 : Fr l_162 0 0 g μ m13 := F0.w W15 gA0 rfl
        refine w_t (np := 6) (l2 := [some (eR a0), some (eI (v10))]) (s2 := [eI (v10)]) rfl rfl rfl ?_
        refine b_ri rfl rfl ?_
        show ex_q (dt_fg L ρ) rc (d + 3, (207, 17, [some (eR a0), some (eI (v10))], [eI (v10)]), (162, 39, [some (eR a0), some (eI (a1)), some (eI (a2)), some (eI (a3)), some (eI (a4))], []) :: f :: F, m13)
        refine b_ri rfl rfl ?_
        show ex_q (dt_fg L ρ) rc (d + 4, (162, 39, [some (eR a0), some (eI (a1)), some (eI (a2)), some (eI (a3)), some (eI (a4))], [eI (v10)]), f :: F, m13)
        exact b_ri rfl rfl (K m13 (v10) I14 F16 (by omega))
      · have b13 : -2147483648 ≤ v10 ∧ v10 ≤ -1 := by omega
        refine w_t (np := 5) (l2 := [some (eR a0), some (eI (v10))]) (s2 := [eR a0]) rfl (s_an rfl (pos_g hI gA0 (by decide))) rfl ?_
        refine w_t (np := 6) (l2 := [some (eR a0), some (eI (v10))]) (s2 := [eI (5), eR a0]) rfl rfl rfl ?_
        refine w_cw (np := 9) (as := [eI (5)]) (l2 := [some (eR a0), some (eI (5))]) (rest := []) rfl rfl rfl (Nat.ble_eq.mp rfl) rfl rfl rfl (hI.kd gA0 (by decide) (n := 14) rfl) rfl ?_
        refine w_t (np := 1) (l2 := [some (eR a0), some (eI (5))]) (s2 := [eR a0]) rfl (s_an rfl (pos_g hI gA0 (by decide))) rfl ?_
        refine w_t (np := 2) (l2 := [some (eR a0), some (eI (5))]) (s2 := [eI (5), eR a0]) rfl rfl rfl ?_
        refine j_pf (np := 5) (w := 5) rfl rfl hI gA0 (by decide) (n := 14) rfl rfl (hO_i (lo := -2147483648) (hi := 2147483647) rfl (by decide)) ?_
        intro m13 I14 W15
        have F16 : Fr l_162 0 0 g μ m13 := F0.w W15 gA0 rfl
        refine w_t (np := 6) (l2 := [some (eR a0), some (eI (5))]) (s2 := [eI (-1)]) rfl rfl rfl ?_
        refine b_ri rfl rfl ?_
        show ex_q (dt_fg L ρ) rc (d + 3, (207, 9, [some (eR a0), some (eI (v10))], [eI (-1)]), (162, 39, [some (eR a0), some (eI (a1)), some (eI (a2)), some (eI (a3)), some (eI (a4))], []) :: f :: F, m13)
        refine w_go (t1 := 17) rfl rfl ?_
        refine b_ri rfl rfl ?_
        show ex_q (dt_fg L ρ) rc (d + 4, (162, 39, [some (eR a0), some (eI (a1)), some (eI (a2)), some (eI (a3)), some (eI (a4))], [eI (-1)]), f :: F, m13)
        exact b_ri rfl rfl (K m13 (-1) I14 F16 (by decide))
  · have b4 : 0 ≤ v1 ∧ v1 ≤ 0 := by omega
    refine w_t (np := 15) (l2 := [some (eR a0), some (eI (a1)), some (eI (a2)), some (eI (a3)), some (eI (a4))]) (s2 := [eR a0]) rfl (s_an rfl (pos_g hI gA0 (by decide))) rfl ?_
    refine w_t (np := 16) (l2 := [some (eR a0), some (eI (a1)), some (eI (a2)), some (eI (a3)), some (eI (a4))]) (s2 := [eI (1), eR a0]) rfl rfl rfl ?_
    refine w_cw (np := 19) (as := [eI (1)]) (l2 := [some (eR a0), some (eI (1))]) (rest := []) rfl rfl rfl (Nat.ble_eq.mp rfl) rfl rfl rfl (hI.kd gA0 (by decide) (n := 14) rfl) rfl ?_
    refine w_t (np := 1) (l2 := [some (eR a0), some (eI (1))]) (s2 := [eR a0]) rfl (s_an rfl (pos_g hI gA0 (by decide))) rfl ?_
    refine w_t (np := 2) (l2 := [some (eR a0), some (eI (1))]) (s2 := [eI (1), eR a0]) rfl rfl rfl ?_
    refine j_pf (np := 5) (w := 1) rfl rfl hI gA0 (by decide) (n := 14) rfl rfl (hO_i (lo := -2147483648) (hi := 2147483647) rfl (by decide)) ?_
    intro m4 I5 W6
    have F7 : Fr l_162 0 0 g μ m4 := F0.w W6 gA0 rfl
    refine w_t (np := 6) (l2 := [some (eR a0), some (eI (1))]) (s2 := [eI (-1)]) rfl rfl rfl ?_
    refine b_ri rfl rfl ?_
    show ex_q (dt_fg L ρ) rc (d + 4, (162, 19, [some (eR a0), some (eI (a1)), some (eI (a2)), some (eI (a3)), some (eI (a4))], [eI (-1)]), f :: F, m4)
    exact b_ri rfl rfl (K m4 (-1) I5 F7 (by decide))
def l_211 : List Nat := [270, 7430, 7431, 8448, 7936, 8192, 7680, 8704]
theorem s_211 {L : Nat} {ρ : Nat → Int} {rc : eQ} {d : Nat} {f : eFr} {F : List eFr} {μ : eM} {g : Nat → Nat} {a0 : Nat} {a1 : Int} {a2 : Int} {a4 : Int} {a5 : Int} (hI : SI g μ) (gA0 : g a0 = 1) (bA1 : 0 ≤ a1 ∧ a1 ≤ 1) (bA2 : -9223372036854775808 ≤ a2 ∧ a2 ≤ 9223372036854775807) (bA4 : 0 ≤ a4 ∧ a4 ≤ 9) (bA5 : 0 ≤ a5 ∧ a5 ≤ 1) (K : ∀ (μ2 : eM) (v : Int), SI g μ2 → Fr l_211 0 0 g μ μ2 → (-2147483648 ≤ v ∧ v ≤ 2147483647) → ex_q (dt_fg L ρ) rc (d + 6, (f.1, f.2.1, f.2.2.1, eI v :: f.2.2.2), F, μ2)) : ex_q (dt_fg L ρ) rc (d + 5, (211, 0, [some (eR a0), some (eI (a1)), some (eJ (a2)), none, some (eI (a4)), some (eI (a5)), none], []), f :: F, μ) := by
  have F0 : Fr l_211 0 0 g μ μ := Fr.r
  refine w_t (np := 1) (l2 := [some (eR a0), some (eI (a1)), some (eJ (a2)), none, some (eI (a4)), some (eI (a5)), none]) (s2 := [eR a0]) rfl (s_an rfl (pos_g hI gA0 (by decide))) rfl ?_
  refine j_gr (np := 4) rfl rfl hI gA0 (by decide) (n := 14) rfl rfl rfl ?_
  intro v1 e2 b3 z4
  have b3 : g v1 = 29 := Nat.eq_of_beq_eq_true b3
  refine w_t (np := 5) (l2 := [some (eR a0), some (eI (a1)), some (eJ (a2)), none, some (eI (a4)), some (eI (a5)), none]) (s2 := [eI (a1), eR v1]) rfl rfl rfl ?_
  refine w_t (np := 6) (l2 := [some (eR a0), some (eI (a1)), some (eJ (a2)), none, some (eI (a4)), some (eI (a5)), none]) (s2 := [eJ (a2), eI (a1), eR v1]) rfl rfl rfl ?_
  refine w_t (np := 8) (l2 := [some (eR a0), some (eI (a1)), some (eJ (a2)), none, some (eI (a4)), some (eI (a5)), none]) (s2 := [eI (a4), eJ (a2), eI (a1), eR v1]) rfl rfl rfl ?_
  refine w_t (np := 10) (l2 := [some (eR a0), some (eI (a1)), some (eJ (a2)), none, some (eI (a4)), some (eI (a5)), none]) (s2 := [eI (a5), eI (a4), eJ (a2), eI (a1), eR v1]) rfl rfl rfl ?_
  refine w_cw (np := 13) (as := [eI (a1), eJ (a2), eI (a4), eI (a5)]) (l2 := [some (eR v1), some (eI (a1)), some (eJ (a2)), none, some (eI (a4)), some (eI (a5)), none, none, none, none, none]) (rest := []) rfl rfl rfl (Nat.ble_eq.mp rfl) rfl rfl rfl (hI.kd b3 (by decide) (n := 7) rfl) rfl ?_
  refine s_138 (a1 := a1) (a4 := a4) (a5 := a5) hI b3 (by omega) bA2 (by omega) (by omega) ?_
  intro m5 v8 I6 F7 b9
  have F10 : Fr l_211 0 0 g μ m5 := F0.t F7 rfl
  show ex_q (dt_fg L ρ) rc (d + 5, (211, 13, [some (eR a0), some (eI (a1)), some (eJ (a2)), none, some (eI (a4)), some (eI (a5)), none], [eI (v8)]), f :: F, m5)
  refine w_t (np := 15) (l2 := [some (eR a0), some (eI (a1)), some (eJ (a2)), none, some (eI (a4)), some (eI (a5)), some (eI (v8))]) (s2 := []) rfl rfl rfl ?_
  refine w_t (np := 17) (l2 := [some (eR a0), some (eI (a1)), some (eJ (a2)), none, some (eI (a4)), some (eI (a5)), some (eI (v8))]) (s2 := [eI (v8)]) rfl rfl rfl ?_
  refine b_ine (t1 := 36) (t2 := 20) rfl rfl rfl (ev_w_in (by omega) (by omega)) (fun g11 => ?_) (fun g11 => ?_)
  · have b12 : 1 ≤ v8 ∧ v8 ≤ 7 := by omega
    refine w_t (np := 37) (l2 := [some (eR a0), some (eI (a1)), some (eJ (a2)), none, some (eI (a4)), some (eI (a5)), some (eI (v8))]) (s2 := [eR a0]) rfl (s_an rfl (pos_g I6 gA0 (by decide))) rfl ?_
    refine w_t (np := 39) (l2 := [some (eR a0), some (eI (a1)), some (eJ (a2)), none, some (eI (a4)), some (eI (a5)), some (eI (v8))]) (s2 := [eI (v8), eR a0]) rfl rfl rfl ?_
    refine w_cw (np := 42) (as := [eI (v8)]) (l2 := [some (eR a0), some (eI (v8))]) (rest := []) rfl rfl rfl (Nat.ble_eq.mp rfl) rfl rfl rfl (I6.kd gA0 (by decide) (n := 14) rfl) rfl ?_
    refine w_t (np := 1) (l2 := [some (eR a0), some (eI (v8))]) (s2 := [eR a0]) rfl (s_an rfl (pos_g I6 gA0 (by decide))) rfl ?_
    refine w_t (np := 2) (l2 := [some (eR a0), some (eI (v8))]) (s2 := [eI (v8), eR a0]) rfl rfl rfl ?_
    refine j_pf (np := 5) (w := v8) rfl rfl I6 gA0 (by decide) (n := 14) rfl rfl (hO_i (lo := -2147483648) (hi := 2147483647) rfl (by omega)) ?_
    intro m12 I13 W14
    have F15 : Fr l_211 0 0 g μ m12 := F10.w W14 gA0 rfl
    refine w_t (np := 6) (l2 := [some (eR a0), some (eI (v8))]) (s2 := [eI (-1)]) rfl rfl rfl ?_
    refine b_ri rfl rfl ?_
    show ex_q (dt_fg L ρ) rc (d + 5, (211, 42, [some (eR a0), some (eI (a1)), some (eJ (a2)), none, some (eI (a4)), some (eI (a5)), some (eI (v8))], [eI (-1)]), f :: F, m12)
    exact b_ri rfl rfl (K m12 (-1) I13 F15 (by decide))
  · have b12 : 0 ≤ v8 ∧ v8 ≤ 0 := by omega
    refine w_t (np := 21) (l2 := [some (eR a0), some (eI (a1)), some (eJ (a2)), none, some (eI (a4)), some (eI (a5)), some (eI (v8))]) (s2 := [eR a0]) rfl (s_an rfl (pos_g I6 gA0 (by decide))) rfl ?_
    refine w_t (np := 22) (l2 := [some (eR a0), some (eI (a1)), some (eJ (a2)), none, some (eI (a4)), some (eI (a5)), some (eI (v8))]) (s2 := [eR a0, eR a0]) rfl (s_an rfl (pos_g I6 gA0 (by decide))) rfl ?_
    refine w_gf (np := 25) (v := eR v1) rfl rfl (I6.kd gA0 (by decide) (n := 14) rfl) (by rw [(F7.k e2 gA0 (by decide) rfl)]; rfl) ?_
    refine j_gi (np := 28) rfl rfl rfl I6 b3 (by decide) (n := 7) rfl rfl (lo := 0) (hi := 24) rfl ?_
    intro v12 e13 b14
    refine w_t (np := 29) (l2 := [some (eR a0), some (eI (a1)), some (eJ (a2)), none, some (eI (a4)), some (eI (a5)), some (eI (v8))]) (s2 := [eI (1), eI (v12), eR a0]) rfl rfl rfl ?_
    obtain ⟨v15, e16⟩ : ∃ zz : Int, zz = (v12) - (1) := ⟨_, rfl⟩
    have b17 : -1 ≤ v15 ∧ v15 ≤ 23 := by omega
    refine w_t (np := 30) (l2 := [some (eR a0), some (eI (a1)), some (eJ (a2)), none, some (eI (a4)), some (eI (a5)), some (eI (v8))]) (s2 := [eI (v15), eR a0]) rfl (b_isub (by rw [← e16]; exact ev_w_in (by omega) (by omega))) rfl ?_
    refine w_cw (np := 33) (as := [eI (v15)]) (l2 := [some (eR a0), some (eI (v15))]) (rest := []) rfl rfl rfl (Nat.ble_eq.mp rfl) rfl rfl rfl (I6.kd gA0 (by decide) (n := 14) rfl) rfl ?_
    refine w_t (np := 1) (l2 := [some (eR a0), some (eI (v15))]) (s2 := [eR a0]) rfl (s_an rfl (pos_g I6 gA0 (by decide))) rfl ?_
    refine w_t (np := 2) (l2 := [some (eR a0), some (eI (v15))]) (s2 := [eI (0), eR a0]) rfl rfl rfl ?_
    refine j_pf (np := 5) (w := 0) rfl rfl I6 gA0 (by decide) (n := 14) rfl rfl (hO_i (lo := -2147483648) (hi := 2147483647) rfl (by decide)) ?_
    intro m18 I19 W20
    have F21 : Fr l_211 0 0 g μ m18 := F10.w W20 gA0 rfl
    refine w_t (np := 6) (l2 := [some (eR a0), some (eI (v15))]) (s2 := [eI (v15)]) rfl rfl rfl ?_
    refine b_ri rfl rfl ?_
    show ex_q (dt_fg L ρ) rc (d + 5, (211, 33, [some (eR a0), some (eI (a1)), some (eJ (a2)), none, some (eI (a4)), some (eI (a5)), some (eI (v8))], [eI (v15)]), f :: F, m18)
    refine w_go (t1 := 42) rfl rfl ?_
    exact b_ri rfl rfl (K m18 (v15) I19 F21 (by omega))
def l_99 : List Nat := [5124, 5125, 5126, 5127, 5128, 5129, 5632, 5888, 7430, 7431, 8448, 7936, 8192, 7680, 8704]
theorem s_99 {L : Nat} {ρ : Nat → Int} {rc : eQ} {d : Nat} {f : eFr} {F : List eFr} {μ : eM} {g : Nat → Nat} {a0 : Nat} {a1 : Nat} {a2 : Int} (hI : SI g μ) (gA0 : g a0 = 20) (gA1 : g a1 = 29) (bA2 : -2147483648 ≤ a2 ∧ a2 ≤ 2147483647) (K : ∀ (μ2 : eM) (v : Int), SI g μ2 → Fr l_99 0 0 g μ μ2 → (0 ≤ v ∧ v ≤ 1) → ex_q (dt_fg L ρ) rc (d + 6, (f.1, f.2.1, f.2.2.1, eI v :: f.2.2.2), F, μ2)) : ex_q (dt_fg L ρ) rc (d + 5, (99, 0, [some (eR a0), some (eR a1), some (eI (a2)), none, none, none, none, none, none, none, none], []), f :: F, μ) := by
  have F0 : Fr l_99 0 0 g μ μ := Fr.r
  refine w_t (np := 1) (l2 := [some (eR a0), some (eR a1), some (eI (a2)), none, none, none, none, none, none, none, none]) (s2 := [eR a0]) rfl (s_an rfl (pos_g hI gA0 (by decide))) rfl ?_
  refine w_t (np := 2) (l2 := [some (eR a0), some (eR a1), some (eI (a2)), none, none, none, none, none, none, none, none]) (s2 := [eR a1, eR a0]) rfl (s_an rfl (pos_g hI gA1 (by decide))) rfl ?_
  refine w_t (np := 3) (l2 := [some (eR a0), some (eR a1), some (eI (a2)), none, none, none, none, none, none, none, none]) (s2 := [eI (a2), eR a1, eR a0]) rfl rfl rfl ?_
  refine w_cw (np := 6) (as := [eR a1, eI (a2)]) (l2 := [some (eR a0), some (eR a1), some (eI (a2)), none, none, none, none]) (rest := []) rfl rfl rfl (Nat.ble_eq.mp rfl) rfl rfl rfl (hI.kd gA0 (by decide) (n := 9) rfl) rfl ?_
  refine s_93 (a2 := a2) hI gA0 gA1 (by omega) ?_
  intro m1 I2 F3
  have F4 : Fr l_99 0 0 g μ m1 := F0.t F3 rfl
  show ex_q (dt_fg L ρ) rc (d + 5, (99, 6, [some (eR a0), some (eR a1), some (eI (a2)), none, none, none, none, none, none, none, none], []), f :: F, m1)
  refine w_t (np := 7) (l2 := [some (eR a0), some (eR a1), some (eI (a2)), none, none, none, none, none, none, none, none]) (s2 := [eR a0]) rfl (s_an rfl (pos_g I2 gA0 (by decide))) rfl ?_
  refine w_cw (np := 10) (as := []) (l2 := [some (eR a0), none, none, none]) (rest := []) rfl rfl rfl (Nat.ble_eq.mp rfl) rfl rfl rfl (I2.kd gA0 (by decide) (n := 9) rfl) rfl ?_
  obtain ⟨v5, e6, b7⟩ := I2.pk (k := 7) gA0 (by decide) (n := 9) rfl rfl (lo := -1) (hi := 9) rfl
  refine s_100 I2 gA0 e6 ?_
  intro v8 b9 h10
  show ex_q (dt_fg L ρ) rc (d + 5, (99, 10, [some (eR a0), some (eR a1), some (eI (a2)), none, none, none, none, none, none, none, none], [eI (v8)]), f :: F, m1)
  refine w_t (np := 11) (l2 := [some (eR a0), some (eR a1), some (eI (a2)), some (eI (v8)), none, none, none, none, none, none, none]) (s2 := []) rfl rfl rfl ?_
  refine w_t (np := 12) (l2 := [some (eR a0), some (eR a1), some (eI (a2)), some (eI (v8)), none, none, none, none, none, none, none]) (s2 := [eI (v8)]) rfl rfl rfl ?_
  refine b_ige (t1 := 17) (t2 := 15) rfl rfl rfl (ev_w_in (by omega) (by omega)) (fun g11 => ?_) (fun g11 => ?_)
  · have b12 : 0 ≤ v8 ∧ v8 ≤ 7 := by omega
    refine w_t (np := 18) (l2 := [some (eR a0), some (eR a1), some (eI (a2)), some (eI (v8)), none, none, none, none, none, none, none]) (s2 := [eI (v8)]) rfl rfl rfl ?_
    refine w_t (np := 19) (l2 := [some (eR a0), some (eR a1), some (eI (a2)), some (eI (v8)), none, none, none, none, none, none, none]) (s2 := [eI (4), eI (v8)]) rfl rfl rfl ?_
    obtain ⟨v12, e13, b14⟩ := h_idiv (a := v8) (k := 4) (by decide) (by decide) (show (-2147483648 : Int) ≤ v8 ∧ (v8 : Int) ≤ 2147483647 by omega)
    have b15 : 0 ≤ v12 ∧ v12 ≤ 1 := by omega
    refine w_t (np := 20) (l2 := [some (eR a0), some (eR a1), some (eI (a2)), some (eI (v8)), none, none, none, none, none, none, none]) (s2 := [eI (v12)]) rfl (e13 _ _) rfl ?_
    refine w_t (np := 22) (l2 := [some (eR a0), some (eR a1), some (eI (a2)), some (eI (v8)), some (eI (v12)), none, none, none, none, none, none]) (s2 := []) rfl rfl rfl ?_
    refine w_t (np := 23) (l2 := [some (eR a0), some (eR a1), some (eI (a2)), some (eI (v8)), some (eI (v12)), none, none, none, none, none, none]) (s2 := [eI (v8)]) rfl rfl rfl ?_
    refine w_t (np := 24) (l2 := [some (eR a0), some (eR a1), some (eI (a2)), some (eI (v8)), some (eI (v12)), none, none, none, none, none, none]) (s2 := [eI (4), eI (v8)]) rfl rfl rfl ?_
    obtain ⟨v16, e17, b18⟩ := h_irem (a := v8) (k := 4) (by decide) (by decide) (show (-2147483648 : Int) ≤ v8 ∧ (v8 : Int) ≤ 2147483647 by omega)
    have b19 : 0 ≤ v16 ∧ v16 ≤ 3 := by omega
    refine w_t (np := 25) (l2 := [some (eR a0), some (eR a1), some (eI (a2)), some (eI (v8)), some (eI (v12)), none, none, none, none, none, none]) (s2 := [eI (v16)]) rfl (e17 _ _) rfl ?_
    refine w_t (np := 27) (l2 := [some (eR a0), some (eR a1), some (eI (a2)), some (eI (v8)), some (eI (v12)), some (eI (v16)), none, none, none, none, none]) (s2 := []) rfl rfl rfl ?_
    refine w_t (np := 29) (l2 := [some (eR a0), some (eR a1), some (eI (a2)), some (eI (v8)), some (eI (v12)), some (eI (v16)), none, none, none, none, none]) (s2 := [eI (v12)]) rfl rfl rfl ?_
    refine w_cu (np := 32) (as := [eI (v12)]) (l2 := [some (eI (v12))]) (rest := []) rfl rfl rfl (Nat.ble_eq.mp rfl) rfl rfl rfl rfl ?_
    refine w_t (np := 1) (l2 := [some (eI (v12))]) (s2 := [eI (v12)]) rfl rfl rfl ?_
    refine b_ine (t1 := 8) (t2 := 4) rfl rfl rfl (ev_w_in (by omega) (by omega)) (fun g20 => ?_) (fun g20 => ?_)
    · have b21 : 1 ≤ v12 ∧ v12 ≤ 1 := by omega
      refine w_t (np := 9) (l2 := [some (eI (v12))]) (s2 := [eI (3)]) rfl rfl rfl ?_
      refine b_ri rfl rfl ?_
      show ex_q (dt_fg L ρ) rc (d + 5, (99, 32, [some (eR a0), some (eR a1), some (eI (a2)), some (eI (v8)), some (eI (v12)), some (eI (v16)), none, none, none, none, none], [eI (3)]), f :: F, m1)
      refine w_t (np := 34) (l2 := [some (eR a0), some (eR a1), some (eI (a2)), some (eI (v8)), some (eI (v12)), some (eI (v16)), some (eI (3)), none, none, none, none]) (s2 := []) rfl rfl rfl ?_
      refine w_t (np := 35) (l2 := [some (eR a0), some (eR a1), some (eI (a2)), some (eI (v8)), some (eI (v12)), some (eI (v16)), some (eI (3)), none, none, none, none]) (s2 := [eR a1]) rfl (s_an rfl (pos_g I2 gA1 (by decide))) rfl ?_
      refine w_t (np := 36) (l2 := [some (eR a0), some (eR a1), some (eI (a2)), some (eI (v8)), some (eI (v12)), some (eI (v16)), some (eI (3)), none, none, none, none]) (s2 := [eI (a2), eR a1]) rfl rfl rfl ?_
      refine w_cw (np := 39) (as := [eI (a2)]) (l2 := [some (eR a1), some (eI (a2))]) (rest := []) rfl rfl rfl (Nat.ble_eq.mp rfl) rfl rfl rfl (I2.kd gA1 (by decide) (n := 7) rfl) rfl ?_
      refine s_132 (a1 := a2) I2 gA1 (by omega) ?_
      intro v21 b22
      show ex_q (dt_fg L ρ) rc (d + 5, (99, 39, [some (eR a0), some (eR a1), some (eI (a2)), some (eI (v8)), some (eI (v12)), some (eI (v16)), some (eI (3)), none, none, none, none], [eJ (v21)]), f :: F, m1)
      refine w_t (np := 41) (l2 := [some (eR a0), some (eR a1), some (eI (a2)), some (eI (v8)), some (eI (v12)), some (eI (v16)), some (eI (3)), some (eJ (v21)), none, none, none]) (s2 := []) rfl rfl rfl ?_
      refine w_t (np := 42) (l2 := [some (eR a0), some (eR a1), some (eI (a2)), some (eI (v8)), some (eI (v12)), some (eI (v16)), some (eI (3)), some (eJ (v21)), none, none, none]) (s2 := [eR a0]) rfl (s_an rfl (pos_g I2 gA0 (by decide))) rfl ?_
      refine w_gf (np := 45) (v := eI (v5)) rfl rfl (I2.kd gA0 (by decide) (n := 9) rfl) (by rw [e6]; rfl) ?_
      refine w_t (np := 47) (l2 := [some (eR a0), some (eR a1), some (eI (a2)), some (eI (v8)), some (eI (v12)), some (eI (v16)), some (eI (3)), some (eJ (v21)), none, some (eI (v5)), none]) (s2 := []) rfl rfl rfl ?_
      refine w_t (np := 49) (l2 := [some (eR a0), some (eR a1), some (eI (a2)), some (eI (v8)), some (eI (v12)), some (eI (v16)), some (eI (3)), some (eJ (v21)), none, some (eI (v5)), none]) (s2 := [eI (v16)]) rfl rfl rfl ?_
      refine w_t (np := 50) (l2 := [some (eR a0), some (eR a1), some (eI (a2)), some (eI (v8)), some (eI (v12)), some (eI (v16)), some (eI (3)), some (eJ (v21)), none, some (eI (v5)), none]) (s2 := [eI (1), eI (v16)]) rfl rfl rfl ?_
      refine b_cne (t1 := 65) (t2 := 53) rfl rfl rfl (ev_w_in (by omega) (by omega)) rfl (fun g23 => ?_) (fun g23 => ?_)
      · refine w_t (np := 67) (l2 := [some (eR a0), some (eR a1), some (eI (a2)), some (eI (v8)), some (eI (v12)), some (eI (v16)), some (eI (3)), some (eJ (v21)), none, some (eI (v5)), none]) (s2 := [eI (v16)]) rfl rfl rfl ?_
        refine w_t (np := 68) (l2 := [some (eR a0), some (eR a1), some (eI (a2)), some (eI (v8)), some (eI (v12)), some (eI (v16)), some (eI (3)), some (eJ (v21)), none, some (eI (v5)), none]) (s2 := [eI (1), eI (v16)]) rfl rfl rfl ?_
        refine b_cle (t1 := 106) (t2 := 71) rfl rfl rfl (ev_w_in (by omega) (by omega)) rfl (fun g24 => ?_) (fun g24 => ?_)
        · have b25 : 0 ≤ v16 ∧ v16 ≤ 1 := by omega
          refine w_t (np := 108) (l2 := [some (eR a0), some (eR a1), some (eI (a2)), some (eI (v8)), some (eI (v12)), some (eI (v16)), some (eI (3)), some (eJ (v21)), none, some (eI (v5)), none]) (s2 := [eI (v16)]) rfl rfl rfl ?_
          refine w_t (np := 109) (l2 := [some (eR a0), some (eR a1), some (eI (a2)), some (eI (v8)), some (eI (v12)), some (eI (v16)), some (eI (3)), some (eJ (v21)), none, some (eI (v5)), none]) (s2 := [eI (1), eI (v16)]) rfl rfl rfl ?_
          refine b_ceq (t1 := 118) (t2 := 112) rfl rfl rfl (ev_w_in (by omega) (by omega)) rfl (fun g25 => False.elim (by omega)) (fun g25 => ?_)
          have b26 : 0 ≤ v16 ∧ v16 ≤ 0 := by omega
          refine w_t (np := 114) (l2 := [some (eR a0), some (eR a1), some (eI (a2)), some (eI (v8)), some (eI (v12)), some (eI (v16)), some (eI (3)), some (eJ (v21)), none, some (eI (v5)), none]) (s2 := [eI (v16)]) rfl rfl rfl ?_
          refine w_t (np := 115) (l2 := [some (eR a0), some (eR a1), some (eI (a2)), some (eI (v8)), some (eI (v12)), some (eI (v16)), some (eI (3)), some (eJ (v21)), none, some (eI (v5)), none]) (s2 := [eI (2), eI (v16)]) rfl rfl rfl ?_
          refine b_cne (t1 := 122) (t2 := 118) rfl rfl rfl (ev_w_in (by omega) (by omega)) rfl (fun g27 => ?_) (fun g27 => False.elim (by omega))
          refine w_t (np := 123) (l2 := [some (eR a0), some (eR a1), some (eI (a2)), some (eI (v8)), some (eI (v12)), some (eI (v16)), some (eI (3)), some (eJ (v21)), none, some (eI (v5)), none]) (s2 := [eI (0)]) rfl rfl rfl ?_
          refine w_t (np := 125) (l2 := [some (eR a0), some (eR a1), some (eI (a2)), some (eI (v8)), some (eI (v12)), some (eI (v16)), some (eI (3)), some (eJ (v21)), none, some (eI (v5)), some (eI (0))]) (s2 := []) rfl rfl rfl ?_
          refine w_t (np := 127) (l2 := [some (eR a0), some (eR a1), some (eI (a2)), some (eI (v8)), some (eI (v12)), some (eI (v16)), some (eI (3)), some (eJ (v21)), none, some (eI (v5)), some (eI (0))]) (s2 := [eJ (v21)]) rfl rfl rfl ?_
          refine w_cu (np := 130) (as := [eJ (v21)]) (l2 := [some (eJ (v21)), none]) (rest := []) rfl rfl rfl (Nat.ble_eq.mp rfl) rfl rfl rfl rfl ?_
          refine s_140 I2 b22 ?_
          intro v28 b29
          show ex_q (dt_fg L ρ) rc (d + 5, (99, 130, [some (eR a0), some (eR a1), some (eI (a2)), some (eI (v8)), some (eI (v12)), some (eI (v16)), some (eI (3)), some (eJ (v21)), none, some (eI (v5)), some (eI (0))], [eI (v28)]), f :: F, m1)
          refine b_ieq (t1 := 155) (t2 := 133) rfl rfl rfl (ev_w_in (by omega) (by omega)) (fun g30 => ?_) (fun g30 => ?_)
          · have b31 : 0 ≤ v28 ∧ v28 ≤ 0 := by omega
            refine w_t (np := 156) (l2 := [some (eR a0), some (eR a1), some (eI (a2)), some (eI (v8)), some (eI (v12)), some (eI (v16)), some (eI (3)), some (eJ (v21)), none, some (eI (v5)), some (eI (0))]) (s2 := [eI (0)]) rfl rfl rfl ?_
            exact b_rz rfl rfl (Or.inl rfl) (K m1 (0) I2 F4 (by decide))
          · have b31 : 1 ≤ v28 ∧ v28 ≤ 1 := by omega
            refine w_t (np := 134) (l2 := [some (eR a0), some (eR a1), some (eI (a2)), some (eI (v8)), some (eI (v12)), some (eI (v16)), some (eI (3)), some (eJ (v21)), none, some (eI (v5)), some (eI (0))]) (s2 := [eR a1]) rfl (s_an rfl (pos_g I2 gA1 (by decide))) rfl ?_
            refine w_t (np := 136) (l2 := [some (eR a0), some (eR a1), some (eI (a2)), some (eI (v8)), some (eI (v12)), some (eI (v16)), some (eI (3)), some (eJ (v21)), none, some (eI (v5)), some (eI (0))]) (s2 := [eI (v12), eR a1]) rfl rfl rfl ?_
            refine w_t (np := 138) (l2 := [some (eR a0), some (eR a1), some (eI (a2)), some (eI (v8)), some (eI (v12)), some (eI (v16)), some (eI (3)), some (eJ (v21)), none, some (eI (v5)), some (eI (0))]) (s2 := [eJ (v21), eI (v12), eR a1]) rfl rfl rfl ?_
            refine w_t (np := 140) (l2 := [some (eR a0), some (eR a1), some (eI (a2)), some (eI (v8)), some (eI (v12)), some (eI (v16)), some (eI (3)), some (eJ (v21)), none, some (eI (v5)), some (eI (0))]) (s2 := [eI (v5), eJ (v21), eI (v12), eR a1]) rfl rfl rfl ?_
            refine w_t (np := 142) (l2 := [some (eR a0), some (eR a1), some (eI (a2)), some (eI (v8)), some (eI (v12)), some (eI (v16)), some (eI (3)), some (eJ (v21)), none, some (eI (v5)), some (eI (0))]) (s2 := [eI (10), eI (v5), eJ (v21), eI (v12), eR a1]) rfl rfl rfl ?_
            obtain ⟨v31, e32, b33⟩ := h_irem (a := v5) (k := 10) (by decide) (by decide) (show (-2147483648 : Int) ≤ v5 ∧ (v5 : Int) ≤ 2147483647 by omega)
            have b34 : -1 ≤ v31 ∧ v31 ≤ 9 := by omega
            refine w_t (np := 143) (l2 := [some (eR a0), some (eR a1), some (eI (a2)), some (eI (v8)), some (eI (v12)), some (eI (v16)), some (eI (3)), some (eJ (v21)), none, some (eI (v5)), some (eI (0))]) (s2 := [eI (v31), eJ (v21), eI (v12), eR a1]) rfl (e32 _ _) rfl ?_
            refine w_t (np := 145) (l2 := [some (eR a0), some (eR a1), some (eI (a2)), some (eI (v8)), some (eI (v12)), some (eI (v16)), some (eI (3)), some (eJ (v21)), none, some (eI (v5)), some (eI (0))]) (s2 := [eI (0), eI (v31), eJ (v21), eI (v12), eR a1]) rfl rfl rfl ?_
            refine w_cw (np := 148) (as := [eI (v12), eJ (v21), eI (v31), eI (0)]) (l2 := [some (eR a1), some (eI (v12)), some (eJ (v21)), none, some (eI (v31)), some (eI (0)), none, none, none, none, none]) (rest := []) rfl rfl rfl (Nat.ble_eq.mp rfl) rfl rfl rfl (I2.kd gA1 (by decide) (n := 7) rfl) rfl ?_
            refine s_138 (a1 := v12) (a4 := v31) (a5 := 0) I2 gA1 (by omega) b22 (by omega) (by decide) ?_
            intro m35 v38 I36 F37 b39
            have F40 : Fr l_99 0 0 g μ m35 := F4.t F37 rfl
            show ex_q (dt_fg L ρ) rc (d + 5, (99, 148, [some (eR a0), some (eR a1), some (eI (a2)), some (eI (v8)), some (eI (v12)), some (eI (v16)), some (eI (3)), some (eJ (v21)), none, some (eI (v5)), some (eI (0))], [eI (v38)]), f :: F, m35)
            refine b_ine (t1 := 155) (t2 := 151) rfl rfl rfl (ev_w_in (by omega) (by omega)) (fun g41 => ?_) (fun g41 => ?_)
            · have b42 : 1 ≤ v38 ∧ v38 ≤ 7 := by omega
              refine w_t (np := 156) (l2 := [some (eR a0), some (eR a1), some (eI (a2)), some (eI (v8)), some (eI (v12)), some (eI (v16)), some (eI (3)), some (eJ (v21)), none, some (eI (v5)), some (eI (0))]) (s2 := [eI (0)]) rfl rfl rfl ?_
              exact b_rz rfl rfl (Or.inl rfl) (K m35 (0) I36 F40 (by decide))
            · have b42 : 0 ≤ v38 ∧ v38 ≤ 0 := by omega
              refine w_t (np := 152) (l2 := [some (eR a0), some (eR a1), some (eI (a2)), some (eI (v8)), some (eI (v12)), some (eI (v16)), some (eI (3)), some (eJ (v21)), none, some (eI (v5)), some (eI (0))]) (s2 := [eI (1)]) rfl rfl rfl ?_
              refine w_go (t1 := 156) rfl rfl ?_
              exact b_rz rfl rfl (Or.inr rfl) (K m35 (1) I36 F40 (by decide))
        · have b25 : 2 ≤ v16 ∧ v16 ≤ 3 := by omega
          refine w_t (np := 73) (l2 := [some (eR a0), some (eR a1), some (eI (a2)), some (eI (v8)), some (eI (v12)), some (eI (v16)), some (eI (3)), some (eJ (v21)), none, some (eI (v5)), none]) (s2 := [eJ (v21)]) rfl rfl rfl ?_
          refine w_t (np := 74) (l2 := [some (eR a0), some (eR a1), some (eI (a2)), some (eI (v8)), some (eI (v12)), some (eI (v16)), some (eI (3)), some (eJ (v21)), none, some (eI (v5)), none]) (s2 := [eR a0, eJ (v21)]) rfl (s_an rfl (pos_g I2 gA0 (by decide))) rfl ?_
          refine w_gf (np := 77) (v := eI (v5)) rfl rfl (I2.kd gA0 (by decide) (n := 9) rfl) (by rw [e6]; rfl) ?_
          refine w_cu (np := 80) (as := [eI (v5)]) (l2 := [some (eI (v5))]) (rest := [eJ (v21)]) rfl rfl rfl (Nat.ble_eq.mp rfl) rfl rfl rfl rfl ?_
          refine s_74 (a0 := v5) I2 (by omega) ?_
          intro v25 b26
          show ex_q (dt_fg L ρ) rc (d + 5, (99, 80, [some (eR a0), some (eR a1), some (eI (a2)), some (eI (v8)), some (eI (v12)), some (eI (v16)), some (eI (3)), some (eJ (v21)), none, some (eI (v5)), none], [eJ (v25), eJ (v21)]), f :: F, m1)
          refine w_cu (np := 83) (as := [eJ (v21), eJ (v25)]) (l2 := [some (eJ (v21)), none, some (eJ (v25)), none]) (rest := []) rfl rfl rfl (Nat.ble_eq.mp rfl) rfl rfl rfl rfl ?_
          refine s_75 I2 b22 b26 ?_
          intro v27 b28
          show ex_q (dt_fg L ρ) rc (d + 5, (99, 83, [some (eR a0), some (eR a1), some (eI (a2)), some (eI (v8)), some (eI (v12)), some (eI (v16)), some (eI (3)), some (eJ (v21)), none, some (eI (v5)), none], [eJ (v27)]), f :: F, m1)
          refine w_t (np := 85) (l2 := [some (eR a0), some (eR a1), some (eI (a2)), some (eI (v8)), some (eI (v12)), some (eI (v16)), some (eI (3)), some (eJ (v27)), none, some (eI (v5)), none]) (s2 := []) rfl rfl rfl ?_
          refine w_t (np := 86) (l2 := [some (eR a0), some (eR a1), some (eI (a2)), some (eI (v8)), some (eI (v12)), some (eI (v16)), some (eI (3)), some (eJ (v27)), none, some (eI (v5)), none]) (s2 := [eR a0]) rfl (s_an rfl (pos_g I2 gA0 (by decide))) rfl ?_
          refine w_gf (np := 89) (v := eI (v5)) rfl rfl (I2.kd gA0 (by decide) (n := 9) rfl) (by rw [e6]; rfl) ?_
          refine w_t (np := 91) (l2 := [some (eR a0), some (eR a1), some (eI (a2)), some (eI (v8)), some (eI (v12)), some (eI (v16)), some (eI (3)), some (eJ (v27)), none, some (eI (v5)), none]) (s2 := [eI (v16), eI (v5)]) rfl rfl rfl ?_
          refine w_t (np := 92) (l2 := [some (eR a0), some (eR a1), some (eI (a2)), some (eI (v8)), some (eI (v12)), some (eI (v16)), some (eI (3)), some (eJ (v27)), none, some (eI (v5)), none]) (s2 := [eI (2), eI (v16), eI (v5)]) rfl rfl rfl ?_
          refine b_cne (t1 := 99) (t2 := 95) rfl rfl rfl (ev_w_in (by omega) (by omega)) rfl (fun g29 => ?_) (fun g29 => ?_)
          · have b30 : 3 ≤ v16 ∧ v16 ≤ 3 := by omega
            refine w_t (np := 100) (l2 := [some (eR a0), some (eR a1), some (eI (a2)), some (eI (v8)), some (eI (v12)), some (eI (v16)), some (eI (3)), some (eJ (v27)), none, some (eI (v5)), none]) (s2 := [eI (5), eI (v5)]) rfl rfl rfl ?_
            refine w_t (np := 102) (l2 := [some (eR a0), some (eR a1), some (eI (a2)), some (eI (v8)), some (eI (v12)), some (eI (v16)), some (eI (3)), some (eJ (v27)), none, some (eI (v5)), none]) (s2 := [eI (3), eI (5), eI (v5)]) rfl rfl rfl ?_
            refine w_t (np := 103) (l2 := [some (eR a0), some (eR a1), some (eI (a2)), some (eI (v8)), some (eI (v12)), some (eI (v16)), some (eI (3)), some (eJ (v27)), none, some (eI (v5)), none]) (s2 := [eI (2), eI (v5)]) rfl (b_isub rfl) rfl ?_
            obtain ⟨v30, e31⟩ : ∃ zz : Int, zz = (v5) + (2) := ⟨_, rfl⟩
            have b32 : 1 ≤ v30 ∧ v30 ≤ 11 := by omega
            refine w_t (np := 104) (l2 := [some (eR a0), some (eR a1), some (eI (a2)), some (eI (v8)), some (eI (v12)), some (eI (v16)), some (eI (3)), some (eJ (v27)), none, some (eI (v5)), none]) (s2 := [eI (v30)]) rfl (b_iadd (by rw [← e31]; exact ev_w_in (by omega) (by omega))) rfl ?_
            refine w_t (np := 106) (l2 := [some (eR a0), some (eR a1), some (eI (a2)), some (eI (v8)), some (eI (v12)), some (eI (v16)), some (eI (3)), some (eJ (v27)), none, some (eI (v30)), none]) (s2 := []) rfl rfl rfl ?_
            refine w_t (np := 108) (l2 := [some (eR a0), some (eR a1), some (eI (a2)), some (eI (v8)), some (eI (v12)), some (eI (v16)), some (eI (3)), some (eJ (v27)), none, some (eI (v30)), none]) (s2 := [eI (v16)]) rfl rfl rfl ?_
            refine w_t (np := 109) (l2 := [some (eR a0), some (eR a1), some (eI (a2)), some (eI (v8)), some (eI (v12)), some (eI (v16)), some (eI (3)), some (eJ (v27)), none, some (eI (v30)), none]) (s2 := [eI (1), eI (v16)]) rfl rfl rfl ?_
            refine b_ceq (t1 := 118) (t2 := 112) rfl rfl rfl (ev_w_in (by omega) (by omega)) rfl (fun g33 => False.elim (by omega)) (fun g33 => ?_)
            refine w_t (np := 114) (l2 := [some (eR a0), some (eR a1), some (eI (a2)), some (eI (v8)), some (eI (v12)), some (eI (v16)), some (eI (3)), some (eJ (v27)), none, some (eI (v30)), none]) (s2 := [eI (v16)]) rfl rfl rfl ?_
            refine w_t (np := 115) (l2 := [some (eR a0), some (eR a1), some (eI (a2)), some (eI (v8)), some (eI (v12)), some (eI (v16)), some (eI (3)), some (eJ (v27)), none, some (eI (v30)), none]) (s2 := [eI (2), eI (v16)]) rfl rfl rfl ?_
            refine b_cne (t1 := 122) (t2 := 118) rfl rfl rfl (ev_w_in (by omega) (by omega)) rfl (fun g34 => ?_) (fun g34 => False.elim (by omega))
            refine w_t (np := 123) (l2 := [some (eR a0), some (eR a1), some (eI (a2)), some (eI (v8)), some (eI (v12)), some (eI (v16)), some (eI (3)), some (eJ (v27)), none, some (eI (v30)), none]) (s2 := [eI (0)]) rfl rfl rfl ?_
            refine w_t (np := 125) (l2 := [some (eR a0), some (eR a1), some (eI (a2)), some (eI (v8)), some (eI (v12)), some (eI (v16)), some (eI (3)), some (eJ (v27)), none, some (eI (v30)), some (eI (0))]) (s2 := []) rfl rfl rfl ?_
            refine w_t (np := 127) (l2 := [some (eR a0), some (eR a1), some (eI (a2)), some (eI (v8)), some (eI (v12)), some (eI (v16)), some (eI (3)), some (eJ (v27)), none, some (eI (v30)), some (eI (0))]) (s2 := [eJ (v27)]) rfl rfl rfl ?_
            refine w_cu (np := 130) (as := [eJ (v27)]) (l2 := [some (eJ (v27)), none]) (rest := []) rfl rfl rfl (Nat.ble_eq.mp rfl) rfl rfl rfl rfl ?_
            refine s_140 I2 b28 ?_
            intro v35 b36
            show ex_q (dt_fg L ρ) rc (d + 5, (99, 130, [some (eR a0), some (eR a1), some (eI (a2)), some (eI (v8)), some (eI (v12)), some (eI (v16)), some (eI (3)), some (eJ (v27)), none, some (eI (v30)), some (eI (0))], [eI (v35)]), f :: F, m1)
            refine b_ieq (t1 := 155) (t2 := 133) rfl rfl rfl (ev_w_in (by omega) (by omega)) (fun g37 => ?_) (fun g37 => ?_)
            · have b38 : 0 ≤ v35 ∧ v35 ≤ 0 := by omega
              refine w_t (np := 156) (l2 := [some (eR a0), some (eR a1), some (eI (a2)), some (eI (v8)), some (eI (v12)), some (eI (v16)), some (eI (3)), some (eJ (v27)), none, some (eI (v30)), some (eI (0))]) (s2 := [eI (0)]) rfl rfl rfl ?_
              exact b_rz rfl rfl (Or.inl rfl) (K m1 (0) I2 F4 (by decide))
            · have b38 : 1 ≤ v35 ∧ v35 ≤ 1 := by omega
              refine w_t (np := 134) (l2 := [some (eR a0), some (eR a1), some (eI (a2)), some (eI (v8)), some (eI (v12)), some (eI (v16)), some (eI (3)), some (eJ (v27)), none, some (eI (v30)), some (eI (0))]) (s2 := [eR a1]) rfl (s_an rfl (pos_g I2 gA1 (by decide))) rfl ?_
              refine w_t (np := 136) (l2 := [some (eR a0), some (eR a1), some (eI (a2)), some (eI (v8)), some (eI (v12)), some (eI (v16)), some (eI (3)), some (eJ (v27)), none, some (eI (v30)), some (eI (0))]) (s2 := [eI (v12), eR a1]) rfl rfl rfl ?_
              refine w_t (np := 138) (l2 := [some (eR a0), some (eR a1), some (eI (a2)), some (eI (v8)), some (eI (v12)), some (eI (v16)), some (eI (3)), some (eJ (v27)), none, some (eI (v30)), some (eI (0))]) (s2 := [eJ (v27), eI (v12), eR a1]) rfl rfl rfl ?_
              refine w_t (np := 140) (l2 := [some (eR a0), some (eR a1), some (eI (a2)), some (eI (v8)), some (eI (v12)), some (eI (v16)), some (eI (3)), some (eJ (v27)), none, some (eI (v30)), some (eI (0))]) (s2 := [eI (v30), eJ (v27), eI (v12), eR a1]) rfl rfl rfl ?_
              refine w_t (np := 142) (l2 := [some (eR a0), some (eR a1), some (eI (a2)), some (eI (v8)), some (eI (v12)), some (eI (v16)), some (eI (3)), some (eJ (v27)), none, some (eI (v30)), some (eI (0))]) (s2 := [eI (10), eI (v30), eJ (v27), eI (v12), eR a1]) rfl rfl rfl ?_
              obtain ⟨v38, e39, b40⟩ := h_irem (a := v30) (k := 10) (by decide) (by decide) (show (-2147483648 : Int) ≤ v30 ∧ (v30 : Int) ≤ 2147483647 by omega)
              have b41 : 0 ≤ v38 ∧ v38 ≤ 9 := by omega
              refine w_t (np := 143) (l2 := [some (eR a0), some (eR a1), some (eI (a2)), some (eI (v8)), some (eI (v12)), some (eI (v16)), some (eI (3)), some (eJ (v27)), none, some (eI (v30)), some (eI (0))]) (s2 := [eI (v38), eJ (v27), eI (v12), eR a1]) rfl (e39 _ _) rfl ?_
              refine w_t (np := 145) (l2 := [some (eR a0), some (eR a1), some (eI (a2)), some (eI (v8)), some (eI (v12)), some (eI (v16)), some (eI (3)), some (eJ (v27)), none, some (eI (v30)), some (eI (0))]) (s2 := [eI (0), eI (v38), eJ (v27), eI (v12), eR a1]) rfl rfl rfl ?_
              refine w_cw (np := 148) (as := [eI (v12), eJ (v27), eI (v38), eI (0)]) (l2 := [some (eR a1), some (eI (v12)), some (eJ (v27)), none, some (eI (v38)), some (eI (0)), none, none, none, none, none]) (rest := []) rfl rfl rfl (Nat.ble_eq.mp rfl) rfl rfl rfl (I2.kd gA1 (by decide) (n := 7) rfl) rfl ?_
              refine s_138 (a1 := v12) (a4 := v38) (a5 := 0) I2 gA1 (by omega) b28 (by omega) (by decide) ?_
              intro m42 v45 I43 F44 b46
              have F47 : Fr l_99 0 0 g μ m42 := F4.t F44 rfl
              show ex_q (dt_fg L ρ) rc (d + 5, (99, 148, [some (eR a0), some (eR a1), some (eI (a2)), some (eI (v8)), some (eI (v12)), some (eI (v16)), some (eI (3)), some (eJ (v27)), none, some (eI (v30)), some (eI (0))], [eI (v45)]), f :: F, m42)
              refine b_ine (t1 := 155) (t2 := 151) rfl rfl rfl (ev_w_in (by omega) (by omega)) (fun g48 => ?_) (fun g48 => ?_)
              · have b49 : 1 ≤ v45 ∧ v45 ≤ 7 := by omega
                refine w_t (np := 156) (l2 := [some (eR a0), some (eR a1), some (eI (a2)), some (eI (v8)), some (eI (v12)), some (eI (v16)), some (eI (3)), some (eJ (v27)), none, some (eI (v30)), some (eI (0))]) (s2 := [eI (0)]) rfl rfl rfl ?_
                exact b_rz rfl rfl (Or.inl rfl) (K m42 (0) I43 F47 (by decide))
              · have b49 : 0 ≤ v45 ∧ v45 ≤ 0 := by omega
                refine w_t (np := 152) (l2 := [some (eR a0), some (eR a1), some (eI (a2)), some (eI (v8)), some (eI (v12)), some (eI (v16)), some (eI (3)), some (eJ (v27)), none, some (eI (v30)), some (eI (0))]) (s2 := [eI (1)]) rfl rfl rfl ?_
                refine w_go (t1 := 156) rfl rfl ?_
                exact b_rz rfl rfl (Or.inr rfl) (K m42 (1) I43 F47 (by decide))
          · have b30 : 2 ≤ v16 ∧ v16 ≤ 2 := by omega
            refine w_t (np := 96) (l2 := [some (eR a0), some (eR a1), some (eI (a2)), some (eI (v8)), some (eI (v12)), some (eI (v16)), some (eI (3)), some (eJ (v27)), none, some (eI (v5)), none]) (s2 := [eI (5), eI (v5)]) rfl rfl rfl ?_
            refine w_go (t1 := 103) rfl rfl ?_
            obtain ⟨v30, e31⟩ : ∃ zz : Int, zz = (v5) + (5) := ⟨_, rfl⟩
            have b32 : 4 ≤ v30 ∧ v30 ≤ 14 := by omega
            refine w_t (np := 104) (l2 := [some (eR a0), some (eR a1), some (eI (a2)), some (eI (v8)), some (eI (v12)), some (eI (v16)), some (eI (3)), some (eJ (v27)), none, some (eI (v5)), none]) (s2 := [eI (v30)]) rfl (b_iadd (by rw [← e31]; exact ev_w_in (by omega) (by omega))) rfl ?_
            refine w_t (np := 106) (l2 := [some (eR a0), some (eR a1), some (eI (a2)), some (eI (v8)), some (eI (v12)), some (eI (v16)), some (eI (3)), some (eJ (v27)), none, some (eI (v30)), none]) (s2 := []) rfl rfl rfl ?_
            refine w_t (np := 108) (l2 := [some (eR a0), some (eR a1), some (eI (a2)), some (eI (v8)), some (eI (v12)), some (eI (v16)), some (eI (3)), some (eJ (v27)), none, some (eI (v30)), none]) (s2 := [eI (v16)]) rfl rfl rfl ?_
            refine w_t (np := 109) (l2 := [some (eR a0), some (eR a1), some (eI (a2)), some (eI (v8)), some (eI (v12)), some (eI (v16)), some (eI (3)), some (eJ (v27)), none, some (eI (v30)), none]) (s2 := [eI (1), eI (v16)]) rfl rfl rfl ?_
            refine b_ceq (t1 := 118) (t2 := 112) rfl rfl rfl (ev_w_in (by omega) (by omega)) rfl (fun g33 => False.elim (by omega)) (fun g33 => ?_)
            refine w_t (np := 114) (l2 := [some (eR a0), some (eR a1), some (eI (a2)), some (eI (v8)), some (eI (v12)), some (eI (v16)), some (eI (3)), some (eJ (v27)), none, some (eI (v30)), none]) (s2 := [eI (v16)]) rfl rfl rfl ?_
            refine w_t (np := 115) (l2 := [some (eR a0), some (eR a1), some (eI (a2)), some (eI (v8)), some (eI (v12)), some (eI (v16)), some (eI (3)), some (eJ (v27)), none, some (eI (v30)), none]) (s2 := [eI (2), eI (v16)]) rfl rfl rfl ?_
            refine b_cne (t1 := 122) (t2 := 118) rfl rfl rfl (ev_w_in (by omega) (by omega)) rfl (fun g34 => False.elim (by omega)) (fun g34 => ?_)
            refine w_t (np := 119) (l2 := [some (eR a0), some (eR a1), some (eI (a2)), some (eI (v8)), some (eI (v12)), some (eI (v16)), some (eI (3)), some (eJ (v27)), none, some (eI (v30)), none]) (s2 := [eI (1)]) rfl rfl rfl ?_
            refine w_go (t1 := 123) rfl rfl ?_
            refine w_t (np := 125) (l2 := [some (eR a0), some (eR a1), some (eI (a2)), some (eI (v8)), some (eI (v12)), some (eI (v16)), some (eI (3)), some (eJ (v27)), none, some (eI (v30)), some (eI (1))]) (s2 := []) rfl rfl rfl ?_
            refine w_t (np := 127) (l2 := [some (eR a0), some (eR a1), some (eI (a2)), some (eI (v8)), some (eI (v12)), some (eI (v16)), some (eI (3)), some (eJ (v27)), none, some (eI (v30)), some (eI (1))]) (s2 := [eJ (v27)]) rfl rfl rfl ?_
            refine w_cu (np := 130) (as := [eJ (v27)]) (l2 := [some (eJ (v27)), none]) (rest := []) rfl rfl rfl (Nat.ble_eq.mp rfl) rfl rfl rfl rfl ?_
            refine s_140 I2 b28 ?_
            intro v35 b36
            show ex_q (dt_fg L ρ) rc (d + 5, (99, 130, [some (eR a0), some (eR a1), some (eI (a2)), some (eI (v8)), some (eI (v12)), some (eI (v16)), some (eI (3)), some (eJ (v27)), none, some (eI (v30)), some (eI (1))], [eI (v35)]), f :: F, m1)
            refine b_ieq (t1 := 155) (t2 := 133) rfl rfl rfl (ev_w_in (by omega) (by omega)) (fun g37 => ?_) (fun g37 => ?_)
            · have b38 : 0 ≤ v35 ∧ v35 ≤ 0 := by omega
              refine w_t (np := 156) (l2 := [some (eR a0), some (eR a1), some (eI (a2)), some (eI (v8)), some (eI (v12)), some (eI (v16)), some (eI (3)), some (eJ (v27)), none, some (eI (v30)), some (eI (1))]) (s2 := [eI (0)]) rfl rfl rfl ?_
              exact b_rz rfl rfl (Or.inl rfl) (K m1 (0) I2 F4 (by decide))
            · have b38 : 1 ≤ v35 ∧ v35 ≤ 1 := by omega
              refine w_t (np := 134) (l2 := [some (eR a0), some (eR a1), some (eI (a2)), some (eI (v8)), some (eI (v12)), some (eI (v16)), some (eI (3)), some (eJ (v27)), none, some (eI (v30)), some (eI (1))]) (s2 := [eR a1]) rfl (s_an rfl (pos_g I2 gA1 (by decide))) rfl ?_
              refine w_t (np := 136) (l2 := [some (eR a0), some (eR a1), some (eI (a2)), some (eI (v8)), some (eI (v12)), some (eI (v16)), some (eI (3)), some (eJ (v27)), none, some (eI (v30)), some (eI (1))]) (s2 := [eI (v12), eR a1]) rfl rfl rfl ?_
              refine w_t (np := 138) (l2 := [some (eR a0), some (eR a1), some (eI (a2)), some (eI (v8)), some (eI (v12)), some (eI (v16)), some (eI (3)), some (eJ (v27)), none, some (eI (v30)), some (eI (1))]) (s2 := [eJ (v27), eI (v12), eR a1]) rfl rfl rfl ?_
              refine w_t (np := 140) (l2 := [some (eR a0), some (eR a1), some (eI (a2)), some (eI (v8)), some (eI (v12)), some (eI (v16)), some (eI (3)), some (eJ (v27)), none, some (eI (v30)), some (eI (1))]) (s2 := [eI (v30), eJ (v27), eI (v12), eR a1]) rfl rfl rfl ?_
              refine w_t (np := 142) (l2 := [some (eR a0), some (eR a1), some (eI (a2)), some (eI (v8)), some (eI (v12)), some (eI (v16)), some (eI (3)), some (eJ (v27)), none, some (eI (v30)), some (eI (1))]) (s2 := [eI (10), eI (v30), eJ (v27), eI (v12), eR a1]) rfl rfl rfl ?_
              obtain ⟨v38, e39, b40⟩ := h_irem (a := v30) (k := 10) (by decide) (by decide) (show (-2147483648 : Int) ≤ v30 ∧ (v30 : Int) ≤ 2147483647 by omega)
              have b41 : 0 ≤ v38 ∧ v38 ≤ 9 := by omega
              refine w_t (np := 143) (l2 := [some (eR a0), some (eR a1), some (eI (a2)), some (eI (v8)), some (eI (v12)), some (eI (v16)), some (eI (3)), some (eJ (v27)), none, some (eI (v30)), some (eI (1))]) (s2 := [eI (v38), eJ (v27), eI (v12), eR a1]) rfl (e39 _ _) rfl ?_
              refine w_t (np := 145) (l2 := [some (eR a0), some (eR a1), some (eI (a2)), some (eI (v8)), some (eI (v12)), some (eI (v16)), some (eI (3)), some (eJ (v27)), none, some (eI (v30)), some (eI (1))]) (s2 := [eI (1), eI (v38), eJ (v27), eI (v12), eR a1]) rfl rfl rfl ?_
              refine w_cw (np := 148) (as := [eI (v12), eJ (v27), eI (v38), eI (1)]) (l2 := [some (eR a1), some (eI (v12)), some (eJ (v27)), none, some (eI (v38)), some (eI (1)), none, none, none, none, none]) (rest := []) rfl rfl rfl (Nat.ble_eq.mp rfl) rfl rfl rfl (I2.kd gA1 (by decide) (n := 7) rfl) rfl ?_
              refine s_138 (a1 := v12) (a4 := v38) (a5 := 1) I2 gA1 (by omega) b28 (by omega) (by decide) ?_
              intro m42 v45 I43 F44 b46
              have F47 : Fr l_99 0 0 g μ m42 := F4.t F44 rfl
              show ex_q (dt_fg L ρ) rc (d + 5, (99, 148, [some (eR a0), some (eR a1), some (eI (a2)), some (eI (v8)), some (eI (v12)), some (eI (v16)), some (eI (3)), some (eJ (v27)), none, some (eI (v30)), some (eI (1))], [eI (v45)]), f :: F, m42)
              refine b_ine (t1 := 155) (t2 := 151) rfl rfl rfl (ev_w_in (by omega) (by omega)) (fun g48 => ?_) (fun g48 => ?_)
              · have b49 : 1 ≤ v45 ∧ v45 ≤ 7 := by omega
                refine w_t (np := 156) (l2 := [some (eR a0), some (eR a1), some (eI (a2)), some (eI (v8)), some (eI (v12)), some (eI (v16)), some (eI (3)), some (eJ (v27)), none, some (eI (v30)), some (eI (1))]) (s2 := [eI (0)]) rfl rfl rfl ?_
                exact b_rz rfl rfl (Or.inl rfl) (K m42 (0) I43 F47 (by decide))
              · have b49 : 0 ≤ v45 ∧ v45 ≤ 0 := by omega
                refine w_t (np := 152) (l2 := [some (eR a0), some (eR a1), some (eI (a2)), some (eI (v8)), some (eI (v12)), some (eI (v16)), some (eI (3)), some (eJ (v27)), none, some (eI (v30)), some (eI (1))]) (s2 := [eI (1)]) rfl rfl rfl ?_
                refine w_go (t1 := 156) rfl rfl ?_
                exact b_rz rfl rfl (Or.inr rfl) (K m42 (1) I43 F47 (by decide))
      · have b24 : 1 ≤ v16 ∧ v16 ≤ 1 := by omega
        refine w_t (np := 54) (l2 := [some (eR a0), some (eR a1), some (eI (a2)), some (eI (v8)), some (eI (v12)), some (eI (v16)), some (eI (3)), some (eJ (v21)), none, some (eI (v5)), none]) (s2 := [eR a0]) rfl (s_an rfl (pos_g I2 gA0 (by decide))) rfl ?_
        refine w_gf (np := 57) (v := eI (v5)) rfl rfl (I2.kd gA0 (by decide) (n := 9) rfl) (by rw [e6]; rfl) ?_
        refine w_t (np := 59) (l2 := [some (eR a0), some (eR a1), some (eI (a2)), some (eI (v8)), some (eI (v12)), some (eI (v16)), some (eI (3)), some (eJ (v21)), none, some (eI (v5)), none]) (s2 := [eI (3), eI (v5)]) rfl rfl rfl ?_
        obtain ⟨v24, e25⟩ : ∃ zz : Int, zz = (v5) + (3) := ⟨_, rfl⟩
        have b26 : 2 ≤ v24 ∧ v24 ≤ 12 := by omega
        refine w_t (np := 60) (l2 := [some (eR a0), some (eR a1), some (eI (a2)), some (eI (v8)), some (eI (v12)), some (eI (v16)), some (eI (3)), some (eJ (v21)), none, some (eI (v5)), none]) (s2 := [eI (v24)]) rfl (b_iadd (by rw [← e25]; exact ev_w_in (by omega) (by omega))) rfl ?_
        refine w_t (np := 62) (l2 := [some (eR a0), some (eR a1), some (eI (a2)), some (eI (v8)), some (eI (v12)), some (eI (v16)), some (eI (3)), some (eJ (v21)), none, some (eI (v24)), none]) (s2 := []) rfl rfl rfl ?_
        refine w_go (t1 := 106) rfl rfl ?_
        refine w_t (np := 108) (l2 := [some (eR a0), some (eR a1), some (eI (a2)), some (eI (v8)), some (eI (v12)), some (eI (v16)), some (eI (3)), some (eJ (v21)), none, some (eI (v24)), none]) (s2 := [eI (v16)]) rfl rfl rfl ?_
        refine w_t (np := 109) (l2 := [some (eR a0), some (eR a1), some (eI (a2)), some (eI (v8)), some (eI (v12)), some (eI (v16)), some (eI (3)), some (eJ (v21)), none, some (eI (v24)), none]) (s2 := [eI (1), eI (v16)]) rfl rfl rfl ?_
        refine b_ceq (t1 := 118) (t2 := 112) rfl rfl rfl (ev_w_in (by omega) (by omega)) rfl (fun g27 => ?_) (fun g27 => False.elim (by omega))
        refine w_t (np := 119) (l2 := [some (eR a0), some (eR a1), some (eI (a2)), some (eI (v8)), some (eI (v12)), some (eI (v16)), some (eI (3)), some (eJ (v21)), none, some (eI (v24)), none]) (s2 := [eI (1)]) rfl rfl rfl ?_
        refine w_go (t1 := 123) rfl rfl ?_
        refine w_t (np := 125) (l2 := [some (eR a0), some (eR a1), some (eI (a2)), some (eI (v8)), some (eI (v12)), some (eI (v16)), some (eI (3)), some (eJ (v21)), none, some (eI (v24)), some (eI (1))]) (s2 := []) rfl rfl rfl ?_
        refine w_t (np := 127) (l2 := [some (eR a0), some (eR a1), some (eI (a2)), some (eI (v8)), some (eI (v12)), some (eI (v16)), some (eI (3)), some (eJ (v21)), none, some (eI (v24)), some (eI (1))]) (s2 := [eJ (v21)]) rfl rfl rfl ?_
        refine w_cu (np := 130) (as := [eJ (v21)]) (l2 := [some (eJ (v21)), none]) (rest := []) rfl rfl rfl (Nat.ble_eq.mp rfl) rfl rfl rfl rfl ?_
        refine s_140 I2 b22 ?_
        intro v28 b29
        show ex_q (dt_fg L ρ) rc (d + 5, (99, 130, [some (eR a0), some (eR a1), some (eI (a2)), some (eI (v8)), some (eI (v12)), some (eI (v16)), some (eI (3)), some (eJ (v21)), none, some (eI (v24)), some (eI (1))], [eI (v28)]), f :: F, m1)
        refine b_ieq (t1 := 155) (t2 := 133) rfl rfl rfl (ev_w_in (by omega) (by omega)) (fun g30 => ?_) (fun g30 => ?_)
        · have b31 : 0 ≤ v28 ∧ v28 ≤ 0 := by omega
          refine w_t (np := 156) (l2 := [some (eR a0), some (eR a1), some (eI (a2)), some (eI (v8)), some (eI (v12)), some (eI (v16)), some (eI (3)), some (eJ (v21)), none, some (eI (v24)), some (eI (1))]) (s2 := [eI (0)]) rfl rfl rfl ?_
          exact b_rz rfl rfl (Or.inl rfl) (K m1 (0) I2 F4 (by decide))
        · have b31 : 1 ≤ v28 ∧ v28 ≤ 1 := by omega
          refine w_t (np := 134) (l2 := [some (eR a0), some (eR a1), some (eI (a2)), some (eI (v8)), some (eI (v12)), some (eI (v16)), some (eI (3)), some (eJ (v21)), none, some (eI (v24)), some (eI (1))]) (s2 := [eR a1]) rfl (s_an rfl (pos_g I2 gA1 (by decide))) rfl ?_
          refine w_t (np := 136) (l2 := [some (eR a0), some (eR a1), some (eI (a2)), some (eI (v8)), some (eI (v12)), some (eI (v16)), some (eI (3)), some (eJ (v21)), none, some (eI (v24)), some (eI (1))]) (s2 := [eI (v12), eR a1]) rfl rfl rfl ?_
          refine w_t (np := 138) (l2 := [some (eR a0), some (eR a1), some (eI (a2)), some (eI (v8)), some (eI (v12)), some (eI (v16)), some (eI (3)), some (eJ (v21)), none, some (eI (v24)), some (eI (1))]) (s2 := [eJ (v21), eI (v12), eR a1]) rfl rfl rfl ?_
          refine w_t (np := 140) (l2 := [some (eR a0), some (eR a1), some (eI (a2)), some (eI (v8)), some (eI (v12)), some (eI (v16)), some (eI (3)), some (eJ (v21)), none, some (eI (v24)), some (eI (1))]) (s2 := [eI (v24), eJ (v21), eI (v12), eR a1]) rfl rfl rfl ?_
          refine w_t (np := 142) (l2 := [some (eR a0), some (eR a1), some (eI (a2)), some (eI (v8)), some (eI (v12)), some (eI (v16)), some (eI (3)), some (eJ (v21)), none, some (eI (v24)), some (eI (1))]) (s2 := [eI (10), eI (v24), eJ (v21), eI (v12), eR a1]) rfl rfl rfl ?_
          obtain ⟨v31, e32, b33⟩ := h_irem (a := v24) (k := 10) (by decide) (by decide) (show (-2147483648 : Int) ≤ v24 ∧ (v24 : Int) ≤ 2147483647 by omega)
          have b34 : 0 ≤ v31 ∧ v31 ≤ 9 := by omega
          refine w_t (np := 143) (l2 := [some (eR a0), some (eR a1), some (eI (a2)), some (eI (v8)), some (eI (v12)), some (eI (v16)), some (eI (3)), some (eJ (v21)), none, some (eI (v24)), some (eI (1))]) (s2 := [eI (v31), eJ (v21), eI (v12), eR a1]) rfl (e32 _ _) rfl ?_
          refine w_t (np := 145) (l2 := [some (eR a0), some (eR a1), some (eI (a2)), some (eI (v8)), some (eI (v12)), some (eI (v16)), some (eI (3)), some (eJ (v21)), none, some (eI (v24)), some (eI (1))]) (s2 := [eI (1), eI (v31), eJ (v21), eI (v12), eR a1]) rfl rfl rfl ?_
          refine w_cw (np := 148) (as := [eI (v12), eJ (v21), eI (v31), eI (1)]) (l2 := [some (eR a1), some (eI (v12)), some (eJ (v21)), none, some (eI (v31)), some (eI (1)), none, none, none, none, none]) (rest := []) rfl rfl rfl (Nat.ble_eq.mp rfl) rfl rfl rfl (I2.kd gA1 (by decide) (n := 7) rfl) rfl ?_
          refine s_138 (a1 := v12) (a4 := v31) (a5 := 1) I2 gA1 (by omega) b22 (by omega) (by decide) ?_
          intro m35 v38 I36 F37 b39
          have F40 : Fr l_99 0 0 g μ m35 := F4.t F37 rfl
          show ex_q (dt_fg L ρ) rc (d + 5, (99, 148, [some (eR a0), some (eR a1), some (eI (a2)), some (eI (v8)), some (eI (v12)), some (eI (v16)), some (eI (3)), some (eJ (v21)), none, some (eI (v24)), some (eI (1))], [eI (v38)]), f :: F, m35)
          refine b_ine (t1 := 155) (t2 := 151) rfl rfl rfl (ev_w_in (by omega) (by omega)) (fun g41 => ?_) (fun g41 => ?_)
          · have b42 : 1 ≤ v38 ∧ v38 ≤ 7 := by omega
            refine w_t (np := 156) (l2 := [some (eR a0), some (eR a1), some (eI (a2)), some (eI (v8)), some (eI (v12)), some (eI (v16)), some (eI (3)), some (eJ (v21)), none, some (eI (v24)), some (eI (1))]) (s2 := [eI (0)]) rfl rfl rfl ?_
            exact b_rz rfl rfl (Or.inl rfl) (K m35 (0) I36 F40 (by decide))
          · have b42 : 0 ≤ v38 ∧ v38 ≤ 0 := by omega
            refine w_t (np := 152) (l2 := [some (eR a0), some (eR a1), some (eI (a2)), some (eI (v8)), some (eI (v12)), some (eI (v16)), some (eI (3)), some (eJ (v21)), none, some (eI (v24)), some (eI (1))]) (s2 := [eI (1)]) rfl rfl rfl ?_
            refine w_go (t1 := 156) rfl rfl ?_
            exact b_rz rfl rfl (Or.inr rfl) (K m35 (1) I36 F40 (by decide))
    · have b21 : 0 ≤ v12 ∧ v12 ≤ 0 := by omega
      refine w_t (np := 5) (l2 := [some (eI (v12))]) (s2 := [eI (1)]) rfl rfl rfl ?_
      refine w_go (t1 := 9) rfl rfl ?_
      refine b_ri rfl rfl ?_
      show ex_q (dt_fg L ρ) rc (d + 5, (99, 32, [some (eR a0), some (eR a1), some (eI (a2)), some (eI (v8)), some (eI (v12)), some (eI (v16)), none, none, none, none, none], [eI (1)]), f :: F, m1)
      refine w_t (np := 34) (l2 := [some (eR a0), some (eR a1), some (eI (a2)), some (eI (v8)), some (eI (v12)), some (eI (v16)), some (eI (1)), none, none, none, none]) (s2 := []) rfl rfl rfl ?_
      refine w_t (np := 35) (l2 := [some (eR a0), some (eR a1), some (eI (a2)), some (eI (v8)), some (eI (v12)), some (eI (v16)), some (eI (1)), none, none, none, none]) (s2 := [eR a1]) rfl (s_an rfl (pos_g I2 gA1 (by decide))) rfl ?_
      refine w_t (np := 36) (l2 := [some (eR a0), some (eR a1), some (eI (a2)), some (eI (v8)), some (eI (v12)), some (eI (v16)), some (eI (1)), none, none, none, none]) (s2 := [eI (a2), eR a1]) rfl rfl rfl ?_
      refine w_cw (np := 39) (as := [eI (a2)]) (l2 := [some (eR a1), some (eI (a2))]) (rest := []) rfl rfl rfl (Nat.ble_eq.mp rfl) rfl rfl rfl (I2.kd gA1 (by decide) (n := 7) rfl) rfl ?_
      refine s_132 (a1 := a2) I2 gA1 (by omega) ?_
      intro v21 b22
      show ex_q (dt_fg L ρ) rc (d + 5, (99, 39, [some (eR a0), some (eR a1), some (eI (a2)), some (eI (v8)), some (eI (v12)), some (eI (v16)), some (eI (1)), none, none, none, none], [eJ (v21)]), f :: F, m1)
      refine w_t (np := 41) (l2 := [some (eR a0), some (eR a1), some (eI (a2)), some (eI (v8)), some (eI (v12)), some (eI (v16)), some (eI (1)), some (eJ (v21)), none, none, none]) (s2 := []) rfl rfl rfl ?_
      refine w_t (np := 42) (l2 := [some (eR a0), some (eR a1), some (eI (a2)), some (eI (v8)), some (eI (v12)), some (eI (v16)), some (eI (1)), some (eJ (v21)), none, none, none]) (s2 := [eR a0]) rfl (s_an rfl (pos_g I2 gA0 (by decide))) rfl ?_
      refine w_gf (np := 45) (v := eI (v5)) rfl rfl (I2.kd gA0 (by decide) (n := 9) rfl) (by rw [e6]; rfl) ?_
      refine w_t (np := 47) (l2 := [some (eR a0), some (eR a1), some (eI (a2)), some (eI (v8)), some (eI (v12)), some (eI (v16)), some (eI (1)), some (eJ (v21)), none, some (eI (v5)), none]) (s2 := []) rfl rfl rfl ?_
      refine w_t (np := 49) (l2 := [some (eR a0), some (eR a1), some (eI (a2)), some (eI (v8)), some (eI (v12)), some (eI (v16)), some (eI (1)), some (eJ (v21)), none, some (eI (v5)), none]) (s2 := [eI (v16)]) rfl rfl rfl ?_
      refine w_t (np := 50) (l2 := [some (eR a0), some (eR a1), some (eI (a2)), some (eI (v8)), some (eI (v12)), some (eI (v16)), some (eI (1)), some (eJ (v21)), none, some (eI (v5)), none]) (s2 := [eI (1), eI (v16)]) rfl rfl rfl ?_
      refine b_cne (t1 := 65) (t2 := 53) rfl rfl rfl (ev_w_in (by omega) (by omega)) rfl (fun g23 => ?_) (fun g23 => ?_)
      · refine w_t (np := 67) (l2 := [some (eR a0), some (eR a1), some (eI (a2)), some (eI (v8)), some (eI (v12)), some (eI (v16)), some (eI (1)), some (eJ (v21)), none, some (eI (v5)), none]) (s2 := [eI (v16)]) rfl rfl rfl ?_
        refine w_t (np := 68) (l2 := [some (eR a0), some (eR a1), some (eI (a2)), some (eI (v8)), some (eI (v12)), some (eI (v16)), some (eI (1)), some (eJ (v21)), none, some (eI (v5)), none]) (s2 := [eI (1), eI (v16)]) rfl rfl rfl ?_
        refine b_cle (t1 := 106) (t2 := 71) rfl rfl rfl (ev_w_in (by omega) (by omega)) rfl (fun g24 => ?_) (fun g24 => ?_)
        · have b25 : 0 ≤ v16 ∧ v16 ≤ 1 := by omega
          refine w_t (np := 108) (l2 := [some (eR a0), some (eR a1), some (eI (a2)), some (eI (v8)), some (eI (v12)), some (eI (v16)), some (eI (1)), some (eJ (v21)), none, some (eI (v5)), none]) (s2 := [eI (v16)]) rfl rfl rfl ?_
          refine w_t (np := 109) (l2 := [some (eR a0), some (eR a1), some (eI (a2)), some (eI (v8)), some (eI (v12)), some (eI (v16)), some (eI (1)), some (eJ (v21)), none, some (eI (v5)), none]) (s2 := [eI (1), eI (v16)]) rfl rfl rfl ?_
          refine b_ceq (t1 := 118) (t2 := 112) rfl rfl rfl (ev_w_in (by omega) (by omega)) rfl (fun g25 => False.elim (by omega)) (fun g25 => ?_)
          have b26 : 0 ≤ v16 ∧ v16 ≤ 0 := by omega
          refine w_t (np := 114) (l2 := [some (eR a0), some (eR a1), some (eI (a2)), some (eI (v8)), some (eI (v12)), some (eI (v16)), some (eI (1)), some (eJ (v21)), none, some (eI (v5)), none]) (s2 := [eI (v16)]) rfl rfl rfl ?_
          refine w_t (np := 115) (l2 := [some (eR a0), some (eR a1), some (eI (a2)), some (eI (v8)), some (eI (v12)), some (eI (v16)), some (eI (1)), some (eJ (v21)), none, some (eI (v5)), none]) (s2 := [eI (2), eI (v16)]) rfl rfl rfl ?_
          refine b_cne (t1 := 122) (t2 := 118) rfl rfl rfl (ev_w_in (by omega) (by omega)) rfl (fun g27 => ?_) (fun g27 => False.elim (by omega))
          refine w_t (np := 123) (l2 := [some (eR a0), some (eR a1), some (eI (a2)), some (eI (v8)), some (eI (v12)), some (eI (v16)), some (eI (1)), some (eJ (v21)), none, some (eI (v5)), none]) (s2 := [eI (0)]) rfl rfl rfl ?_
          refine w_t (np := 125) (l2 := [some (eR a0), some (eR a1), some (eI (a2)), some (eI (v8)), some (eI (v12)), some (eI (v16)), some (eI (1)), some (eJ (v21)), none, some (eI (v5)), some (eI (0))]) (s2 := []) rfl rfl rfl ?_
          refine w_t (np := 127) (l2 := [some (eR a0), some (eR a1), some (eI (a2)), some (eI (v8)), some (eI (v12)), some (eI (v16)), some (eI (1)), some (eJ (v21)), none, some (eI (v5)), some (eI (0))]) (s2 := [eJ (v21)]) rfl rfl rfl ?_
          refine w_cu (np := 130) (as := [eJ (v21)]) (l2 := [some (eJ (v21)), none]) (rest := []) rfl rfl rfl (Nat.ble_eq.mp rfl) rfl rfl rfl rfl ?_
          refine s_140 I2 b22 ?_
          intro v28 b29
          show ex_q (dt_fg L ρ) rc (d + 5, (99, 130, [some (eR a0), some (eR a1), some (eI (a2)), some (eI (v8)), some (eI (v12)), some (eI (v16)), some (eI (1)), some (eJ (v21)), none, some (eI (v5)), some (eI (0))], [eI (v28)]), f :: F, m1)
          refine b_ieq (t1 := 155) (t2 := 133) rfl rfl rfl (ev_w_in (by omega) (by omega)) (fun g30 => ?_) (fun g30 => ?_)
          · have b31 : 0 ≤ v28 ∧ v28 ≤ 0 := by omega
            refine w_t (np := 156) (l2 := [some (eR a0), some (eR a1), some (eI (a2)), some (eI (v8)), some (eI (v12)), some (eI (v16)), some (eI (1)), some (eJ (v21)), none, some (eI (v5)), some (eI (0))]) (s2 := [eI (0)]) rfl rfl rfl ?_
            exact b_rz rfl rfl (Or.inl rfl) (K m1 (0) I2 F4 (by decide))
          · have b31 : 1 ≤ v28 ∧ v28 ≤ 1 := by omega
            refine w_t (np := 134) (l2 := [some (eR a0), some (eR a1), some (eI (a2)), some (eI (v8)), some (eI (v12)), some (eI (v16)), some (eI (1)), some (eJ (v21)), none, some (eI (v5)), some (eI (0))]) (s2 := [eR a1]) rfl (s_an rfl (pos_g I2 gA1 (by decide))) rfl ?_
            refine w_t (np := 136) (l2 := [some (eR a0), some (eR a1), some (eI (a2)), some (eI (v8)), some (eI (v12)), some (eI (v16)), some (eI (1)), some (eJ (v21)), none, some (eI (v5)), some (eI (0))]) (s2 := [eI (v12), eR a1]) rfl rfl rfl ?_
            refine w_t (np := 138) (l2 := [some (eR a0), some (eR a1), some (eI (a2)), some (eI (v8)), some (eI (v12)), some (eI (v16)), some (eI (1)), some (eJ (v21)), none, some (eI (v5)), some (eI (0))]) (s2 := [eJ (v21), eI (v12), eR a1]) rfl rfl rfl ?_
            refine w_t (np := 140) (l2 := [some (eR a0), some (eR a1), some (eI (a2)), some (eI (v8)), some (eI (v12)), some (eI (v16)), some (eI (1)), some (eJ (v21)), none, some (eI (v5)), some (eI (0))]) (s2 := [eI (v5), eJ (v21), eI (v12), eR a1]) rfl rfl rfl ?_
            refine w_t (np := 142) (l2 := [some (eR a0), some (eR a1), some (eI (a2)), some (eI (v8)), some (eI (v12)), some (eI (v16)), some (eI (1)), some (eJ (v21)), none, some (eI (v5)), some (eI (0))]) (s2 := [eI (10), eI (v5), eJ (v21), eI (v12), eR a1]) rfl rfl rfl ?_
            obtain ⟨v31, e32, b33⟩ := h_irem (a := v5) (k := 10) (by decide) (by decide) (show (-2147483648 : Int) ≤ v5 ∧ (v5 : Int) ≤ 2147483647 by omega)
            have b34 : -1 ≤ v31 ∧ v31 ≤ 9 := by omega
            refine w_t (np := 143) (l2 := [some (eR a0), some (eR a1), some (eI (a2)), some (eI (v8)), some (eI (v12)), some (eI (v16)), some (eI (1)), some (eJ (v21)), none, some (eI (v5)), some (eI (0))]) (s2 := [eI (v31), eJ (v21), eI (v12), eR a1]) rfl (e32 _ _) rfl ?_
            refine w_t (np := 145) (l2 := [some (eR a0), some (eR a1), some (eI (a2)), some (eI (v8)), some (eI (v12)), some (eI (v16)), some (eI (1)), some (eJ (v21)), none, some (eI (v5)), some (eI (0))]) (s2 := [eI (0), eI (v31), eJ (v21), eI (v12), eR a1]) rfl rfl rfl ?_
            refine w_cw (np := 148) (as := [eI (v12), eJ (v21), eI (v31), eI (0)]) (l2 := [some (eR a1), some (eI (v12)), some (eJ (v21)), none, some (eI (v31)), some (eI (0)), none, none, none, none, none]) (rest := []) rfl rfl rfl (Nat.ble_eq.mp rfl) rfl rfl rfl (I2.kd gA1 (by decide) (n := 7) rfl) rfl ?_
            refine s_138 (a1 := v12) (a4 := v31) (a5 := 0) I2 gA1 (by omega) b22 (by omega) (by decide) ?_
            intro m35 v38 I36 F37 b39
            have F40 : Fr l_99 0 0 g μ m35 := F4.t F37 rfl
            show ex_q (dt_fg L ρ) rc (d + 5, (99, 148, [some (eR a0), some (eR a1), some (eI (a2)), some (eI (v8)), some (eI (v12)), some (eI (v16)), some (eI (1)), some (eJ (v21)), none, some (eI (v5)), some (eI (0))], [eI (v38)]), f :: F, m35)
            refine b_ine (t1 := 155) (t2 := 151) rfl rfl rfl (ev_w_in (by omega) (by omega)) (fun g41 => ?_) (fun g41 => ?_)
            · have b42 : 1 ≤ v38 ∧ v38 ≤ 7 := by omega
              refine w_t (np := 156) (l2 := [some (eR a0), some (eR a1), some (eI (a2)), some (eI (v8)), some (eI (v12)), some (eI (v16)), some (eI (1)), some (eJ (v21)), none, some (eI (v5)), some (eI (0))]) (s2 := [eI (0)]) rfl rfl rfl ?_
              exact b_rz rfl rfl (Or.inl rfl) (K m35 (0) I36 F40 (by decide))
            · have b42 : 0 ≤ v38 ∧ v38 ≤ 0 := by omega
              refine w_t (np := 152) (l2 := [some (eR a0), some (eR a1), some (eI (a2)), some (eI (v8)), some (eI (v12)), some (eI (v16)), some (eI (1)), some (eJ (v21)), none, some (eI (v5)), some (eI (0))]) (s2 := [eI (1)]) rfl rfl rfl ?_
              refine w_go (t1 := 156) rfl rfl ?_
              exact b_rz rfl rfl (Or.inr rfl) (K m35 (1) I36 F40 (by decide))
        · have b25 : 2 ≤ v16 ∧ v16 ≤ 3 := by omega
          refine w_t (np := 73) (l2 := [some (eR a0), some (eR a1), some (eI (a2)), some (eI (v8)), some (eI (v12)), some (eI (v16)), some (eI (1)), some (eJ (v21)), none, some (eI (v5)), none]) (s2 := [eJ (v21)]) rfl rfl rfl ?_
          refine w_t (np := 74) (l2 := [some (eR a0), some (eR a1), some (eI (a2)), some (eI (v8)), some (eI (v12)), some (eI (v16)), some (eI (1)), some (eJ (v21)), none, some (eI (v5)), none]) (s2 := [eR a0, eJ (v21)]) rfl (s_an rfl (pos_g I2 gA0 (by decide))) rfl ?_
          refine w_gf (np := 77) (v := eI (v5)) rfl rfl (I2.kd gA0 (by decide) (n := 9) rfl) (by rw [e6]; rfl) ?_
          refine w_cu (np := 80) (as := [eI (v5)]) (l2 := [some (eI (v5))]) (rest := [eJ (v21)]) rfl rfl rfl (Nat.ble_eq.mp rfl) rfl rfl rfl rfl ?_
          refine s_74 (a0 := v5) I2 (by omega) ?_
          intro v25 b26
          show ex_q (dt_fg L ρ) rc (d + 5, (99, 80, [some (eR a0), some (eR a1), some (eI (a2)), some (eI (v8)), some (eI (v12)), some (eI (v16)), some (eI (1)), some (eJ (v21)), none, some (eI (v5)), none], [eJ (v25), eJ (v21)]), f :: F, m1)
          refine w_cu (np := 83) (as := [eJ (v21), eJ (v25)]) (l2 := [some (eJ (v21)), none, some (eJ (v25)), none]) (rest := []) rfl rfl rfl (Nat.ble_eq.mp rfl) rfl rfl rfl rfl ?_
          refine s_75 I2 b22 b26 ?_
          intro v27 b28
          show ex_q (dt_fg L ρ) rc (d + 5, (99, 83, [some (eR a0), some (eR a1), some (eI (a2)), some (eI (v8)), some (eI (v12)), some (eI (v16)), some (eI (1)), some (eJ (v21)), none, some (eI (v5)), none], [eJ (v27)]), f :: F, m1)
          refine w_t (np := 85) (l2 := [some (eR a0), some (eR a1), some (eI (a2)), some (eI (v8)), some (eI (v12)), some (eI (v16)), some (eI (1)), some (eJ (v27)), none, some (eI (v5)), none]) (s2 := []) rfl rfl rfl ?_
          refine w_t (np := 86) (l2 := [some (eR a0), some (eR a1), some (eI (a2)), some (eI (v8)), some (eI (v12)), some (eI (v16)), some (eI (1)), some (eJ (v27)), none, some (eI (v5)), none]) (s2 := [eR a0]) rfl (s_an rfl (pos_g I2 gA0 (by decide))) rfl ?_
          refine w_gf (np := 89) (v := eI (v5)) rfl rfl (I2.kd gA0 (by decide) (n := 9) rfl) (by rw [e6]; rfl) ?_
          refine w_t (np := 91) (l2 := [some (eR a0), some (eR a1), some (eI (a2)), some (eI (v8)), some (eI (v12)), some (eI (v16)), some (eI (1)), some (eJ (v27)), none, some (eI (v5)), none]) (s2 := [eI (v16), eI (v5)]) rfl rfl rfl ?_
          refine w_t (np := 92) (l2 := [some (eR a0), some (eR a1), some (eI (a2)), some (eI (v8)), some (eI (v12)), some (eI (v16)), some (eI (1)), some (eJ (v27)), none, some (eI (v5)), none]) (s2 := [eI (2), eI (v16), eI (v5)]) rfl rfl rfl ?_
          refine b_cne (t1 := 99) (t2 := 95) rfl rfl rfl (ev_w_in (by omega) (by omega)) rfl (fun g29 => ?_) (fun g29 => ?_)
          · have b30 : 3 ≤ v16 ∧ v16 ≤ 3 := by omega
            refine w_t (np := 100) (l2 := [some (eR a0), some (eR a1), some (eI (a2)), some (eI (v8)), some (eI (v12)), some (eI (v16)), some (eI (1)), some (eJ (v27)), none, some (eI (v5)), none]) (s2 := [eI (5), eI (v5)]) rfl rfl rfl ?_
            refine w_t (np := 102) (l2 := [some (eR a0), some (eR a1), some (eI (a2)), some (eI (v8)), some (eI (v12)), some (eI (v16)), some (eI (1)), some (eJ (v27)), none, some (eI (v5)), none]) (s2 := [eI (1), eI (5), eI (v5)]) rfl rfl rfl ?_
            refine w_t (np := 103) (l2 := [some (eR a0), some (eR a1), some (eI (a2)), some (eI (v8)), some (eI (v12)), some (eI (v16)), some (eI (1)), some (eJ (v27)), none, some (eI (v5)), none]) (s2 := [eI (4), eI (v5)]) rfl (b_isub rfl) rfl ?_
            obtain ⟨v30, e31⟩ : ∃ zz : Int, zz = (v5) + (4) := ⟨_, rfl⟩
            have b32 : 3 ≤ v30 ∧ v30 ≤ 13 := by omega
            refine w_t (np := 104) (l2 := [some (eR a0), some (eR a1), some (eI (a2)), some (eI (v8)), some (eI (v12)), some (eI (v16)), some (eI (1)), some (eJ (v27)), none, some (eI (v5)), none]) (s2 := [eI (v30)]) rfl (b_iadd (by rw [← e31]; exact ev_w_in (by omega) (by omega))) rfl ?_
            refine w_t (np := 106) (l2 := [some (eR a0), some (eR a1), some (eI (a2)), some (eI (v8)), some (eI (v12)), some (eI (v16)), some (eI (1)), some (eJ (v27)), none, some (eI (v30)), none]) (s2 := []) rfl rfl rfl ?_
            refine w_t (np := 108) (l2 := [some (eR a0), some (eR a1), some (eI (a2)), some (eI (v8)), some (eI (v12)), some (eI (v16)), some (eI (1)), some (eJ (v27)), none, some (eI (v30)), none]) (s2 := [eI (v16)]) rfl rfl rfl ?_
            refine w_t (np := 109) (l2 := [some (eR a0), some (eR a1), some (eI (a2)), some (eI (v8)), some (eI (v12)), some (eI (v16)), some (eI (1)), some (eJ (v27)), none, some (eI (v30)), none]) (s2 := [eI (1), eI (v16)]) rfl rfl rfl ?_
            refine b_ceq (t1 := 118) (t2 := 112) rfl rfl rfl (ev_w_in (by omega) (by omega)) rfl (fun g33 => False.elim (by omega)) (fun g33 => ?_)
            refine w_t (np := 114) (l2 := [some (eR a0), some (eR a1), some (eI (a2)), some (eI (v8)), some (eI (v12)), some (eI (v16)), some (eI (1)), some (eJ (v27)), none, some (eI (v30)), none]) (s2 := [eI (v16)]) rfl rfl rfl ?_
            refine w_t (np := 115) (l2 := [some (eR a0), some (eR a1), some (eI (a2)), some (eI (v8)), some (eI (v12)), some (eI (v16)), some (eI (1)), some (eJ (v27)), none, some (eI (v30)), none]) (s2 := [eI (2), eI (v16)]) rfl rfl rfl ?_
            refine b_cne (t1 := 122) (t2 := 118) rfl rfl rfl (ev_w_in (by omega) (by omega)) rfl (fun g34 => ?_) (fun g34 => False.elim (by omega))
            refine w_t (np := 123) (l2 := [some (eR a0), some (eR a1), some (eI (a2)), some (eI (v8)), some (eI (v12)), some (eI (v16)), some (eI (1)), some (eJ (v27)), none, some (eI (v30)), none]) (s2 := [eI (0)]) rfl rfl rfl ?_
            refine w_t (np := 125) (l2 := [some (eR a0), some (eR a1), some (eI (a2)), some (eI (v8)), some (eI (v12)), some (eI (v16)), some (eI (1)), some (eJ (v27)), none, some (eI (v30)), some (eI (0))]) (s2 := []) rfl rfl rfl ?_
            refine w_t (np := 127) (l2 := [some (eR a0), some (eR a1), some (eI (a2)), some (eI (v8)), some (eI (v12)), some (eI (v16)), some (eI (1)), some (eJ (v27)), none, some (eI (v30)), some (eI (0))]) (s2 := [eJ (v27)]) rfl rfl rfl ?_
            refine w_cu (np := 130) (as := [eJ (v27)]) (l2 := [some (eJ (v27)), none]) (rest := []) rfl rfl rfl (Nat.ble_eq.mp rfl) rfl rfl rfl rfl ?_
            refine s_140 I2 b28 ?_
            intro v35 b36
            show ex_q (dt_fg L ρ) rc (d + 5, (99, 130, [some (eR a0), some (eR a1), some (eI (a2)), some (eI (v8)), some (eI (v12)), some (eI (v16)), some (eI (1)), some (eJ (v27)), none, some (eI (v30)), some (eI (0))], [eI (v35)]), f :: F, m1)
            refine b_ieq (t1 := 155) (t2 := 133) rfl rfl rfl (ev_w_in (by omega) (by omega)) (fun g37 => ?_) (fun g37 => ?_)
            · have b38 : 0 ≤ v35 ∧ v35 ≤ 0 := by omega
              refine w_t (np := 156) (l2 := [some (eR a0), some (eR a1), some (eI (a2)), some (eI (v8)), some (eI (v12)), some (eI (v16)), some (eI (1)), some (eJ (v27)), none, some (eI (v30)), some (eI (0))]) (s2 := [eI (0)]) rfl rfl rfl ?_
              exact b_rz rfl rfl (Or.inl rfl) (K m1 (0) I2 F4 (by decide))
            · have b38 : 1 ≤ v35 ∧ v35 ≤ 1 := by omega
              refine w_t (np := 134) (l2 := [some (eR a0), some (eR a1), some (eI (a2)), some (eI (v8)), some (eI (v12)), some (eI (v16)), some (eI (1)), some (eJ (v27)), none, some (eI (v30)), some (eI (0))]) (s2 := [eR a1]) rfl (s_an rfl (pos_g I2 gA1 (by decide))) rfl ?_
              refine w_t (np := 136) (l2 := [some (eR a0), some (eR a1), some (eI (a2)), some (eI (v8)), some (eI (v12)), some (eI (v16)), some (eI (1)), some (eJ (v27)), none, some (eI (v30)), some (eI (0))]) (s2 := [eI (v12), eR a1]) rfl rfl rfl ?_
              refine w_t (np := 138) (l2 := [some (eR a0), some (eR a1), some (eI (a2)), some (eI (v8)), some (eI (v12)), some (eI (v16)), some (eI (1)), some (eJ (v27)), none, some (eI (v30)), some (eI (0))]) (s2 := [eJ (v27), eI (v12), eR a1]) rfl rfl rfl ?_
              refine w_t (np := 140) (l2 := [some (eR a0), some (eR a1), some (eI (a2)), some (eI (v8)), some (eI (v12)), some (eI (v16)), some (eI (1)), some (eJ (v27)), none, some (eI (v30)), some (eI (0))]) (s2 := [eI (v30), eJ (v27), eI (v12), eR a1]) rfl rfl rfl ?_
              refine w_t (np := 142) (l2 := [some (eR a0), some (eR a1), some (eI (a2)), some (eI (v8)), some (eI (v12)), some (eI (v16)), some (eI (1)), some (eJ (v27)), none, some (eI (v30)), some (eI (0))]) (s2 := [eI (10), eI (v30), eJ (v27), eI (v12), eR a1]) rfl rfl rfl ?_
              obtain ⟨v38, e39, b40⟩ := h_irem (a := v30) (k := 10) (by decide) (by decide) (show (-2147483648 : Int) ≤ v30 ∧ (v30 : Int) ≤ 2147483647 by omega)
              have b41 : 0 ≤ v38 ∧ v38 ≤ 9 := by omega
              refine w_t (np := 143) (l2 := [some (eR a0), some (eR a1), some (eI (a2)), some (eI (v8)), some (eI (v12)), some (eI (v16)), some (eI (1)), some (eJ (v27)), none, some (eI (v30)), some (eI (0))]) (s2 := [eI (v38), eJ (v27), eI (v12), eR a1]) rfl (e39 _ _) rfl ?_
              refine w_t (np := 145) (l2 := [some (eR a0), some (eR a1), some (eI (a2)), some (eI (v8)), some (eI (v12)), some (eI (v16)), some (eI (1)), some (eJ (v27)), none, some (eI (v30)), some (eI (0))]) (s2 := [eI (0), eI (v38), eJ (v27), eI (v12), eR a1]) rfl rfl rfl ?_
              refine w_cw (np := 148) (as := [eI (v12), eJ (v27), eI (v38), eI (0)]) (l2 := [some (eR a1), some (eI (v12)), some (eJ (v27)), none, some (eI (v38)), some (eI (0)), none, none, none, none, none]) (rest := []) rfl rfl rfl (Nat.ble_eq.mp rfl) rfl rfl rfl (I2.kd gA1 (by decide) (n := 7) rfl) rfl ?_
              refine s_138 (a1 := v12) (a4 := v38) (a5 := 0) I2 gA1 (by omega) b28 (by omega) (by decide) ?_
              intro m42 v45 I43 F44 b46
              have F47 : Fr l_99 0 0 g μ m42 := F4.t F44 rfl
              show ex_q (dt_fg L ρ) rc (d + 5, (99, 148, [some (eR a0), some (eR a1), some (eI (a2)), some (eI (v8)), some (eI (v12)), some (eI (v16)), some (eI (1)), some (eJ (v27)), none, some (eI (v30)), some (eI (0))], [eI (v45)]), f :: F, m42)
              refine b_ine (t1 := 155) (t2 := 151) rfl rfl rfl (ev_w_in (by omega) (by omega)) (fun g48 => ?_) (fun g48 => ?_)
              · have b49 : 1 ≤ v45 ∧ v45 ≤ 7 := by omega
                refine w_t (np := 156) (l2 := [some (eR a0), some (eR a1), some (eI (a2)), some (eI (v8)), some (eI (v12)), some (eI (v16)), some (eI (1)), some (eJ (v27)), none, some (eI (v30)), some (eI (0))]) (s2 := [eI (0)]) rfl rfl rfl ?_
                exact b_rz rfl rfl (Or.inl rfl) (K m42 (0) I43 F47 (by decide))
              · have b49 : 0 ≤ v45 ∧ v45 ≤ 0 := by omega
                refine w_t (np := 152) (l2 := [some (eR a0), some (eR a1), some (eI (a2)), some (eI (v8)), some (eI (v12)), some (eI (v16)), some (eI (1)), some (eJ (v27)), none, some (eI (v30)), some (eI (0))]) (s2 := [eI (1)]) rfl rfl rfl ?_
                refine w_go (t1 := 156) rfl rfl ?_
                exact b_rz rfl rfl (Or.inr rfl) (K m42 (1) I43 F47 (by decide))
          · have b30 : 2 ≤ v16 ∧ v16 ≤ 2 := by omega
            refine w_t (np := 96) (l2 := [some (eR a0), some (eR a1), some (eI (a2)), some (eI (v8)), some (eI (v12)), some (eI (v16)), some (eI (1)), some (eJ (v27)), none, some (eI (v5)), none]) (s2 := [eI (5), eI (v5)]) rfl rfl rfl ?_
            refine w_go (t1 := 103) rfl rfl ?_
            obtain ⟨v30, e31⟩ : ∃ zz : Int, zz = (v5) + (5) := ⟨_, rfl⟩
            have b32 : 4 ≤ v30 ∧ v30 ≤ 14 := by omega
            refine w_t (np := 104) (l2 := [some (eR a0), some (eR a1), some (eI (a2)), some (eI (v8)), some (eI (v12)), some (eI (v16)), some (eI (1)), some (eJ (v27)), none, some (eI (v5)), none]) (s2 := [eI (v30)]) rfl (b_iadd (by rw [← e31]; exact ev_w_in (by omega) (by omega))) rfl ?_
            refine w_t (np := 106) (l2 := [some (eR a0), some (eR a1), some (eI (a2)), some (eI (v8)), some (eI (v12)), some (eI (v16)), some (eI (1)), some (eJ (v27)), none, some (eI (v30)), none]) (s2 := []) rfl rfl rfl ?_
            refine w_t (np := 108) (l2 := [some (eR a0), some (eR a1), some (eI (a2)), some (eI (v8)), some (eI (v12)), some (eI (v16)), some (eI (1)), some (eJ (v27)), none, some (eI (v30)), none]) (s2 := [eI (v16)]) rfl rfl rfl ?_
            refine w_t (np := 109) (l2 := [some (eR a0), some (eR a1), some (eI (a2)), some (eI (v8)), some (eI (v12)), some (eI (v16)), some (eI (1)), some (eJ (v27)), none, some (eI (v30)), none]) (s2 := [eI (1), eI (v16)]) rfl rfl rfl ?_
            refine b_ceq (t1 := 118) (t2 := 112) rfl rfl rfl (ev_w_in (by omega) (by omega)) rfl (fun g33 => False.elim (by omega)) (fun g33 => ?_)
            refine w_t (np := 114) (l2 := [some (eR a0), some (eR a1), some (eI (a2)), some (eI (v8)), some (eI (v12)), some (eI (v16)), some (eI (1)), some (eJ (v27)), none, some (eI (v30)), none]) (s2 := [eI (v16)]) rfl rfl rfl ?_
            refine w_t (np := 115) (l2 := [some (eR a0), some (eR a1), some (eI (a2)), some (eI (v8)), some (eI (v12)), some (eI (v16)), some (eI (1)), some (eJ (v27)), none, some (eI (v30)), none]) (s2 := [eI (2), eI (v16)]) rfl rfl rfl ?_
            refine b_cne (t1 := 122) (t2 := 118) rfl rfl rfl (ev_w_in (by omega) (by omega)) rfl (fun g34 => False.elim (by omega)) (fun g34 => ?_)
            refine w_t (np := 119) (l2 := [some (eR a0), some (eR a1), some (eI (a2)), some (eI (v8)), some (eI (v12)), some (eI (v16)), some (eI (1)), some (eJ (v27)), none, some (eI (v30)), none]) (s2 := [eI (1)]) rfl rfl rfl ?_
            refine w_go (t1 := 123) rfl rfl ?_
            refine w_t (np := 125) (l2 := [some (eR a0), some (eR a1), some (eI (a2)), some (eI (v8)), some (eI (v12)), some (eI (v16)), some (eI (1)), some (eJ (v27)), none, some (eI (v30)), some (eI (1))]) (s2 := []) rfl rfl rfl ?_
            refine w_t (np := 127) (l2 := [some (eR a0), some (eR a1), some (eI (a2)), some (eI (v8)), some (eI (v12)), some (eI (v16)), some (eI (1)), some (eJ (v27)), none, some (eI (v30)), some (eI (1))]) (s2 := [eJ (v27)]) rfl rfl rfl ?_
            refine w_cu (np := 130) (as := [eJ (v27)]) (l2 := [some (eJ (v27)), none]) (rest := []) rfl rfl rfl (Nat.ble_eq.mp rfl) rfl rfl rfl rfl ?_
            refine s_140 I2 b28 ?_
            intro v35 b36
            show ex_q (dt_fg L ρ) rc (d + 5, (99, 130, [some (eR a0), some (eR a1), some (eI (a2)), some (eI (v8)), some (eI (v12)), some (eI (v16)), some (eI (1)), some (eJ (v27)), none, some (eI (v30)), some (eI (1))], [eI (v35)]), f :: F, m1)
            refine b_ieq (t1 := 155) (t2 := 133) rfl rfl rfl (ev_w_in (by omega) (by omega)) (fun g37 => ?_) (fun g37 => ?_)
            · have b38 : 0 ≤ v35 ∧ v35 ≤ 0 := by omega
              refine w_t (np := 156) (l2 := [some (eR a0), some (eR a1), some (eI (a2)), some (eI (v8)), some (eI (v12)), some (eI (v16)), some (eI (1)), some (eJ (v27)), none, some (eI (v30)), some (eI (1))]) (s2 := [eI (0)]) rfl rfl rfl ?_
              exact b_rz rfl rfl (Or.inl rfl) (K m1 (0) I2 F4 (by decide))
            · have b38 : 1 ≤ v35 ∧ v35 ≤ 1 := by omega
              refine w_t (np := 134) (l2 := [some (eR a0), some (eR a1), some (eI (a2)), some (eI (v8)), some (eI (v12)), some (eI (v16)), some (eI (1)), some (eJ (v27)), none, some (eI (v30)), some (eI (1))]) (s2 := [eR a1]) rfl (s_an rfl (pos_g I2 gA1 (by decide))) rfl ?_
              refine w_t (np := 136) (l2 := [some (eR a0), some (eR a1), some (eI (a2)), some (eI (v8)), some (eI (v12)), some (eI (v16)), some (eI (1)), some (eJ (v27)), none, some (eI (v30)), some (eI (1))]) (s2 := [eI (v12), eR a1]) rfl rfl rfl ?_
              refine w_t (np := 138) (l2 := [some (eR a0), some (eR a1), some (eI (a2)), some (eI (v8)), some (eI (v12)), some (eI (v16)), some (eI (1)), some (eJ (v27)), none, some (eI (v30)), some (eI (1))]) (s2 := [eJ (v27), eI (v12), eR a1]) rfl rfl rfl ?_
              refine w_t (np := 140) (l2 := [some (eR a0), some (eR a1), some (eI (a2)), some (eI (v8)), some (eI (v12)), some (eI (v16)), some (eI (1)), some (eJ (v27)), none, some (eI (v30)), some (eI (1))]) (s2 := [eI (v30), eJ (v27), eI (v12), eR a1]) rfl rfl rfl ?_
              refine w_t (np := 142) (l2 := [some (eR a0), some (eR a1), some (eI (a2)), some (eI (v8)), some (eI (v12)), some (eI (v16)), some (eI (1)), some (eJ (v27)), none, some (eI (v30)), some (eI (1))]) (s2 := [eI (10), eI (v30), eJ (v27), eI (v12), eR a1]) rfl rfl rfl ?_
              obtain ⟨v38, e39, b40⟩ := h_irem (a := v30) (k := 10) (by decide) (by decide) (show (-2147483648 : Int) ≤ v30 ∧ (v30 : Int) ≤ 2147483647 by omega)
              have b41 : 0 ≤ v38 ∧ v38 ≤ 9 := by omega
              refine w_t (np := 143) (l2 := [some (eR a0), some (eR a1), some (eI (a2)), some (eI (v8)), some (eI (v12)), some (eI (v16)), some (eI (1)), some (eJ (v27)), none, some (eI (v30)), some (eI (1))]) (s2 := [eI (v38), eJ (v27), eI (v12), eR a1]) rfl (e39 _ _) rfl ?_
              refine w_t (np := 145) (l2 := [some (eR a0), some (eR a1), some (eI (a2)), some (eI (v8)), some (eI (v12)), some (eI (v16)), some (eI (1)), some (eJ (v27)), none, some (eI (v30)), some (eI (1))]) (s2 := [eI (1), eI (v38), eJ (v27), eI (v12), eR a1]) rfl rfl rfl ?_
              refine w_cw (np := 148) (as := [eI (v12), eJ (v27), eI (v38), eI (1)]) (l2 := [some (eR a1), some (eI (v12)), some (eJ (v27)), none, some (eI (v38)), some (eI (1)), none, none, none, none, none]) (rest := []) rfl rfl rfl (Nat.ble_eq.mp rfl) rfl rfl rfl (I2.kd gA1 (by decide) (n := 7) rfl) rfl ?_
              refine s_138 (a1 := v12) (a4 := v38) (a5 := 1) I2 gA1 (by omega) b28 (by omega) (by decide) ?_
              intro m42 v45 I43 F44 b46
              have F47 : Fr l_99 0 0 g μ m42 := F4.t F44 rfl
              show ex_q (dt_fg L ρ) rc (d + 5, (99, 148, [some (eR a0), some (eR a1), some (eI (a2)), some (eI (v8)), some (eI (v12)), some (eI (v16)), some (eI (1)), some (eJ (v27)), none, some (eI (v30)), some (eI (1))], [eI (v45)]), f :: F, m42)
              refine b_ine (t1 := 155) (t2 := 151) rfl rfl rfl (ev_w_in (by omega) (by omega)) (fun g48 => ?_) (fun g48 => ?_)
              · have b49 : 1 ≤ v45 ∧ v45 ≤ 7 := by omega
                refine w_t (np := 156) (l2 := [some (eR a0), some (eR a1), some (eI (a2)), some (eI (v8)), some (eI (v12)), some (eI (v16)), some (eI (1)), some (eJ (v27)), none, some (eI (v30)), some (eI (1))]) (s2 := [eI (0)]) rfl rfl rfl ?_
                exact b_rz rfl rfl (Or.inl rfl) (K m42 (0) I43 F47 (by decide))
              · have b49 : 0 ≤ v45 ∧ v45 ≤ 0 := by omega
                refine w_t (np := 152) (l2 := [some (eR a0), some (eR a1), some (eI (a2)), some (eI (v8)), some (eI (v12)), some (eI (v16)), some (eI (1)), some (eJ (v27)), none, some (eI (v30)), some (eI (1))]) (s2 := [eI (1)]) rfl rfl rfl ?_
                refine w_go (t1 := 156) rfl rfl ?_
                exact b_rz rfl rfl (Or.inr rfl) (K m42 (1) I43 F47 (by decide))
      · have b24 : 1 ≤ v16 ∧ v16 ≤ 1 := by omega
        refine w_t (np := 54) (l2 := [some (eR a0), some (eR a1), some (eI (a2)), some (eI (v8)), some (eI (v12)), some (eI (v16)), some (eI (1)), some (eJ (v21)), none, some (eI (v5)), none]) (s2 := [eR a0]) rfl (s_an rfl (pos_g I2 gA0 (by decide))) rfl ?_
        refine w_gf (np := 57) (v := eI (v5)) rfl rfl (I2.kd gA0 (by decide) (n := 9) rfl) (by rw [e6]; rfl) ?_
        refine w_t (np := 59) (l2 := [some (eR a0), some (eR a1), some (eI (a2)), some (eI (v8)), some (eI (v12)), some (eI (v16)), some (eI (1)), some (eJ (v21)), none, some (eI (v5)), none]) (s2 := [eI (1), eI (v5)]) rfl rfl rfl ?_
        obtain ⟨v24, e25⟩ : ∃ zz : Int, zz = (v5) + (1) := ⟨_, rfl⟩
        have b26 : 0 ≤ v24 ∧ v24 ≤ 10 := by omega
        refine w_t (np := 60) (l2 := [some (eR a0), some (eR a1), some (eI (a2)), some (eI (v8)), some (eI (v12)), some (eI (v16)), some (eI (1)), some (eJ (v21)), none, some (eI (v5)), none]) (s2 := [eI (v24)]) rfl (b_iadd (by rw [← e25]; exact ev_w_in (by omega) (by omega))) rfl ?_
        refine w_t (np := 62) (l2 := [some (eR a0), some (eR a1), some (eI (a2)), some (eI (v8)), some (eI (v12)), some (eI (v16)), some (eI (1)), some (eJ (v21)), none, some (eI (v24)), none]) (s2 := []) rfl rfl rfl ?_
        refine w_go (t1 := 106) rfl rfl ?_
        refine w_t (np := 108) (l2 := [some (eR a0), some (eR a1), some (eI (a2)), some (eI (v8)), some (eI (v12)), some (eI (v16)), some (eI (1)), some (eJ (v21)), none, some (eI (v24)), none]) (s2 := [eI (v16)]) rfl rfl rfl ?_
        refine w_t (np := 109) (l2 := [some (eR a0), some (eR a1), some (eI (a2)), some (eI (v8)), some (eI (v12)), some (eI (v16)), some (eI (1)), some (eJ (v21)), none, some (eI (v24)), none]) (s2 := [eI (1), eI (v16)]) rfl rfl rfl ?_
        refine b_ceq (t1 := 118) (t2 := 112) rfl rfl rfl (ev_w_in (by omega) (by omega)) rfl (fun g27 => ?_) (fun g27 => False.elim (by omega))
        refine w_t (np := 119) (l2 := [some (eR a0), some (eR a1), some (eI (a2)), some (eI (v8)), some (eI (v12)), some (eI (v16)), some (eI (1)), some (eJ (v21)), none, some (eI (v24)), none]) (s2 := [eI (1)]) rfl rfl rfl ?_
        refine w_go (t1 := 123) rfl rfl ?_
        refine w_t (np := 125) (l2 := [some (eR a0), some (eR a1), some (eI (a2)), some (eI (v8)), some (eI (v12)), some (eI (v16)), some (eI (1)), some (eJ (v21)), none, some (eI (v24)), some (eI (1))]) (s2 := []) rfl rfl rfl ?_
        refine w_t (np := 127) (l2 := [some (eR a0), some (eR a1), some (eI (a2)), some (eI (v8)), some (eI (v12)), some (eI (v16)), some (eI (1)), some (eJ (v21)), none, some (eI (v24)), some (eI (1))]) (s2 := [eJ (v21)]) rfl rfl rfl ?_
        refine w_cu (np := 130) (as := [eJ (v21)]) (l2 := [some (eJ (v21)), none]) (rest := []) rfl rfl rfl (Nat.ble_eq.mp rfl) rfl rfl rfl rfl ?_
        refine s_140 I2 b22 ?_
        intro v28 b29
        show ex_q (dt_fg L ρ) rc (d + 5, (99, 130, [some (eR a0), some (eR a1), some (eI (a2)), some (eI (v8)), some (eI (v12)), some (eI (v16)), some (eI (1)), some (eJ (v21)), none, some (eI (v24)), some (eI (1))], [eI (v28)]), f :: F, m1)
        refine b_ieq (t1 := 155) (t2 := 133) rfl rfl rfl (ev_w_in (by omega) (by omega)) (fun g30 => ?_) (fun g30 => ?_)
        · have b31 : 0 ≤ v28 ∧ v28 ≤ 0 := by omega
          refine w_t (np := 156) (l2 := [some (eR a0), some (eR a1), some (eI (a2)), some (eI (v8)), some (eI (v12)), some (eI (v16)), some (eI (1)), some (eJ (v21)), none, some (eI (v24)), some (eI (1))]) (s2 := [eI (0)]) rfl rfl rfl ?_
          exact b_rz rfl rfl (Or.inl rfl) (K m1 (0) I2 F4 (by decide))
        · have b31 : 1 ≤ v28 ∧ v28 ≤ 1 := by omega
          refine w_t (np := 134) (l2 := [some (eR a0), some (eR a1), some (eI (a2)), some (eI (v8)), some (eI (v12)), some (eI (v16)), some (eI (1)), some (eJ (v21)), none, some (eI (v24)), some (eI (1))]) (s2 := [eR a1]) rfl (s_an rfl (pos_g I2 gA1 (by decide))) rfl ?_
          refine w_t (np := 136) (l2 := [some (eR a0), some (eR a1), some (eI (a2)), some (eI (v8)), some (eI (v12)), some (eI (v16)), some (eI (1)), some (eJ (v21)), none, some (eI (v24)), some (eI (1))]) (s2 := [eI (v12), eR a1]) rfl rfl rfl ?_
          refine w_t (np := 138) (l2 := [some (eR a0), some (eR a1), some (eI (a2)), some (eI (v8)), some (eI (v12)), some (eI (v16)), some (eI (1)), some (eJ (v21)), none, some (eI (v24)), some (eI (1))]) (s2 := [eJ (v21), eI (v12), eR a1]) rfl rfl rfl ?_
          refine w_t (np := 140) (l2 := [some (eR a0), some (eR a1), some (eI (a2)), some (eI (v8)), some (eI (v12)), some (eI (v16)), some (eI (1)), some (eJ (v21)), none, some (eI (v24)), some (eI (1))]) (s2 := [eI (v24), eJ (v21), eI (v12), eR a1]) rfl rfl rfl ?_
          refine w_t (np := 142) (l2 := [some (eR a0), some (eR a1), some (eI (a2)), some (eI (v8)), some (eI (v12)), some (eI (v16)), some (eI (1)), some (eJ (v21)), none, some (eI (v24)), some (eI (1))]) (s2 := [eI (10), eI (v24), eJ (v21), eI (v12), eR a1]) rfl rfl rfl ?_
          obtain ⟨v31, e32, b33⟩ := h_irem (a := v24) (k := 10) (by decide) (by decide) (show (-2147483648 : Int) ≤ v24 ∧ (v24 : Int) ≤ 2147483647 by omega)
          have b34 : 0 ≤ v31 ∧ v31 ≤ 9 := by omega
          refine w_t (np := 143) (l2 := [some (eR a0), some (eR a1), some (eI (a2)), some (eI (v8)), some (eI (v12)), some (eI (v16)), some (eI (1)), some (eJ (v21)), none, some (eI (v24)), some (eI (1))]) (s2 := [eI (v31), eJ (v21), eI (v12), eR a1]) rfl (e32 _ _) rfl ?_
          refine w_t (np := 145) (l2 := [some (eR a0), some (eR a1), some (eI (a2)), some (eI (v8)), some (eI (v12)), some (eI (v16)), some (eI (1)), some (eJ (v21)), none, some (eI (v24)), some (eI (1))]) (s2 := [eI (1), eI (v31), eJ (v21), eI (v12), eR a1]) rfl rfl rfl ?_
          refine w_cw (np := 148) (as := [eI (v12), eJ (v21), eI (v31), eI (1)]) (l2 := [some (eR a1), some (eI (v12)), some (eJ (v21)), none, some (eI (v31)), some (eI (1)), none, none, none, none, none]) (rest := []) rfl rfl rfl (Nat.ble_eq.mp rfl) rfl rfl rfl (I2.kd gA1 (by decide) (n := 7) rfl) rfl ?_
          refine s_138 (a1 := v12) (a4 := v31) (a5 := 1) I2 gA1 (by omega) b22 (by omega) (by decide) ?_
          intro m35 v38 I36 F37 b39
          have F40 : Fr l_99 0 0 g μ m35 := F4.t F37 rfl
          show ex_q (dt_fg L ρ) rc (d + 5, (99, 148, [some (eR a0), some (eR a1), some (eI (a2)), some (eI (v8)), some (eI (v12)), some (eI (v16)), some (eI (1)), some (eJ (v21)), none, some (eI (v24)), some (eI (1))], [eI (v38)]), f :: F, m35)
          refine b_ine (t1 := 155) (t2 := 151) rfl rfl rfl (ev_w_in (by omega) (by omega)) (fun g41 => ?_) (fun g41 => ?_)
          · have b42 : 1 ≤ v38 ∧ v38 ≤ 7 := by omega
            refine w_t (np := 156) (l2 := [some (eR a0), some (eR a1), some (eI (a2)), some (eI (v8)), some (eI (v12)), some (eI (v16)), some (eI (1)), some (eJ (v21)), none, some (eI (v24)), some (eI (1))]) (s2 := [eI (0)]) rfl rfl rfl ?_
            exact b_rz rfl rfl (Or.inl rfl) (K m35 (0) I36 F40 (by decide))
          · have b42 : 0 ≤ v38 ∧ v38 ≤ 0 := by omega
            refine w_t (np := 152) (l2 := [some (eR a0), some (eR a1), some (eI (a2)), some (eI (v8)), some (eI (v12)), some (eI (v16)), some (eI (1)), some (eJ (v21)), none, some (eI (v24)), some (eI (1))]) (s2 := [eI (1)]) rfl rfl rfl ?_
            refine w_go (t1 := 156) rfl rfl ?_
            exact b_rz rfl rfl (Or.inr rfl) (K m35 (1) I36 F40 (by decide))
  · have b12 : -1 ≤ v8 ∧ v8 ≤ -1 := by omega
    refine w_t (np := 16) (l2 := [some (eR a0), some (eR a1), some (eI (a2)), some (eI (v8)), none, none, none, none, none, none, none]) (s2 := [eI (0)]) rfl rfl rfl ?_
    exact b_rz rfl rfl (Or.inl rfl) (K m1 (0) I2 F4 (by decide))
def l_185 : List Nat := [270, 7430, 7431, 8448, 7936, 8192, 7680, 8704]
theorem s_185 {L : Nat} {ρ : Nat → Int} {rc : eQ} {d : Nat} {f : eFr} {F : List eFr} {μ : eM} {g : Nat → Nat} {a0 : Nat} {a1 : Int} {a2 : Int} {a3 : Int} {a4 : Int} {a5 : Int} {a6 : Int} {a7 : Int} (hI : SI g μ) (gA0 : g a0 = 1) (bA1 : -2147483648 ≤ a1 ∧ a1 ≤ 2147483647) (bA2 : -2147483648 ≤ a2 ∧ a2 ≤ 2147483647) (bA3 : -2147483648 ≤ a3 ∧ a3 ≤ 2147483647) (bA4 : -2147483648 ≤ a4 ∧ a4 ≤ 2147483647) (bA5 : -2147483648 ≤ a5 ∧ a5 ≤ 2147483647) (bA6 : -2147483648 ≤ a6 ∧ a6 ≤ 2147483647) (bA7 : -2147483648 ≤ a7 ∧ a7 ≤ 2147483647) (K : ∀ (μ2 : eM) (v : Int), SI g μ2 → Fr l_185 0 0 g μ μ2 → (-2147483648 ≤ v ∧ v ≤ 2147483647) → ex_q (dt_fg L ρ) rc (d + 7, (f.1, f.2.1, f.2.2.1, eI v :: f.2.2.2), F, μ2)) : ex_q (dt_fg L ρ) rc (d + 6, (185, 0, [some (eR a0), some (eI (a1)), some (eI (a2)), some (eI (a3)), some (eI (a4)), some (eI (a5)), some (eI (a6)), some (eI (a7))], []), f :: F, μ) := by
  have F0 : Fr l_185 0 0 g μ μ := Fr.r
  refine w_t (np := 1) (l2 := [some (eR a0), some (eI (a1)), some (eI (a2)), some (eI (a3)), some (eI (a4)), some (eI (a5)), some (eI (a6)), some (eI (a7))]) (s2 := [eI (a1)]) rfl rfl rfl ?_
  refine b_ilt (t1 := 47) (t2 := 4) rfl rfl rfl (ev_w_in (by omega) (by omega)) (fun g1 => ?_) (fun g1 => ?_)
  · have b2 : -2147483648 ≤ a1 ∧ a1 ≤ -1 := by omega
    refine w_t (np := 48) (l2 := [some (eR a0), some (eI (a1)), some (eI (a2)), some (eI (a3)), some (eI (a4)), some (eI (a5)), some (eI (a6)), some (eI (a7))]) (s2 := [eR a0]) rfl (s_an rfl (pos_g hI gA0 (by decide))) rfl ?_
    refine w_t (np := 49) (l2 := [some (eR a0), some (eI (a1)), some (eI (a2)), some (eI (a3)), some (eI (a4)), some (eI (a5)), some (eI (a6)), some (eI (a7))]) (s2 := [eI (1), eR a0]) rfl rfl rfl ?_
    refine w_cw (np := 52) (as := [eI (1)]) (l2 := [some (eR a0), some (eI (1))]) (rest := []) rfl rfl rfl (Nat.ble_eq.mp rfl) rfl rfl rfl (hI.kd gA0 (by decide) (n := 14) rfl) rfl ?_
    refine w_t (np := 1) (l2 := [some (eR a0), some (eI (1))]) (s2 := [eR a0]) rfl (s_an rfl (pos_g hI gA0 (by decide))) rfl ?_
    refine w_t (np := 2) (l2 := [some (eR a0), some (eI (1))]) (s2 := [eI (1), eR a0]) rfl rfl rfl ?_
    refine j_pf (np := 5) (w := 1) rfl rfl hI gA0 (by decide) (n := 14) rfl rfl (hO_i (lo := -2147483648) (hi := 2147483647) rfl (by decide)) ?_
    intro m2 I3 W4
    have F5 : Fr l_185 0 0 g μ m2 := F0.w W4 gA0 rfl
    refine w_t (np := 6) (l2 := [some (eR a0), some (eI (1))]) (s2 := [eI (-1)]) rfl rfl rfl ?_
    refine b_ri rfl rfl ?_
    show ex_q (dt_fg L ρ) rc (d + 6, (185, 52, [some (eR a0), some (eI (a1)), some (eI (a2)), some (eI (a3)), some (eI (a4)), some (eI (a5)), some (eI (a6)), some (eI (a7))], [eI (-1)]), f :: F, m2)
    exact b_ri rfl rfl (K m2 (-1) I3 F5 (by decide))
  · have b2 : 0 ≤ a1 ∧ a1 ≤ 2147483647 := by omega
    refine w_t (np := 5) (l2 := [some (eR a0), some (eI (a1)), some (eI (a2)), some (eI (a3)), some (eI (a4)), some (eI (a5)), some (eI (a6)), some (eI (a7))]) (s2 := [eI (a1)]) rfl rfl rfl ?_
    refine w_t (np := 6) (l2 := [some (eR a0), some (eI (a1)), some (eI (a2)), some (eI (a3)), some (eI (a4)), some (eI (a5)), some (eI (a6)), some (eI (a7))]) (s2 := [eI (1), eI (a1)]) rfl rfl rfl ?_
    refine b_cgt (t1 := 47) (t2 := 9) rfl rfl rfl (ev_w_in (by omega) (by omega)) rfl (fun g2 => ?_) (fun g2 => ?_)
    · have b3 : 2 ≤ a1 ∧ a1 ≤ 2147483647 := by omega
      refine w_t (np := 48) (l2 := [some (eR a0), some (eI (a1)), some (eI (a2)), some (eI (a3)), some (eI (a4)), some (eI (a5)), some (eI (a6)), some (eI (a7))]) (s2 := [eR a0]) rfl (s_an rfl (pos_g hI gA0 (by decide))) rfl ?_
      refine w_t (np := 49) (l2 := [some (eR a0), some (eI (a1)), some (eI (a2)), some (eI (a3)), some (eI (a4)), some (eI (a5)), some (eI (a6)), some (eI (a7))]) (s2 := [eI (1), eR a0]) rfl rfl rfl ?_
      refine w_cw (np := 52) (as := [eI (1)]) (l2 := [some (eR a0), some (eI (1))]) (rest := []) rfl rfl rfl (Nat.ble_eq.mp rfl) rfl rfl rfl (hI.kd gA0 (by decide) (n := 14) rfl) rfl ?_
      refine w_t (np := 1) (l2 := [some (eR a0), some (eI (1))]) (s2 := [eR a0]) rfl (s_an rfl (pos_g hI gA0 (by decide))) rfl ?_
      refine w_t (np := 2) (l2 := [some (eR a0), some (eI (1))]) (s2 := [eI (1), eR a0]) rfl rfl rfl ?_
      refine j_pf (np := 5) (w := 1) rfl rfl hI gA0 (by decide) (n := 14) rfl rfl (hO_i (lo := -2147483648) (hi := 2147483647) rfl (by decide)) ?_
      intro m3 I4 W5
      have F6 : Fr l_185 0 0 g μ m3 := F0.w W5 gA0 rfl
      refine w_t (np := 6) (l2 := [some (eR a0), some (eI (1))]) (s2 := [eI (-1)]) rfl rfl rfl ?_
      refine b_ri rfl rfl ?_
      show ex_q (dt_fg L ρ) rc (d + 6, (185, 52, [some (eR a0), some (eI (a1)), some (eI (a2)), some (eI (a3)), some (eI (a4)), some (eI (a5)), some (eI (a6)), some (eI (a7))], [eI (-1)]), f :: F, m3)
      exact b_ri rfl rfl (K m3 (-1) I4 F6 (by decide))
    · have b3 : 0 ≤ a1 ∧ a1 ≤ 1 := by omega
      refine w_t (np := 11) (l2 := [some (eR a0), some (eI (a1)), some (eI (a2)), some (eI (a3)), some (eI (a4)), some (eI (a5)), some (eI (a6)), some (eI (a7))]) (s2 := [eI (a6)]) rfl rfl rfl ?_
      refine b_ilt (t1 := 47) (t2 := 14) rfl rfl rfl (ev_w_in (by omega) (by omega)) (fun g3 => ?_) (fun g3 => ?_)
      · have b4 : -2147483648 ≤ a6 ∧ a6 ≤ -1 := by omega
        refine w_t (np := 48) (l2 := [some (eR a0), some (eI (a1)), some (eI (a2)), some (eI (a3)), some (eI (a4)), some (eI (a5)), some (eI (a6)), some (eI (a7))]) (s2 := [eR a0]) rfl (s_an rfl (pos_g hI gA0 (by decide))) rfl ?_
        refine w_t (np := 49) (l2 := [some (eR a0), some (eI (a1)), some (eI (a2)), some (eI (a3)), some (eI (a4)), some (eI (a5)), some (eI (a6)), some (eI (a7))]) (s2 := [eI (1), eR a0]) rfl rfl rfl ?_
        refine w_cw (np := 52) (as := [eI (1)]) (l2 := [some (eR a0), some (eI (1))]) (rest := []) rfl rfl rfl (Nat.ble_eq.mp rfl) rfl rfl rfl (hI.kd gA0 (by decide) (n := 14) rfl) rfl ?_
        refine w_t (np := 1) (l2 := [some (eR a0), some (eI (1))]) (s2 := [eR a0]) rfl (s_an rfl (pos_g hI gA0 (by decide))) rfl ?_
        refine w_t (np := 2) (l2 := [some (eR a0), some (eI (1))]) (s2 := [eI (1), eR a0]) rfl rfl rfl ?_
        refine j_pf (np := 5) (w := 1) rfl rfl hI gA0 (by decide) (n := 14) rfl rfl (hO_i (lo := -2147483648) (hi := 2147483647) rfl (by decide)) ?_
        intro m4 I5 W6
        have F7 : Fr l_185 0 0 g μ m4 := F0.w W6 gA0 rfl
        refine w_t (np := 6) (l2 := [some (eR a0), some (eI (1))]) (s2 := [eI (-1)]) rfl rfl rfl ?_
        refine b_ri rfl rfl ?_
        show ex_q (dt_fg L ρ) rc (d + 6, (185, 52, [some (eR a0), some (eI (a1)), some (eI (a2)), some (eI (a3)), some (eI (a4)), some (eI (a5)), some (eI (a6)), some (eI (a7))], [eI (-1)]), f :: F, m4)
        exact b_ri rfl rfl (K m4 (-1) I5 F7 (by decide))
      · have b4 : 0 ≤ a6 ∧ a6 ≤ 2147483647 := by omega
        refine w_t (np := 16) (l2 := [some (eR a0), some (eI (a1)), some (eI (a2)), some (eI (a3)), some (eI (a4)), some (eI (a5)), some (eI (a6)), some (eI (a7))]) (s2 := [eI (a6)]) rfl rfl rfl ?_
        refine w_t (np := 18) (l2 := [some (eR a0), some (eI (a1)), some (eI (a2)), some (eI (a3)), some (eI (a4)), some (eI (a5)), some (eI (a6)), some (eI (a7))]) (s2 := [eI (9), eI (a6)]) rfl rfl rfl ?_
        refine b_cgt (t1 := 47) (t2 := 21) rfl rfl rfl (ev_w_in (by omega) (by omega)) rfl (fun g4 => ?_) (fun g4 => ?_)
        · have b5 : 10 ≤ a6 ∧ a6 ≤ 2147483647 := by omega
          refine w_t (np := 48) (l2 := [some (eR a0), some (eI (a1)), some (eI (a2)), some (eI (a3)), some (eI (a4)), some (eI (a5)), some (eI (a6)), some (eI (a7))]) (s2 := [eR a0]) rfl (s_an rfl (pos_g hI gA0 (by decide))) rfl ?_
          refine w_t (np := 49) (l2 := [some (eR a0), some (eI (a1)), some (eI (a2)), some (eI (a3)), some (eI (a4)), some (eI (a5)), some (eI (a6)), some (eI (a7))]) (s2 := [eI (1), eR a0]) rfl rfl rfl ?_
          refine w_cw (np := 52) (as := [eI (1)]) (l2 := [some (eR a0), some (eI (1))]) (rest := []) rfl rfl rfl (Nat.ble_eq.mp rfl) rfl rfl rfl (hI.kd gA0 (by decide) (n := 14) rfl) rfl ?_
          refine w_t (np := 1) (l2 := [some (eR a0), some (eI (1))]) (s2 := [eR a0]) rfl (s_an rfl (pos_g hI gA0 (by decide))) rfl ?_
          refine w_t (np := 2) (l2 := [some (eR a0), some (eI (1))]) (s2 := [eI (1), eR a0]) rfl rfl rfl ?_
          refine j_pf (np := 5) (w := 1) rfl rfl hI gA0 (by decide) (n := 14) rfl rfl (hO_i (lo := -2147483648) (hi := 2147483647) rfl (by decide)) ?_
          intro m5 I6 W7
          have F8 : Fr l_185 0 0 g μ m5 := F0.w W7 gA0 rfl
          refine w_t (np := 6) (l2 := [some (eR a0), some (eI (1))]) (s2 := [eI (-1)]) rfl rfl rfl ?_
          refine b_ri rfl rfl ?_
          show ex_q (dt_fg L ρ) rc (d + 6, (185, 52, [some (eR a0), some (eI (a1)), some (eI (a2)), some (eI (a3)), some (eI (a4)), some (eI (a5)), some (eI (a6)), some (eI (a7))], [eI (-1)]), f :: F, m5)
          exact b_ri rfl rfl (K m5 (-1) I6 F8 (by decide))
        · have b5 : 0 ≤ a6 ∧ a6 ≤ 9 := by omega
          refine w_t (np := 23) (l2 := [some (eR a0), some (eI (a1)), some (eI (a2)), some (eI (a3)), some (eI (a4)), some (eI (a5)), some (eI (a6)), some (eI (a7))]) (s2 := [eI (a7)]) rfl rfl rfl ?_
          refine b_ilt (t1 := 47) (t2 := 26) rfl rfl rfl (ev_w_in (by omega) (by omega)) (fun g5 => ?_) (fun g5 => ?_)
          · have b6 : -2147483648 ≤ a7 ∧ a7 ≤ -1 := by omega
            refine w_t (np := 48) (l2 := [some (eR a0), some (eI (a1)), some (eI (a2)), some (eI (a3)), some (eI (a4)), some (eI (a5)), some (eI (a6)), some (eI (a7))]) (s2 := [eR a0]) rfl (s_an rfl (pos_g hI gA0 (by decide))) rfl ?_
            refine w_t (np := 49) (l2 := [some (eR a0), some (eI (a1)), some (eI (a2)), some (eI (a3)), some (eI (a4)), some (eI (a5)), some (eI (a6)), some (eI (a7))]) (s2 := [eI (1), eR a0]) rfl rfl rfl ?_
            refine w_cw (np := 52) (as := [eI (1)]) (l2 := [some (eR a0), some (eI (1))]) (rest := []) rfl rfl rfl (Nat.ble_eq.mp rfl) rfl rfl rfl (hI.kd gA0 (by decide) (n := 14) rfl) rfl ?_
            refine w_t (np := 1) (l2 := [some (eR a0), some (eI (1))]) (s2 := [eR a0]) rfl (s_an rfl (pos_g hI gA0 (by decide))) rfl ?_
            refine w_t (np := 2) (l2 := [some (eR a0), some (eI (1))]) (s2 := [eI (1), eR a0]) rfl rfl rfl ?_
            refine j_pf (np := 5) (w := 1) rfl rfl hI gA0 (by decide) (n := 14) rfl rfl (hO_i (lo := -2147483648) (hi := 2147483647) rfl (by decide)) ?_
            intro m6 I7 W8
            have F9 : Fr l_185 0 0 g μ m6 := F0.w W8 gA0 rfl
            refine w_t (np := 6) (l2 := [some (eR a0), some (eI (1))]) (s2 := [eI (-1)]) rfl rfl rfl ?_
            refine b_ri rfl rfl ?_
            show ex_q (dt_fg L ρ) rc (d + 6, (185, 52, [some (eR a0), some (eI (a1)), some (eI (a2)), some (eI (a3)), some (eI (a4)), some (eI (a5)), some (eI (a6)), some (eI (a7))], [eI (-1)]), f :: F, m6)
            exact b_ri rfl rfl (K m6 (-1) I7 F9 (by decide))
          · have b6 : 0 ≤ a7 ∧ a7 ≤ 2147483647 := by omega
            refine w_t (np := 28) (l2 := [some (eR a0), some (eI (a1)), some (eI (a2)), some (eI (a3)), some (eI (a4)), some (eI (a5)), some (eI (a6)), some (eI (a7))]) (s2 := [eI (a7)]) rfl rfl rfl ?_
            refine w_t (np := 29) (l2 := [some (eR a0), some (eI (a1)), some (eI (a2)), some (eI (a3)), some (eI (a4)), some (eI (a5)), some (eI (a6)), some (eI (a7))]) (s2 := [eI (1), eI (a7)]) rfl rfl rfl ?_
            refine b_cgt (t1 := 47) (t2 := 32) rfl rfl rfl (ev_w_in (by omega) (by omega)) rfl (fun g6 => ?_) (fun g6 => ?_)
            · have b7 : 2 ≤ a7 ∧ a7 ≤ 2147483647 := by omega
              refine w_t (np := 48) (l2 := [some (eR a0), some (eI (a1)), some (eI (a2)), some (eI (a3)), some (eI (a4)), some (eI (a5)), some (eI (a6)), some (eI (a7))]) (s2 := [eR a0]) rfl (s_an rfl (pos_g hI gA0 (by decide))) rfl ?_
              refine w_t (np := 49) (l2 := [some (eR a0), some (eI (a1)), some (eI (a2)), some (eI (a3)), some (eI (a4)), some (eI (a5)), some (eI (a6)), some (eI (a7))]) (s2 := [eI (1), eR a0]) rfl rfl rfl ?_
              refine w_cw (np := 52) (as := [eI (1)]) (l2 := [some (eR a0), some (eI (1))]) (rest := []) rfl rfl rfl (Nat.ble_eq.mp rfl) rfl rfl rfl (hI.kd gA0 (by decide) (n := 14) rfl) rfl ?_
              refine w_t (np := 1) (l2 := [some (eR a0), some (eI (1))]) (s2 := [eR a0]) rfl (s_an rfl (pos_g hI gA0 (by decide))) rfl ?_
              refine w_t (np := 2) (l2 := [some (eR a0), some (eI (1))]) (s2 := [eI (1), eR a0]) rfl rfl rfl ?_
              refine j_pf (np := 5) (w := 1) rfl rfl hI gA0 (by decide) (n := 14) rfl rfl (hO_i (lo := -2147483648) (hi := 2147483647) rfl (by decide)) ?_
              intro m7 I8 W9
              have F10 : Fr l_185 0 0 g μ m7 := F0.w W9 gA0 rfl
              refine w_t (np := 6) (l2 := [some (eR a0), some (eI (1))]) (s2 := [eI (-1)]) rfl rfl rfl ?_
              refine b_ri rfl rfl ?_
              show ex_q (dt_fg L ρ) rc (d + 6, (185, 52, [some (eR a0), some (eI (a1)), some (eI (a2)), some (eI (a3)), some (eI (a4)), some (eI (a5)), some (eI (a6)), some (eI (a7))], [eI (-1)]), f :: F, m7)
              exact b_ri rfl rfl (K m7 (-1) I8 F10 (by decide))
            · have b7 : 0 ≤ a7 ∧ a7 ≤ 1 := by omega
              refine w_t (np := 33) (l2 := [some (eR a0), some (eI (a1)), some (eI (a2)), some (eI (a3)), some (eI (a4)), some (eI (a5)), some (eI (a6)), some (eI (a7))]) (s2 := [eI (a2)]) rfl rfl rfl ?_
              refine w_t (np := 34) (l2 := [some (eR a0), some (eI (a1)), some (eI (a2)), some (eI (a3)), some (eI (a4)), some (eI (a5)), some (eI (a6)), some (eI (a7))]) (s2 := [eI (a3), eI (a2)]) rfl rfl rfl ?_
              refine w_t (np := 36) (l2 := [some (eR a0), some (eI (a1)), some (eI (a2)), some (eI (a3)), some (eI (a4)), some (eI (a5)), some (eI (a6)), some (eI (a7))]) (s2 := [eI (a4), eI (a3), eI (a2)]) rfl rfl rfl ?_
              refine w_t (np := 38) (l2 := [some (eR a0), some (eI (a1)), some (eI (a2)), some (eI (a3)), some (eI (a4)), some (eI (a5)), some (eI (a6)), some (eI (a7))]) (s2 := [eI (a5), eI (a4), eI (a3), eI (a2)]) rfl rfl rfl ?_
              refine w_t (np := 41) (l2 := [some (eR a0), some (eI (a1)), some (eI (a2)), some (eI (a3)), some (eI (a4)), some (eI (a5)), some (eI (a6)), some (eI (a7))]) (s2 := [eI (999), eI (a5), eI (a4), eI (a3), eI (a2)]) rfl rfl rfl ?_
              refine w_cu (np := 44) (as := [eI (a2), eI (a3), eI (a4), eI (a5), eI (999)]) (l2 := [some (eI (a2)), some (eI (a3)), some (eI (a4)), some (eI (a5)), some (eI (999))]) (rest := []) rfl rfl rfl (Nat.ble_eq.mp rfl) rfl rfl rfl rfl ?_
              refine s_72 (a0 := a2) (a1 := a3) (a2 := a4) (a3 := a5) (a4 := 999) hI (by omega) (by omega) (by omega) (by omega) (by decide) ?_
              intro v7 b8
              show ex_q (dt_fg L ρ) rc (d + 6, (185, 44, [some (eR a0), some (eI (a1)), some (eI (a2)), some (eI (a3)), some (eI (a4)), some (eI (a5)), some (eI (a6)), some (eI (a7))], [eI (v7)]), f :: F, μ)
              refine b_ine (t1 := 53) (t2 := 47) rfl rfl rfl (ev_w_in (by omega) (by omega)) (fun g9 => ?_) (fun g9 => ?_)
              · have b10 : 1 ≤ v7 ∧ v7 ≤ 1 := by omega
                refine w_t (np := 54) (l2 := [some (eR a0), some (eI (a1)), some (eI (a2)), some (eI (a3)), some (eI (a4)), some (eI (a5)), some (eI (a6)), some (eI (a7))]) (s2 := [eR a0]) rfl (s_an rfl (pos_g hI gA0 (by decide))) rfl ?_
                refine w_t (np := 55) (l2 := [some (eR a0), some (eI (a1)), some (eI (a2)), some (eI (a3)), some (eI (a4)), some (eI (a5)), some (eI (a6)), some (eI (a7))]) (s2 := [eI (a1), eR a0]) rfl rfl rfl ?_
                refine w_t (np := 56) (l2 := [some (eR a0), some (eI (a1)), some (eI (a2)), some (eI (a3)), some (eI (a4)), some (eI (a5)), some (eI (a6)), some (eI (a7))]) (s2 := [eI (a2), eI (a1), eR a0]) rfl rfl rfl ?_
                refine w_t (np := 57) (l2 := [some (eR a0), some (eI (a1)), some (eI (a2)), some (eI (a3)), some (eI (a4)), some (eI (a5)), some (eI (a6)), some (eI (a7))]) (s2 := [eI (a3), eI (a2), eI (a1), eR a0]) rfl rfl rfl ?_
                refine w_t (np := 59) (l2 := [some (eR a0), some (eI (a1)), some (eI (a2)), some (eI (a3)), some (eI (a4)), some (eI (a5)), some (eI (a6)), some (eI (a7))]) (s2 := [eI (a4), eI (a3), eI (a2), eI (a1), eR a0]) rfl rfl rfl ?_
                refine w_t (np := 61) (l2 := [some (eR a0), some (eI (a1)), some (eI (a2)), some (eI (a3)), some (eI (a4)), some (eI (a5)), some (eI (a6)), some (eI (a7))]) (s2 := [eI (a5), eI (a4), eI (a3), eI (a2), eI (a1), eR a0]) rfl rfl rfl ?_
                refine w_cu (np := 64) (as := [eI (a2), eI (a3), eI (a4), eI (a5)]) (l2 := [some (eI (a2)), some (eI (a3)), some (eI (a4)), some (eI (a5))]) (rest := [eI (a1), eR a0]) rfl rfl rfl (Nat.ble_eq.mp rfl) rfl rfl rfl rfl ?_
                refine s_71 (a0 := a2) (a1 := a3) (a2 := a4) (a3 := a5) hI (by omega) (by omega) (by omega) (by omega) ?_
                intro v10 b11
                show ex_q (dt_fg L ρ) rc (d + 6, (185, 64, [some (eR a0), some (eI (a1)), some (eI (a2)), some (eI (a3)), some (eI (a4)), some (eI (a5)), some (eI (a6)), some (eI (a7))], [eJ (v10), eI (a1), eR a0]), f :: F, μ)
                refine w_t (np := 66) (l2 := [some (eR a0), some (eI (a1)), some (eI (a2)), some (eI (a3)), some (eI (a4)), some (eI (a5)), some (eI (a6)), some (eI (a7))]) (s2 := [eI (a6), eJ (v10), eI (a1), eR a0]) rfl rfl rfl ?_
                refine w_t (np := 68) (l2 := [some (eR a0), some (eI (a1)), some (eI (a2)), some (eI (a3)), some (eI (a4)), some (eI (a5)), some (eI (a6)), some (eI (a7))]) (s2 := [eI (a7), eI (a6), eJ (v10), eI (a1), eR a0]) rfl rfl rfl ?_
                refine w_cw (np := 71) (as := [eI (a1), eJ (v10), eI (a6), eI (a7)]) (l2 := [some (eR a0), some (eI (a1)), some (eJ (v10)), none, some (eI (a6)), some (eI (a7)), none]) (rest := []) rfl rfl rfl (Nat.ble_eq.mp rfl) rfl rfl rfl (hI.kd gA0 (by decide) (n := 14) rfl) rfl ?_
                refine s_211 (a1 := a1) (a4 := a6) (a5 := a7) hI gA0 (by omega) b11 (by omega) (by omega) ?_
                intro m12 v15 I13 F14 b16
                have F17 : Fr l_185 0 0 g μ m12 := F0.t F14 rfl
                show ex_q (dt_fg L ρ) rc (d + 6, (185, 71, [some (eR a0), some (eI (a1)), some (eI (a2)), some (eI (a3)), some (eI (a4)), some (eI (a5)), some (eI (a6)), some (eI (a7))], [eI (v15)]), f :: F, m12)
                exact b_ri rfl rfl (K m12 (v15) I13 F17 (by omega))
              · have b10 : 0 ≤ v7 ∧ v7 ≤ 0 := by omega
                refine w_t (np := 48) (l2 := [some (eR a0), some (eI (a1)), some (eI (a2)), some (eI (a3)), some (eI (a4)), some (eI (a5)), some (eI (a6)), some (eI (a7))]) (s2 := [eR a0]) rfl (s_an rfl (pos_g hI gA0 (by decide))) rfl ?_
                refine w_t (np := 49) (l2 := [some (eR a0), some (eI (a1)), some (eI (a2)), some (eI (a3)), some (eI (a4)), some (eI (a5)), some (eI (a6)), some (eI (a7))]) (s2 := [eI (1), eR a0]) rfl rfl rfl ?_
                refine w_cw (np := 52) (as := [eI (1)]) (l2 := [some (eR a0), some (eI (1))]) (rest := []) rfl rfl rfl (Nat.ble_eq.mp rfl) rfl rfl rfl (hI.kd gA0 (by decide) (n := 14) rfl) rfl ?_
                refine w_t (np := 1) (l2 := [some (eR a0), some (eI (1))]) (s2 := [eR a0]) rfl (s_an rfl (pos_g hI gA0 (by decide))) rfl ?_
                refine w_t (np := 2) (l2 := [some (eR a0), some (eI (1))]) (s2 := [eI (1), eR a0]) rfl rfl rfl ?_
                refine j_pf (np := 5) (w := 1) rfl rfl hI gA0 (by decide) (n := 14) rfl rfl (hO_i (lo := -2147483648) (hi := 2147483647) rfl (by decide)) ?_
                intro m10 I11 W12
                have F13 : Fr l_185 0 0 g μ m10 := F0.w W12 gA0 rfl
                refine w_t (np := 6) (l2 := [some (eR a0), some (eI (1))]) (s2 := [eI (-1)]) rfl rfl rfl ?_
                refine b_ri rfl rfl ?_
                show ex_q (dt_fg L ρ) rc (d + 6, (185, 52, [some (eR a0), some (eI (a1)), some (eI (a2)), some (eI (a3)), some (eI (a4)), some (eI (a5)), some (eI (a6)), some (eI (a7))], [eI (-1)]), f :: F, m10)
                exact b_ri rfl rfl (K m10 (-1) I11 F13 (by decide))
