/-! methods, walked -/
def l_266 : List Nat := [13315, 13316, 13317, 13318]
theorem s_266 {L : Nat} {ρ : Nat → Int} {rc : eQ} {d : Nat} {f : eFr} {F : List eFr} {μ : eM} {g : Nat → Nat} {a0 : Nat} {a1 : Int} {a2 : Int} {a3 : Int} {a4 : Int} {a5 : Int} (hI : SI g μ) (gA0 : g a0 = 52) (bA1 : 0 ≤ a1 ∧ a1 ≤ 889) (bA2 : -2147483648 ≤ a2 ∧ a2 ≤ 2147483647) (bA3 : -2147483648 ≤ a3 ∧ a3 ≤ 2147483647) (bA4 : -2147483648 ≤ a4 ∧ a4 ≤ 2147483647) (bA5 : -2147483648 ≤ a5 ∧ a5 ≤ 2147483647) (K : ∀ (μ2 : eM) (v : Int), SI g μ2 → Fr l_266 0 0 g μ μ2 → (0 ≤ v ∧ v ≤ 1) → ex_q (dt_fg L ρ) rc (d + 6, (f.1, f.2.1, f.2.2.1, eI v :: f.2.2.2), F, μ2)) : ex_q (dt_fg L ρ) rc (d + 5, (266, 0, [some (eR a0), some (eI (a1)), some (eI (a2)), some (eI (a3)), some (eI (a4)), some (eI (a5)), none, none, none], []), f :: F, μ) := by
  have F0 : Fr l_266 0 0 g μ μ := Fr.r
  refine w_t (np := 1) (l2 := [some (eR a0), some (eI (a1)), some (eI (a2)), some (eI (a3)), some (eI (a4)), some (eI (a5)), none, none, none]) (s2 := [eR a0]) rfl (s_an rfl (pos_g hI gA0 (by decide))) rfl ?_
  refine w_t (np := 2) (l2 := [some (eR a0), some (eI (a1)), some (eI (a2)), some (eI (a3)), some (eI (a4)), some (eI (a5)), none, none, none]) (s2 := [eI (a1), eR a0]) rfl rfl rfl ?_
  refine w_t (np := 3) (l2 := [some (eR a0), some (eI (a1)), some (eI (a2)), some (eI (a3)), some (eI (a4)), some (eI (a5)), none, none, none]) (s2 := [eI (0), eI (a1), eR a0]) rfl rfl rfl ?_
  refine w_t (np := 4) (l2 := [some (eR a0), some (eI (a1)), some (eI (a2)), some (eI (a3)), some (eI (a4)), some (eI (a5)), none, none, none]) (s2 := [eI (1), eI (0), eI (a1), eR a0]) rfl rfl rfl ?_
  refine w_t (np := 5) (l2 := [some (eR a0), some (eI (a1)), some (eI (a2)), some (eI (a3)), some (eI (a4)), some (eI (a5)), none, none, none]) (s2 := [eI (a2), eI (1), eI (0), eI (a1), eR a0]) rfl rfl rfl ?_
  refine w_t (np := 6) (l2 := [some (eR a0), some (eI (a1)), some (eI (a2)), some (eI (a3)), some (eI (a4)), some (eI (a5)), none, none, none]) (s2 := [eI (a3), eI (a2), eI (1), eI (0), eI (a1), eR a0]) rfl rfl rfl ?_
  refine w_t (np := 8) (l2 := [some (eR a0), some (eI (a1)), some (eI (a2)), some (eI (a3)), some (eI (a4)), some (eI (a5)), none, none, none]) (s2 := [eI (a4), eI (a3), eI (a2), eI (1), eI (0), eI (a1), eR a0]) rfl rfl rfl ?_
  refine w_t (np := 10) (l2 := [some (eR a0), some (eI (a1)), some (eI (a2)), some (eI (a3)), some (eI (a4)), some (eI (a5)), none, none, none]) (s2 := [eI (a5), eI (a4), eI (a3), eI (a2), eI (1), eI (0), eI (a1), eR a0]) rfl rfl rfl ?_
  refine w_cw (np := 13) (as := [eI (a1), eI (0), eI (1), eI (a2), eI (a3), eI (a4), eI (a5)]) (l2 := [some (eR a0), some (eI (a1)), some (eI (0)), some (eI (1)), some (eI (a2)), some (eI (a3)), some (eI (a4)), some (eI (a5)), none, none]) (rest := []) rfl rfl rfl (Nat.ble_eq.mp rfl) rfl rfl rfl (hI.kd gA0 (by decide) (n := 69) rfl) rfl ?_
  refine s_265 (a1 := a1) (a2 := 0) (a3 := 1) (a4 := a2) (a5 := a3) (a6 := a4) (a7 := a5) hI gA0 (by omega) (by decide) (by decide) (by omega) (by omega) (by omega) (by omega) ?_
  intro m1 v4 I2 F3 b5
  have F6 : Fr l_266 0 0 g μ m1 := F0.t F3 rfl
  show ex_q (dt_fg L ρ) rc (d + 5, (266, 13, [some (eR a0), some (eI (a1)), some (eI (a2)), some (eI (a3)), some (eI (a4)), some (eI (a5)), none, none, none], [eI (v4)]), f :: F, m1)
  refine w_t (np := 15) (l2 := [some (eR a0), some (eI (a1)), some (eI (a2)), some (eI (a3)), some (eI (a4)), some (eI (a5)), some (eI (v4)), none, none]) (s2 := []) rfl rfl rfl ?_
  refine w_t (np := 16) (l2 := [some (eR a0), some (eI (a1)), some (eI (a2)), some (eI (a3)), some (eI (a4)), some (eI (a5)), some (eI (v4)), none, none]) (s2 := [eR a0]) rfl (s_an rfl (pos_g I2 gA0 (by decide))) rfl ?_
  refine w_t (np := 17) (l2 := [some (eR a0), some (eI (a1)), some (eI (a2)), some (eI (a3)), some (eI (a4)), some (eI (a5)), some (eI (v4)), none, none]) (s2 := [eI (a1), eR a0]) rfl rfl rfl ?_
  refine w_t (np := 18) (l2 := [some (eR a0), some (eI (a1)), some (eI (a2)), some (eI (a3)), some (eI (a4)), some (eI (a5)), some (eI (v4)), none, none]) (s2 := [eI (1), eI (a1), eR a0]) rfl rfl rfl ?_
  refine w_t (np := 19) (l2 := [some (eR a0), some (eI (a1)), some (eI (a2)), some (eI (a3)), some (eI (a4)), some (eI (a5)), some (eI (v4)), none, none]) (s2 := [eI (2), eI (1), eI (a1), eR a0]) rfl rfl rfl ?_
  refine w_t (np := 20) (l2 := [some (eR a0), some (eI (a1)), some (eI (a2)), some (eI (a3)), some (eI (a4)), some (eI (a5)), some (eI (v4)), none, none]) (s2 := [eI (a2), eI (2), eI (1), eI (a1), eR a0]) rfl rfl rfl ?_
  refine w_t (np := 21) (l2 := [some (eR a0), some (eI (a1)), some (eI (a2)), some (eI (a3)), some (eI (a4)), some (eI (a5)), some (eI (v4)), none, none]) (s2 := [eI (a3), eI (a2), eI (2), eI (1), eI (a1), eR a0]) rfl rfl rfl ?_
  refine w_t (np := 23) (l2 := [some (eR a0), some (eI (a1)), some (eI (a2)), some (eI (a3)), some (eI (a4)), some (eI (a5)), some (eI (v4)), none, none]) (s2 := [eI (a4), eI (a3), eI (a2), eI (2), eI (1), eI (a1), eR a0]) rfl rfl rfl ?_
  refine w_t (np := 25) (l2 := [some (eR a0), some (eI (a1)), some (eI (a2)), some (eI (a3)), some (eI (a4)), some (eI (a5)), some (eI (v4)), none, none]) (s2 := [eI (a5), eI (a4), eI (a3), eI (a2), eI (2), eI (1), eI (a1), eR a0]) rfl rfl rfl ?_
  refine w_cw (np := 28) (as := [eI (a1), eI (1), eI (2), eI (a2), eI (a3), eI (a4), eI (a5)]) (l2 := [some (eR a0), some (eI (a1)), some (eI (1)), some (eI (2)), some (eI (a2)), some (eI (a3)), some (eI (a4)), some (eI (a5)), none, none]) (rest := []) rfl rfl rfl (Nat.ble_eq.mp rfl) rfl rfl rfl (I2.kd gA0 (by decide) (n := 69) rfl) rfl ?_
  refine s_265 (a1 := a1) (a2 := 1) (a3 := 2) (a4 := a2) (a5 := a3) (a6 := a4) (a7 := a5) I2 gA0 (by omega) (by decide) (by decide) (by omega) (by omega) (by omega) (by omega) ?_
  intro m7 v10 I8 F9 b11
  have F12 : Fr l_266 0 0 g μ m7 := F6.t F9 rfl
  show ex_q (dt_fg L ρ) rc (d + 5, (266, 28, [some (eR a0), some (eI (a1)), some (eI (a2)), some (eI (a3)), some (eI (a4)), some (eI (a5)), some (eI (v4)), none, none], [eI (v10)]), f :: F, m7)
  refine w_t (np := 30) (l2 := [some (eR a0), some (eI (a1)), some (eI (a2)), some (eI (a3)), some (eI (a4)), some (eI (a5)), some (eI (v4)), some (eI (v10)), none]) (s2 := []) rfl rfl rfl ?_
  refine w_t (np := 31) (l2 := [some (eR a0), some (eI (a1)), some (eI (a2)), some (eI (a3)), some (eI (a4)), some (eI (a5)), some (eI (v4)), some (eI (v10)), none]) (s2 := [eR a0]) rfl (s_an rfl (pos_g I8 gA0 (by decide))) rfl ?_
  refine w_t (np := 32) (l2 := [some (eR a0), some (eI (a1)), some (eI (a2)), some (eI (a3)), some (eI (a4)), some (eI (a5)), some (eI (v4)), some (eI (v10)), none]) (s2 := [eI (a1), eR a0]) rfl rfl rfl ?_
  refine w_t (np := 33) (l2 := [some (eR a0), some (eI (a1)), some (eI (a2)), some (eI (a3)), some (eI (a4)), some (eI (a5)), some (eI (v4)), some (eI (v10)), none]) (s2 := [eI (2), eI (a1), eR a0]) rfl rfl rfl ?_
  refine w_t (np := 34) (l2 := [some (eR a0), some (eI (a1)), some (eI (a2)), some (eI (a3)), some (eI (a4)), some (eI (a5)), some (eI (v4)), some (eI (v10)), none]) (s2 := [eI (0), eI (2), eI (a1), eR a0]) rfl rfl rfl ?_
  refine w_t (np := 35) (l2 := [some (eR a0), some (eI (a1)), some (eI (a2)), some (eI (a3)), some (eI (a4)), some (eI (a5)), some (eI (v4)), some (eI (v10)), none]) (s2 := [eI (a2), eI (0), eI (2), eI (a1), eR a0]) rfl rfl rfl ?_
  refine w_t (np := 36) (l2 := [some (eR a0), some (eI (a1)), some (eI (a2)), some (eI (a3)), some (eI (a4)), some (eI (a5)), some (eI (v4)), some (eI (v10)), none]) (s2 := [eI (a3), eI (a2), eI (0), eI (2), eI (a1), eR a0]) rfl rfl rfl ?_
  refine w_t (np := 38) (l2 := [some (eR a0), some (eI (a1)), some (eI (a2)), some (eI (a3)), some (eI (a4)), some (eI (a5)), some (eI (v4)), some (eI (v10)), none]) (s2 := [eI (a4), eI (a3), eI (a2), eI (0), eI (2), eI (a1), eR a0]) rfl rfl rfl ?_
  refine w_t (np := 40) (l2 := [some (eR a0), some (eI (a1)), some (eI (a2)), some (eI (a3)), some (eI (a4)), some (eI (a5)), some (eI (v4)), some (eI (v10)), none]) (s2 := [eI (a5), eI (a4), eI (a3), eI (a2), eI (0), eI (2), eI (a1), eR a0]) rfl rfl rfl ?_
  refine w_cw (np := 43) (as := [eI (a1), eI (2), eI (0), eI (a2), eI (a3), eI (a4), eI (a5)]) (l2 := [some (eR a0), some (eI (a1)), some (eI (2)), some (eI (0)), some (eI (a2)), some (eI (a3)), some (eI (a4)), some (eI (a5)), none, none]) (rest := []) rfl rfl rfl (Nat.ble_eq.mp rfl) rfl rfl rfl (I8.kd gA0 (by decide) (n := 69) rfl) rfl ?_
  refine s_265 (a1 := a1) (a2 := 2) (a3 := 0) (a4 := a2) (a5 := a3) (a6 := a4) (a7 := a5) I8 gA0 (by omega) (by decide) (by decide) (by omega) (by omega) (by omega) (by omega) ?_
  intro m13 v16 I14 F15 b17
  have F18 : Fr l_266 0 0 g μ m13 := F12.t F15 rfl
  show ex_q (dt_fg L ρ) rc (d + 5, (266, 43, [some (eR a0), some (eI (a1)), some (eI (a2)), some (eI (a3)), some (eI (a4)), some (eI (a5)), some (eI (v4)), some (eI (v10)), none], [eI (v16)]), f :: F, m13)
  refine w_t (np := 45) (l2 := [some (eR a0), some (eI (a1)), some (eI (a2)), some (eI (a3)), some (eI (a4)), some (eI (a5)), some (eI (v4)), some (eI (v10)), some (eI (v16))]) (s2 := []) rfl rfl rfl ?_
  refine w_t (np := 47) (l2 := [some (eR a0), some (eI (a1)), some (eI (a2)), some (eI (a3)), some (eI (a4)), some (eI (a5)), some (eI (v4)), some (eI (v10)), some (eI (v16))]) (s2 := [eI (v4)]) rfl rfl rfl ?_
  refine b_ilt (t1 := 60) (t2 := 50) rfl rfl rfl (ev_w_in (by omega) (by omega)) (fun g19 => ?_) (fun g19 => ?_)
  · have b20 : -1 ≤ v4 ∧ v4 ≤ -1 := by omega
    refine w_t (np := 62) (l2 := [some (eR a0), some (eI (a1)), some (eI (a2)), some (eI (a3)), some (eI (a4)), some (eI (a5)), some (eI (v4)), some (eI (v10)), some (eI (v16))]) (s2 := [eI (v4)]) rfl rfl rfl ?_
    refine b_igt (t1 := 79) (t2 := 65) rfl rfl rfl (ev_w_in (by omega) (by omega)) (fun g20 => False.elim (by omega)) (fun g20 => ?_)
    refine w_t (np := 67) (l2 := [some (eR a0), some (eI (a1)), some (eI (a2)), some (eI (a3)), some (eI (a4)), some (eI (a5)), some (eI (v4)), some (eI (v10)), some (eI (v16))]) (s2 := [eI (v10)]) rfl rfl rfl ?_
    refine b_igt (t1 := 79) (t2 := 70) rfl rfl rfl (ev_w_in (by omega) (by omega)) (fun g21 => ?_) (fun g21 => ?_)
    · have b22 : 1 ≤ v10 ∧ v10 ≤ 1 := by omega
      refine w_t (np := 80) (l2 := [some (eR a0), some (eI (a1)), some (eI (a2)), some (eI (a3)), some (eI (a4)), some (eI (a5)), some (eI (v4)), some (eI (v10)), some (eI (v16))]) (s2 := [eI (0)]) rfl rfl rfl ?_
      exact b_rz rfl rfl (Or.inl rfl) (K m13 (0) I14 F18 (by decide))
    · have b22 : -1 ≤ v10 ∧ v10 ≤ 0 := by omega
      refine w_t (np := 72) (l2 := [some (eR a0), some (eI (a1)), some (eI (a2)), some (eI (a3)), some (eI (a4)), some (eI (a5)), some (eI (v4)), some (eI (v10)), some (eI (v16))]) (s2 := [eI (v16)]) rfl rfl rfl ?_
      refine b_igt (t1 := 79) (t2 := 75) rfl rfl rfl (ev_w_in (by omega) (by omega)) (fun g22 => ?_) (fun g22 => ?_)
      · have b23 : 1 ≤ v16 ∧ v16 ≤ 1 := by omega
        refine w_t (np := 80) (l2 := [some (eR a0), some (eI (a1)), some (eI (a2)), some (eI (a3)), some (eI (a4)), some (eI (a5)), some (eI (v4)), some (eI (v10)), some (eI (v16))]) (s2 := [eI (0)]) rfl rfl rfl ?_
        exact b_rz rfl rfl (Or.inl rfl) (K m13 (0) I14 F18 (by decide))
      · have b23 : -1 ≤ v16 ∧ v16 ≤ 0 := by omega
        refine w_t (np := 76) (l2 := [some (eR a0), some (eI (a1)), some (eI (a2)), some (eI (a3)), some (eI (a4)), some (eI (a5)), some (eI (v4)), some (eI (v10)), some (eI (v16))]) (s2 := [eI (1)]) rfl rfl rfl ?_
        refine w_go (t1 := 80) rfl rfl ?_
        exact b_rz rfl rfl (Or.inr rfl) (K m13 (1) I14 F18 (by decide))
  · have b20 : 0 ≤ v4 ∧ v4 ≤ 1 := by omega
    refine w_t (np := 52) (l2 := [some (eR a0), some (eI (a1)), some (eI (a2)), some (eI (a3)), some (eI (a4)), some (eI (a5)), some (eI (v4)), some (eI (v10)), some (eI (v16))]) (s2 := [eI (v10)]) rfl rfl rfl ?_
    refine b_ilt (t1 := 60) (t2 := 55) rfl rfl rfl (ev_w_in (by omega) (by omega)) (fun g20 => ?_) (fun g20 => ?_)
    · have b21 : -1 ≤ v10 ∧ v10 ≤ -1 := by omega
      refine w_t (np := 62) (l2 := [some (eR a0), some (eI (a1)), some (eI (a2)), some (eI (a3)), some (eI (a4)), some (eI (a5)), some (eI (v4)), some (eI (v10)), some (eI (v16))]) (s2 := [eI (v4)]) rfl rfl rfl ?_
      refine b_igt (t1 := 79) (t2 := 65) rfl rfl rfl (ev_w_in (by omega) (by omega)) (fun g21 => ?_) (fun g21 => ?_)
      · have b22 : 1 ≤ v4 ∧ v4 ≤ 1 := by omega
        refine w_t (np := 80) (l2 := [some (eR a0), some (eI (a1)), some (eI (a2)), some (eI (a3)), some (eI (a4)), some (eI (a5)), some (eI (v4)), some (eI (v10)), some (eI (v16))]) (s2 := [eI (0)]) rfl rfl rfl ?_
        exact b_rz rfl rfl (Or.inl rfl) (K m13 (0) I14 F18 (by decide))
      · have b22 : 0 ≤ v4 ∧ v4 ≤ 0 := by omega
        refine w_t (np := 67) (l2 := [some (eR a0), some (eI (a1)), some (eI (a2)), some (eI (a3)), some (eI (a4)), some (eI (a5)), some (eI (v4)), some (eI (v10)), some (eI (v16))]) (s2 := [eI (v10)]) rfl rfl rfl ?_
        refine b_igt (t1 := 79) (t2 := 70) rfl rfl rfl (ev_w_in (by omega) (by omega)) (fun g22 => False.elim (by omega)) (fun g22 => ?_)
        refine w_t (np := 72) (l2 := [some (eR a0), some (eI (a1)), some (eI (a2)), some (eI (a3)), some (eI (a4)), some (eI (a5)), some (eI (v4)), some (eI (v10)), some (eI (v16))]) (s2 := [eI (v16)]) rfl rfl rfl ?_
        refine b_igt (t1 := 79) (t2 := 75) rfl rfl rfl (ev_w_in (by omega) (by omega)) (fun g23 => ?_) (fun g23 => ?_)
        · have b24 : 1 ≤ v16 ∧ v16 ≤ 1 := by omega
          refine w_t (np := 80) (l2 := [some (eR a0), some (eI (a1)), some (eI (a2)), some (eI (a3)), some (eI (a4)), some (eI (a5)), some (eI (v4)), some (eI (v10)), some (eI (v16))]) (s2 := [eI (0)]) rfl rfl rfl ?_
          exact b_rz rfl rfl (Or.inl rfl) (K m13 (0) I14 F18 (by decide))
        · have b24 : -1 ≤ v16 ∧ v16 ≤ 0 := by omega
          refine w_t (np := 76) (l2 := [some (eR a0), some (eI (a1)), some (eI (a2)), some (eI (a3)), some (eI (a4)), some (eI (a5)), some (eI (v4)), some (eI (v10)), some (eI (v16))]) (s2 := [eI (1)]) rfl rfl rfl ?_
          refine w_go (t1 := 80) rfl rfl ?_
          exact b_rz rfl rfl (Or.inr rfl) (K m13 (1) I14 F18 (by decide))
    · have b21 : 0 ≤ v10 ∧ v10 ≤ 1 := by omega
      refine w_t (np := 57) (l2 := [some (eR a0), some (eI (a1)), some (eI (a2)), some (eI (a3)), some (eI (a4)), some (eI (a5)), some (eI (v4)), some (eI (v10)), some (eI (v16))]) (s2 := [eI (v16)]) rfl rfl rfl ?_
      refine b_ige (t1 := 75) (t2 := 60) rfl rfl rfl (ev_w_in (by omega) (by omega)) (fun g21 => ?_) (fun g21 => ?_)
      · have b22 : 0 ≤ v16 ∧ v16 ≤ 1 := by omega
        refine w_t (np := 76) (l2 := [some (eR a0), some (eI (a1)), some (eI (a2)), some (eI (a3)), some (eI (a4)), some (eI (a5)), some (eI (v4)), some (eI (v10)), some (eI (v16))]) (s2 := [eI (1)]) rfl rfl rfl ?_
        refine w_go (t1 := 80) rfl rfl ?_
        exact b_rz rfl rfl (Or.inr rfl) (K m13 (1) I14 F18 (by decide))
      · have b22 : -1 ≤ v16 ∧ v16 ≤ -1 := by omega
        refine w_t (np := 62) (l2 := [some (eR a0), some (eI (a1)), some (eI (a2)), some (eI (a3)), some (eI (a4)), some (eI (a5)), some (eI (v4)), some (eI (v10)), some (eI (v16))]) (s2 := [eI (v4)]) rfl rfl rfl ?_
        refine b_igt (t1 := 79) (t2 := 65) rfl rfl rfl (ev_w_in (by omega) (by omega)) (fun g22 => ?_) (fun g22 => ?_)
        · have b23 : 1 ≤ v4 ∧ v4 ≤ 1 := by omega
          refine w_t (np := 80) (l2 := [some (eR a0), some (eI (a1)), some (eI (a2)), some (eI (a3)), some (eI (a4)), some (eI (a5)), some (eI (v4)), some (eI (v10)), some (eI (v16))]) (s2 := [eI (0)]) rfl rfl rfl ?_
          exact b_rz rfl rfl (Or.inl rfl) (K m13 (0) I14 F18 (by decide))
        · have b23 : 0 ≤ v4 ∧ v4 ≤ 0 := by omega
          refine w_t (np := 67) (l2 := [some (eR a0), some (eI (a1)), some (eI (a2)), some (eI (a3)), some (eI (a4)), some (eI (a5)), some (eI (v4)), some (eI (v10)), some (eI (v16))]) (s2 := [eI (v10)]) rfl rfl rfl ?_
          refine b_igt (t1 := 79) (t2 := 70) rfl rfl rfl (ev_w_in (by omega) (by omega)) (fun g23 => ?_) (fun g23 => ?_)
          · have b24 : 1 ≤ v10 ∧ v10 ≤ 1 := by omega
            refine w_t (np := 80) (l2 := [some (eR a0), some (eI (a1)), some (eI (a2)), some (eI (a3)), some (eI (a4)), some (eI (a5)), some (eI (v4)), some (eI (v10)), some (eI (v16))]) (s2 := [eI (0)]) rfl rfl rfl ?_
            exact b_rz rfl rfl (Or.inl rfl) (K m13 (0) I14 F18 (by decide))
          · have b24 : 0 ≤ v10 ∧ v10 ≤ 0 := by omega
            refine w_t (np := 72) (l2 := [some (eR a0), some (eI (a1)), some (eI (a2)), some (eI (a3)), some (eI (a4)), some (eI (a5)), some (eI (v4)), some (eI (v10)), some (eI (v16))]) (s2 := [eI (v16)]) rfl rfl rfl ?_
            refine b_igt (t1 := 79) (t2 := 75) rfl rfl rfl (ev_w_in (by omega) (by omega)) (fun g24 => False.elim (by omega)) (fun g24 => ?_)
            refine w_t (np := 76) (l2 := [some (eR a0), some (eI (a1)), some (eI (a2)), some (eI (a3)), some (eI (a4)), some (eI (a5)), some (eI (v4)), some (eI (v10)), some (eI (v16))]) (s2 := [eI (1)]) rfl rfl rfl ?_
            refine w_go (t1 := 80) rfl rfl ?_
            exact b_rz rfl rfl (Or.inr rfl) (K m13 (1) I14 F18 (by decide))
theorem s_267 {L : Nat} {ρ : Nat → Int} {rc : eQ} {d : Nat} {f : eFr} {F : List eFr} {μ : eM} {g : Nat → Nat} {a0 : Int} {a1 : Int} {a2 : Int} {a3 : Int} {a4 : Int} (hI : SI g μ) (bA0 : -2147483648 ≤ a0 ∧ a0 ≤ 2147483647) (bA1 : -2147483648 ≤ a1 ∧ a1 ≤ 2147483647) (bA2 : -2147483648 ≤ a2 ∧ a2 ≤ 2147483647) (bA3 : -2147483648 ≤ a3 ∧ a3 ≤ 2147483647) (bA4 : 0 ≤ a4 ∧ a4 ≤ 9999) (K : ∀ (v : Int), (0 ≤ v ∧ v ≤ 1) → ex_q (dt_fg L ρ) rc (d + 2, (f.1, f.2.1, f.2.2.1, eI v :: f.2.2.2), F, μ)) : ex_q (dt_fg L ρ) rc (d + 1, (267, 0, [some (eI (a0)), some (eI (a1)), some (eI (a2)), some (eI (a3)), some (eI (a4))], []), f :: F, μ) := by
  refine w_t (np := 1) (l2 := [some (eI (a0)), some (eI (a1)), some (eI (a2)), some (eI (a3)), some (eI (a4))]) (s2 := [eI (a0)]) rfl rfl rfl ?_
  refine w_t (np := 3) (l2 := [some (eI (a0)), some (eI (a1)), some (eI (a2)), some (eI (a3)), some (eI (a4))]) (s2 := [eI (a4), eI (a0)]) rfl rfl rfl ?_
  obtain ⟨v1, e2⟩ : ∃ zz : Int, zz = -(a4) := ⟨_, rfl⟩
  have b3 : -9999 ≤ v1 ∧ v1 ≤ 0 := by omega
  refine w_t (np := 4) (l2 := [some (eI (a0)), some (eI (a1)), some (eI (a2)), some (eI (a3)), some (eI (a4))]) (s2 := [eI (v1), eI (a0)]) rfl (b_ineg (by rw [← e2]; exact ev_w_in (by omega) (by omega))) rfl ?_
  refine w_t (np := 6) (l2 := [some (eI (a0)), some (eI (a1)), some (eI (a2)), some (eI (a3)), some (eI (a4))]) (s2 := [eI (a4), eI (v1), eI (a0)]) rfl rfl rfl ?_
  refine w_cu (np := 9) (as := [eI (a0), eI (v1), eI (a4)]) (l2 := [some (eI (a0)), some (eI (v1)), some (eI (a4))]) (rest := []) rfl rfl rfl (Nat.ble_eq.mp rfl) rfl rfl rfl rfl ?_
  refine w_t (np := 1) (l2 := [some (eI (a0)), some (eI (v1)), some (eI (a4))]) (s2 := [eI (a0)]) rfl rfl rfl ?_
  refine w_t (np := 2) (l2 := [some (eI (a0)), some (eI (v1)), some (eI (a4))]) (s2 := [eI (v1), eI (a0)]) rfl rfl rfl ?_
  refine b_clt (t1 := 14) (t2 := 5) rfl rfl rfl (ev_w_in (by omega) (by omega)) (ev_w_in (by omega) (by omega)) (fun g4 => ?_) (fun g4 => ?_)
  · have b5 : -2147483648 ≤ a0 ∧ a0 ≤ -1 := by omega
    refine w_t (np := 15) (l2 := [some (eI (a0)), some (eI (v1)), some (eI (a4))]) (s2 := [eI (0)]) rfl rfl rfl ?_
    refine b_rz rfl rfl (Or.inl rfl) ?_
    show ex_q (dt_fg L ρ) rc (d + 1, (267, 9, [some (eI (a0)), some (eI (a1)), some (eI (a2)), some (eI (a3)), some (eI (a4))], [eI (0)]), f :: F, μ)
    refine b_ieq (t1 := 52) (t2 := 12) rfl rfl rfl rfl (fun g5 => ?_) (fun g5 => absurd g5 (by decide))
    refine w_t (np := 53) (l2 := [some (eI (a0)), some (eI (a1)), some (eI (a2)), some (eI (a3)), some (eI (a4))]) (s2 := [eI (0)]) rfl rfl rfl ?_
    exact b_rz rfl rfl (Or.inl rfl) (K (0) (by decide))
  · have b5 : -9999 ≤ a0 ∧ a0 ≤ 2147483647 := by omega
    refine w_t (np := 6) (l2 := [some (eI (a0)), some (eI (v1)), some (eI (a4))]) (s2 := [eI (a0)]) rfl rfl rfl ?_
    refine w_t (np := 7) (l2 := [some (eI (a0)), some (eI (v1)), some (eI (a4))]) (s2 := [eI (a4), eI (a0)]) rfl rfl rfl ?_
    refine b_cgt (t1 := 14) (t2 := 10) rfl rfl rfl (ev_w_in (by omega) (by omega)) (ev_w_in (by omega) (by omega)) (fun g5 => ?_) (fun g5 => ?_)
    · have b6 : 1 ≤ a0 ∧ a0 ≤ 2147483647 := by omega
      refine w_t (np := 15) (l2 := [some (eI (a0)), some (eI (v1)), some (eI (a4))]) (s2 := [eI (0)]) rfl rfl rfl ?_
      refine b_rz rfl rfl (Or.inl rfl) ?_
      show ex_q (dt_fg L ρ) rc (d + 1, (267, 9, [some (eI (a0)), some (eI (a1)), some (eI (a2)), some (eI (a3)), some (eI (a4))], [eI (0)]), f :: F, μ)
      refine b_ieq (t1 := 52) (t2 := 12) rfl rfl rfl rfl (fun g6 => ?_) (fun g6 => absurd g6 (by decide))
      refine w_t (np := 53) (l2 := [some (eI (a0)), some (eI (a1)), some (eI (a2)), some (eI (a3)), some (eI (a4))]) (s2 := [eI (0)]) rfl rfl rfl ?_
      exact b_rz rfl rfl (Or.inl rfl) (K (0) (by decide))
    · have b6 : -9999 ≤ a0 ∧ a0 ≤ 9999 := by omega
      refine w_t (np := 11) (l2 := [some (eI (a0)), some (eI (v1)), some (eI (a4))]) (s2 := [eI (1)]) rfl rfl rfl ?_
      refine w_go (t1 := 15) rfl rfl ?_
      refine b_rz rfl rfl (Or.inr rfl) ?_
      show ex_q (dt_fg L ρ) rc (d + 1, (267, 9, [some (eI (a0)), some (eI (a1)), some (eI (a2)), some (eI (a3)), some (eI (a4))], [eI (1)]), f :: F, μ)
      refine b_ieq (t1 := 52) (t2 := 12) rfl rfl rfl rfl (fun g6 => absurd g6 (by decide)) (fun g6 => ?_)
      refine w_t (np := 13) (l2 := [some (eI (a0)), some (eI (a1)), some (eI (a2)), some (eI (a3)), some (eI (a4))]) (s2 := [eI (a1)]) rfl rfl rfl ?_
      refine w_t (np := 15) (l2 := [some (eI (a0)), some (eI (a1)), some (eI (a2)), some (eI (a3)), some (eI (a4))]) (s2 := [eI (a4), eI (a1)]) rfl rfl rfl ?_
      obtain ⟨v7, e8⟩ : ∃ zz : Int, zz = -(a4) := ⟨_, rfl⟩
      have b9 : -9999 ≤ v7 ∧ v7 ≤ 0 := by omega
      refine w_t (np := 16) (l2 := [some (eI (a0)), some (eI (a1)), some (eI (a2)), some (eI (a3)), some (eI (a4))]) (s2 := [eI (v7), eI (a1)]) rfl (b_ineg (by rw [← e8]; exact ev_w_in (by omega) (by omega))) rfl ?_
      refine w_t (np := 18) (l2 := [some (eI (a0)), some (eI (a1)), some (eI (a2)), some (eI (a3)), some (eI (a4))]) (s2 := [eI (a4), eI (v7), eI (a1)]) rfl rfl rfl ?_
      refine w_cu (np := 21) (as := [eI (a1), eI (v7), eI (a4)]) (l2 := [some (eI (a1)), some (eI (v7)), some (eI (a4))]) (rest := []) rfl rfl rfl (Nat.ble_eq.mp rfl) rfl rfl rfl rfl ?_
      refine w_t (np := 1) (l2 := [some (eI (a1)), some (eI (v7)), some (eI (a4))]) (s2 := [eI (a1)]) rfl rfl rfl ?_
      refine w_t (np := 2) (l2 := [some (eI (a1)), some (eI (v7)), some (eI (a4))]) (s2 := [eI (v7), eI (a1)]) rfl rfl rfl ?_
      refine b_clt (t1 := 14) (t2 := 5) rfl rfl rfl (ev_w_in (by omega) (by omega)) (ev_w_in (by omega) (by omega)) (fun g10 => ?_) (fun g10 => ?_)
      · have b11 : -2147483648 ≤ a1 ∧ a1 ≤ -1 := by omega
        refine w_t (np := 15) (l2 := [some (eI (a1)), some (eI (v7)), some (eI (a4))]) (s2 := [eI (0)]) rfl rfl rfl ?_
        refine b_rz rfl rfl (Or.inl rfl) ?_
        show ex_q (dt_fg L ρ) rc (d + 1, (267, 21, [some (eI (a0)), some (eI (a1)), some (eI (a2)), some (eI (a3)), some (eI (a4))], [eI (0)]), f :: F, μ)
        refine b_ieq (t1 := 52) (t2 := 24) rfl rfl rfl rfl (fun g11 => ?_) (fun g11 => absurd g11 (by decide))
        refine w_t (np := 53) (l2 := [some (eI (a0)), some (eI (a1)), some (eI (a2)), some (eI (a3)), some (eI (a4))]) (s2 := [eI (0)]) rfl rfl rfl ?_
        exact b_rz rfl rfl (Or.inl rfl) (K (0) (by decide))
      · have b11 : -9999 ≤ a1 ∧ a1 ≤ 2147483647 := by omega
        refine w_t (np := 6) (l2 := [some (eI (a1)), some (eI (v7)), some (eI (a4))]) (s2 := [eI (a1)]) rfl rfl rfl ?_
        refine w_t (np := 7) (l2 := [some (eI (a1)), some (eI (v7)), some (eI (a4))]) (s2 := [eI (a4), eI (a1)]) rfl rfl rfl ?_
        refine b_cgt (t1 := 14) (t2 := 10) rfl rfl rfl (ev_w_in (by omega) (by omega)) (ev_w_in (by omega) (by omega)) (fun g11 => ?_) (fun g11 => ?_)
        · have b12 : 1 ≤ a1 ∧ a1 ≤ 2147483647 := by omega
          refine w_t (np := 15) (l2 := [some (eI (a1)), some (eI (v7)), some (eI (a4))]) (s2 := [eI (0)]) rfl rfl rfl ?_
          refine b_rz rfl rfl (Or.inl rfl) ?_
          show ex_q (dt_fg L ρ) rc (d + 1, (267, 21, [some (eI (a0)), some (eI (a1)), some (eI (a2)), some (eI (a3)), some (eI (a4))], [eI (0)]), f :: F, μ)
          refine b_ieq (t1 := 52) (t2 := 24) rfl rfl rfl rfl (fun g12 => ?_) (fun g12 => absurd g12 (by decide))
          refine w_t (np := 53) (l2 := [some (eI (a0)), some (eI (a1)), some (eI (a2)), some (eI (a3)), some (eI (a4))]) (s2 := [eI (0)]) rfl rfl rfl ?_
          exact b_rz rfl rfl (Or.inl rfl) (K (0) (by decide))
        · have b12 : -9999 ≤ a1 ∧ a1 ≤ 9999 := by omega
          refine w_t (np := 11) (l2 := [some (eI (a1)), some (eI (v7)), some (eI (a4))]) (s2 := [eI (1)]) rfl rfl rfl ?_
          refine w_go (t1 := 15) rfl rfl ?_
          refine b_rz rfl rfl (Or.inr rfl) ?_
          show ex_q (dt_fg L ρ) rc (d + 1, (267, 21, [some (eI (a0)), some (eI (a1)), some (eI (a2)), some (eI (a3)), some (eI (a4))], [eI (1)]), f :: F, μ)
          refine b_ieq (t1 := 52) (t2 := 24) rfl rfl rfl rfl (fun g12 => absurd g12 (by decide)) (fun g12 => ?_)
          refine w_t (np := 25) (l2 := [some (eI (a0)), some (eI (a1)), some (eI (a2)), some (eI (a3)), some (eI (a4))]) (s2 := [eI (a2)]) rfl rfl rfl ?_
          refine w_t (np := 27) (l2 := [some (eI (a0)), some (eI (a1)), some (eI (a2)), some (eI (a3)), some (eI (a4))]) (s2 := [eI (a4), eI (a2)]) rfl rfl rfl ?_
          obtain ⟨v13, e14⟩ : ∃ zz : Int, zz = -(a4) := ⟨_, rfl⟩
          have b15 : -9999 ≤ v13 ∧ v13 ≤ 0 := by omega
          refine w_t (np := 28) (l2 := [some (eI (a0)), some (eI (a1)), some (eI (a2)), some (eI (a3)), some (eI (a4))]) (s2 := [eI (v13), eI (a2)]) rfl (b_ineg (by rw [← e14]; exact ev_w_in (by omega) (by omega))) rfl ?_
          refine w_t (np := 30) (l2 := [some (eI (a0)), some (eI (a1)), some (eI (a2)), some (eI (a3)), some (eI (a4))]) (s2 := [eI (a4), eI (v13), eI (a2)]) rfl rfl rfl ?_
          refine w_cu (np := 33) (as := [eI (a2), eI (v13), eI (a4)]) (l2 := [some (eI (a2)), some (eI (v13)), some (eI (a4))]) (rest := []) rfl rfl rfl (Nat.ble_eq.mp rfl) rfl rfl rfl rfl ?_
          refine w_t (np := 1) (l2 := [some (eI (a2)), some (eI (v13)), some (eI (a4))]) (s2 := [eI (a2)]) rfl rfl rfl ?_
          refine w_t (np := 2) (l2 := [some (eI (a2)), some (eI (v13)), some (eI (a4))]) (s2 := [eI (v13), eI (a2)]) rfl rfl rfl ?_
          refine b_clt (t1 := 14) (t2 := 5) rfl rfl rfl (ev_w_in (by omega) (by omega)) (ev_w_in (by omega) (by omega)) (fun g16 => ?_) (fun g16 => ?_)
          · have b17 : -2147483648 ≤ a2 ∧ a2 ≤ -1 := by omega
            refine w_t (np := 15) (l2 := [some (eI (a2)), some (eI (v13)), some (eI (a4))]) (s2 := [eI (0)]) rfl rfl rfl ?_
            refine b_rz rfl rfl (Or.inl rfl) ?_
            show ex_q (dt_fg L ρ) rc (d + 1, (267, 33, [some (eI (a0)), some (eI (a1)), some (eI (a2)), some (eI (a3)), some (eI (a4))], [eI (0)]), f :: F, μ)
            refine b_ieq (t1 := 52) (t2 := 36) rfl rfl rfl rfl (fun g17 => ?_) (fun g17 => absurd g17 (by decide))
            refine w_t (np := 53) (l2 := [some (eI (a0)), some (eI (a1)), some (eI (a2)), some (eI (a3)), some (eI (a4))]) (s2 := [eI (0)]) rfl rfl rfl ?_
            exact b_rz rfl rfl (Or.inl rfl) (K (0) (by decide))
          · have b17 : -9999 ≤ a2 ∧ a2 ≤ 2147483647 := by omega
            refine w_t (np := 6) (l2 := [some (eI (a2)), some (eI (v13)), some (eI (a4))]) (s2 := [eI (a2)]) rfl rfl rfl ?_
            refine w_t (np := 7) (l2 := [some (eI (a2)), some (eI (v13)), some (eI (a4))]) (s2 := [eI (a4), eI (a2)]) rfl rfl rfl ?_
            refine b_cgt (t1 := 14) (t2 := 10) rfl rfl rfl (ev_w_in (by omega) (by omega)) (ev_w_in (by omega) (by omega)) (fun g17 => ?_) (fun g17 => ?_)
            · have b18 : 1 ≤ a2 ∧ a2 ≤ 2147483647 := by omega
              refine w_t (np := 15) (l2 := [some (eI (a2)), some (eI (v13)), some (eI (a4))]) (s2 := [eI (0)]) rfl rfl rfl ?_
              refine b_rz rfl rfl (Or.inl rfl) ?_
              show ex_q (dt_fg L ρ) rc (d + 1, (267, 33, [some (eI (a0)), some (eI (a1)), some (eI (a2)), some (eI (a3)), some (eI (a4))], [eI (0)]), f :: F, μ)
              refine b_ieq (t1 := 52) (t2 := 36) rfl rfl rfl rfl (fun g18 => ?_) (fun g18 => absurd g18 (by decide))
              refine w_t (np := 53) (l2 := [some (eI (a0)), some (eI (a1)), some (eI (a2)), some (eI (a3)), some (eI (a4))]) (s2 := [eI (0)]) rfl rfl rfl ?_
              exact b_rz rfl rfl (Or.inl rfl) (K (0) (by decide))
            · have b18 : -9999 ≤ a2 ∧ a2 ≤ 9999 := by omega
              refine w_t (np := 11) (l2 := [some (eI (a2)), some (eI (v13)), some (eI (a4))]) (s2 := [eI (1)]) rfl rfl rfl ?_
              refine w_go (t1 := 15) rfl rfl ?_
              refine b_rz rfl rfl (Or.inr rfl) ?_
              show ex_q (dt_fg L ρ) rc (d + 1, (267, 33, [some (eI (a0)), some (eI (a1)), some (eI (a2)), some (eI (a3)), some (eI (a4))], [eI (1)]), f :: F, μ)
              refine b_ieq (t1 := 52) (t2 := 36) rfl rfl rfl rfl (fun g18 => absurd g18 (by decide)) (fun g18 => ?_)
              refine w_t (np := 37) (l2 := [some (eI (a0)), some (eI (a1)), some (eI (a2)), some (eI (a3)), some (eI (a4))]) (s2 := [eI (a3)]) rfl rfl rfl ?_
              refine w_t (np := 39) (l2 := [some (eI (a0)), some (eI (a1)), some (eI (a2)), some (eI (a3)), some (eI (a4))]) (s2 := [eI (a4), eI (a3)]) rfl rfl rfl ?_
              obtain ⟨v19, e20⟩ : ∃ zz : Int, zz = -(a4) := ⟨_, rfl⟩
              have b21 : -9999 ≤ v19 ∧ v19 ≤ 0 := by omega
              refine w_t (np := 40) (l2 := [some (eI (a0)), some (eI (a1)), some (eI (a2)), some (eI (a3)), some (eI (a4))]) (s2 := [eI (v19), eI (a3)]) rfl (b_ineg (by rw [← e20]; exact ev_w_in (by omega) (by omega))) rfl ?_
              refine w_t (np := 42) (l2 := [some (eI (a0)), some (eI (a1)), some (eI (a2)), some (eI (a3)), some (eI (a4))]) (s2 := [eI (a4), eI (v19), eI (a3)]) rfl rfl rfl ?_
              refine w_cu (np := 45) (as := [eI (a3), eI (v19), eI (a4)]) (l2 := [some (eI (a3)), some (eI (v19)), some (eI (a4))]) (rest := []) rfl rfl rfl (Nat.ble_eq.mp rfl) rfl rfl rfl rfl ?_
              refine w_t (np := 1) (l2 := [some (eI (a3)), some (eI (v19)), some (eI (a4))]) (s2 := [eI (a3)]) rfl rfl rfl ?_
              refine w_t (np := 2) (l2 := [some (eI (a3)), some (eI (v19)), some (eI (a4))]) (s2 := [eI (v19), eI (a3)]) rfl rfl rfl ?_
              refine b_clt (t1 := 14) (t2 := 5) rfl rfl rfl (ev_w_in (by omega) (by omega)) (ev_w_in (by omega) (by omega)) (fun g22 => ?_) (fun g22 => ?_)
              · have b23 : -2147483648 ≤ a3 ∧ a3 ≤ -1 := by omega
                refine w_t (np := 15) (l2 := [some (eI (a3)), some (eI (v19)), some (eI (a4))]) (s2 := [eI (0)]) rfl rfl rfl ?_
                refine b_rz rfl rfl (Or.inl rfl) ?_
                show ex_q (dt_fg L ρ) rc (d + 1, (267, 45, [some (eI (a0)), some (eI (a1)), some (eI (a2)), some (eI (a3)), some (eI (a4))], [eI (0)]), f :: F, μ)
                refine b_ieq (t1 := 52) (t2 := 48) rfl rfl rfl rfl (fun g23 => ?_) (fun g23 => absurd g23 (by decide))
                refine w_t (np := 53) (l2 := [some (eI (a0)), some (eI (a1)), some (eI (a2)), some (eI (a3)), some (eI (a4))]) (s2 := [eI (0)]) rfl rfl rfl ?_
                exact b_rz rfl rfl (Or.inl rfl) (K (0) (by decide))
              · have b23 : -9999 ≤ a3 ∧ a3 ≤ 2147483647 := by omega
                refine w_t (np := 6) (l2 := [some (eI (a3)), some (eI (v19)), some (eI (a4))]) (s2 := [eI (a3)]) rfl rfl rfl ?_
                refine w_t (np := 7) (l2 := [some (eI (a3)), some (eI (v19)), some (eI (a4))]) (s2 := [eI (a4), eI (a3)]) rfl rfl rfl ?_
                refine b_cgt (t1 := 14) (t2 := 10) rfl rfl rfl (ev_w_in (by omega) (by omega)) (ev_w_in (by omega) (by omega)) (fun g23 => ?_) (fun g23 => ?_)
                · have b24 : 1 ≤ a3 ∧ a3 ≤ 2147483647 := by omega
                  refine w_t (np := 15) (l2 := [some (eI (a3)), some (eI (v19)), some (eI (a4))]) (s2 := [eI (0)]) rfl rfl rfl ?_
                  refine b_rz rfl rfl (Or.inl rfl) ?_
                  show ex_q (dt_fg L ρ) rc (d + 1, (267, 45, [some (eI (a0)), some (eI (a1)), some (eI (a2)), some (eI (a3)), some (eI (a4))], [eI (0)]), f :: F, μ)
                  refine b_ieq (t1 := 52) (t2 := 48) rfl rfl rfl rfl (fun g24 => ?_) (fun g24 => absurd g24 (by decide))
                  refine w_t (np := 53) (l2 := [some (eI (a0)), some (eI (a1)), some (eI (a2)), some (eI (a3)), some (eI (a4))]) (s2 := [eI (0)]) rfl rfl rfl ?_
                  exact b_rz rfl rfl (Or.inl rfl) (K (0) (by decide))
                · have b24 : -9999 ≤ a3 ∧ a3 ≤ 9999 := by omega
                  refine w_t (np := 11) (l2 := [some (eI (a3)), some (eI (v19)), some (eI (a4))]) (s2 := [eI (1)]) rfl rfl rfl ?_
                  refine w_go (t1 := 15) rfl rfl ?_
                  refine b_rz rfl rfl (Or.inr rfl) ?_
                  show ex_q (dt_fg L ρ) rc (d + 1, (267, 45, [some (eI (a0)), some (eI (a1)), some (eI (a2)), some (eI (a3)), some (eI (a4))], [eI (1)]), f :: F, μ)
                  refine b_ieq (t1 := 52) (t2 := 48) rfl rfl rfl rfl (fun g24 => absurd g24 (by decide)) (fun g24 => ?_)
                  refine w_t (np := 49) (l2 := [some (eI (a0)), some (eI (a1)), some (eI (a2)), some (eI (a3)), some (eI (a4))]) (s2 := [eI (1)]) rfl rfl rfl ?_
                  refine w_go (t1 := 53) rfl rfl ?_
                  exact b_rz rfl rfl (Or.inr rfl) (K (1) (by decide))
def l_268 : List Nat := [13313, 13314, 13315, 13316, 13317, 13318]
theorem s_268 {L : Nat} {ρ : Nat → Int} {rc : eQ} {d : Nat} {f : eFr} {F : List eFr} {μ : eM} {g : Nat → Nat} {a0 : Nat} {a1 : Int} {a2 : Int} {a3 : Int} {a4 : Int} (hI : SI g μ) (gA0 : g a0 = 52) (bA1 : -2147483648 ≤ a1 ∧ a1 ≤ 2147483647) (bA2 : -2147483648 ≤ a2 ∧ a2 ≤ 2147483647) (bA3 : -2147483648 ≤ a3 ∧ a3 ≤ 2147483647) (bA4 : -2147483648 ≤ a4 ∧ a4 ≤ 2147483647) (K : ∀ (μ2 : eM) (v : Int), SI g μ2 → Fr l_268 0 0 g μ μ2 → (-2147483648 ≤ v ∧ v ≤ 2147483647) → ex_q (dt_fg L ρ) rc (d + 7, (f.1, f.2.1, f.2.2.1, eI v :: f.2.2.2), F, μ2)) : ex_q (dt_fg L ρ) rc (d + 6, (268, 0, [some (eR a0), some (eI (a1)), some (eI (a2)), some (eI (a3)), some (eI (a4)), none], []), f :: F, μ) := by
  have F0 : Fr l_268 0 0 g μ μ := Fr.r
  refine w_t (np := 1) (l2 := [some (eR a0), some (eI (a1)), some (eI (a2)), some (eI (a3)), some (eI (a4)), none]) (s2 := [eR a0]) rfl (s_an rfl (pos_g hI gA0 (by decide))) rfl ?_
  refine w_t (np := 2) (l2 := [some (eR a0), some (eI (a1)), some (eI (a2)), some (eI (a3)), some (eI (a4)), none]) (s2 := [eI (a1), eR a0]) rfl rfl rfl ?_
  refine w_t (np := 3) (l2 := [some (eR a0), some (eI (a1)), some (eI (a2)), some (eI (a3)), some (eI (a4)), none]) (s2 := [eI (a2), eI (a1), eR a0]) rfl rfl rfl ?_
  refine w_t (np := 4) (l2 := [some (eR a0), some (eI (a1)), some (eI (a2)), some (eI (a3)), some (eI (a4)), none]) (s2 := [eI (a3), eI (a2), eI (a1), eR a0]) rfl rfl rfl ?_
  refine w_t (np := 6) (l2 := [some (eR a0), some (eI (a1)), some (eI (a2)), some (eI (a3)), some (eI (a4)), none]) (s2 := [eI (a4), eI (a3), eI (a2), eI (a1), eR a0]) rfl rfl rfl ?_
  refine w_t (np := 9) (l2 := [some (eR a0), some (eI (a1)), some (eI (a2)), some (eI (a3)), some (eI (a4)), none]) (s2 := [eI (9999), eI (a4), eI (a3), eI (a2), eI (a1), eR a0]) rfl rfl rfl ?_
  refine w_cu (np := 12) (as := [eI (a1), eI (a2), eI (a3), eI (a4), eI (9999)]) (l2 := [some (eI (a1)), some (eI (a2)), some (eI (a3)), some (eI (a4)), some (eI (9999))]) (rest := [eR a0]) rfl rfl rfl (Nat.ble_eq.mp rfl) rfl rfl rfl rfl ?_
  refine s_267 (a0 := a1) (a1 := a2) (a2 := a3) (a3 := a4) (a4 := 9999) hI (by omega) (by omega) (by omega) (by omega) (by decide) ?_
  intro v1 b2
  show ex_q (dt_fg L ρ) rc (d + 6, (268, 12, [some (eR a0), some (eI (a1)), some (eI (a2)), some (eI (a3)), some (eI (a4)), none], [eI (v1), eR a0]), f :: F, μ)
  refine b_ieq (t1 := 19) (t2 := 15) rfl rfl rfl (ev_w_in (by omega) (by omega)) (fun g3 => ?_) (fun g3 => ?_)
  · have b4 : 0 ≤ v1 ∧ v1 ≤ 0 := by omega
    refine w_t (np := 20) (l2 := [some (eR a0), some (eI (a1)), some (eI (a2)), some (eI (a3)), some (eI (a4)), none]) (s2 := [eI (1), eR a0]) rfl rfl rfl ?_
    refine w_cw (np := 23) (as := [eI (1)]) (l2 := [some (eR a0), some (eI (1))]) (rest := []) rfl rfl rfl (Nat.ble_eq.mp rfl) rfl rfl rfl (hI.kd gA0 (by decide) (n := 69) rfl) rfl ?_
    refine w_t (np := 1) (l2 := [some (eR a0), some (eI (1))]) (s2 := [eR a0]) rfl (s_an rfl (pos_g hI gA0 (by decide))) rfl ?_
    refine w_t (np := 2) (l2 := [some (eR a0), some (eI (1))]) (s2 := [eI (0), eR a0]) rfl rfl rfl ?_
    refine j_pf (np := 5) (w := 0) rfl rfl hI gA0 (by decide) (n := 69) rfl rfl (hO_i (lo := -2147483648) (hi := 2147483647) rfl (by decide)) ?_
    intro m4 I5 W6
    have F7 : Fr l_268 0 0 g μ m4 := F0.w W6 gA0 rfl
    refine w_t (np := 6) (l2 := [some (eR a0), some (eI (1))]) (s2 := [eR a0]) rfl (s_an rfl (pos_g I5 gA0 (by decide))) rfl ?_
    refine w_t (np := 7) (l2 := [some (eR a0), some (eI (1))]) (s2 := [eI (1), eR a0]) rfl rfl rfl ?_
    refine j_pf (np := 10) (w := 1) rfl rfl I5 gA0 (by decide) (n := 69) rfl rfl (hO_i (lo := -2147483648) (hi := 2147483647) rfl (by decide)) ?_
    intro m8 I9 W10
    have F11 : Fr l_268 0 0 g μ m8 := F7.w W10 gA0 rfl
    refine w_t (np := 11) (l2 := [some (eR a0), some (eI (1))]) (s2 := [eI (1)]) rfl rfl rfl ?_
    refine b_ine (t1 := 18) (t2 := 14) rfl rfl rfl rfl (fun g12 => ?_) (fun g12 => absurd g12 (by decide))
    refine w_t (np := 19) (l2 := [some (eR a0), some (eI (1))]) (s2 := [eI (0)]) rfl rfl rfl ?_
    refine b_rz rfl rfl (Or.inl rfl) ?_
    show ex_q (dt_fg L ρ) rc (d + 6, (268, 23, [some (eR a0), some (eI (a1)), some (eI (a2)), some (eI (a3)), some (eI (a4)), none], [eI (0)]), f :: F, m8)
    refine b_ine (t1 := 28) (t2 := 26) rfl rfl rfl rfl (fun g13 => absurd g13 (by decide)) (fun g13 => ?_)
    refine w_t (np := 27) (l2 := [some (eR a0), some (eI (a1)), some (eI (a2)), some (eI (a3)), some (eI (a4)), none]) (s2 := [eI (-1)]) rfl rfl rfl ?_
    exact b_ri rfl rfl (K m8 (-1) I9 F11 (by decide))
  · have b4 : 1 ≤ v1 ∧ v1 ≤ 1 := by omega
    refine w_t (np := 16) (l2 := [some (eR a0), some (eI (a1)), some (eI (a2)), some (eI (a3)), some (eI (a4)), none]) (s2 := [eI (0), eR a0]) rfl rfl rfl ?_
    refine w_go (t1 := 20) rfl rfl ?_
    refine w_cw (np := 23) (as := [eI (0)]) (l2 := [some (eR a0), some (eI (0))]) (rest := []) rfl rfl rfl (Nat.ble_eq.mp rfl) rfl rfl rfl (hI.kd gA0 (by decide) (n := 69) rfl) rfl ?_
    refine w_t (np := 1) (l2 := [some (eR a0), some (eI (0))]) (s2 := [eR a0]) rfl (s_an rfl (pos_g hI gA0 (by decide))) rfl ?_
    refine w_t (np := 2) (l2 := [some (eR a0), some (eI (0))]) (s2 := [eI (0), eR a0]) rfl rfl rfl ?_
    refine j_pf (np := 5) (w := 0) rfl rfl hI gA0 (by decide) (n := 69) rfl rfl (hO_i (lo := -2147483648) (hi := 2147483647) rfl (by decide)) ?_
    intro m4 I5 W6
    have F7 : Fr l_268 0 0 g μ m4 := F0.w W6 gA0 rfl
    refine w_t (np := 6) (l2 := [some (eR a0), some (eI (0))]) (s2 := [eR a0]) rfl (s_an rfl (pos_g I5 gA0 (by decide))) rfl ?_
    refine w_t (np := 7) (l2 := [some (eR a0), some (eI (0))]) (s2 := [eI (0), eR a0]) rfl rfl rfl ?_
    refine j_pf (np := 10) (w := 0) rfl rfl I5 gA0 (by decide) (n := 69) rfl rfl (hO_i (lo := -2147483648) (hi := 2147483647) rfl (by decide)) ?_
    intro m8 I9 W10
    have F11 : Fr l_268 0 0 g μ m8 := F7.w W10 gA0 rfl
    refine w_t (np := 11) (l2 := [some (eR a0), some (eI (0))]) (s2 := [eI (0)]) rfl rfl rfl ?_
    refine b_ine (t1 := 18) (t2 := 14) rfl rfl rfl rfl (fun g12 => absurd g12 (by decide)) (fun g12 => ?_)
    refine w_t (np := 15) (l2 := [some (eR a0), some (eI (0))]) (s2 := [eI (1)]) rfl rfl rfl ?_
    refine w_go (t1 := 19) rfl rfl ?_
    refine b_rz rfl rfl (Or.inr rfl) ?_
    show ex_q (dt_fg L ρ) rc (d + 6, (268, 23, [some (eR a0), some (eI (a1)), some (eI (a2)), some (eI (a3)), some (eI (a4)), none], [eI (1)]), f :: F, m8)
    refine b_ine (t1 := 28) (t2 := 26) rfl rfl rfl rfl (fun g13 => ?_) (fun g13 => absurd g13 (by decide))
    refine w_t (np := 29) (l2 := [some (eR a0), some (eI (a1)), some (eI (a2)), some (eI (a3)), some (eI (a4)), none]) (s2 := [eI (0)]) rfl rfl rfl ?_
    refine w_t (np := 31) (l2 := [some (eR a0), some (eI (a1)), some (eI (a2)), some (eI (a3)), some (eI (a4)), some (eI (0))]) (s2 := []) rfl rfl rfl ?_
    have hL31 : ∀ (n14 : Nat) (m18 : eM) (i16 : Int), SI g m18 → Fr l_268 0 0 g μ m18 → (0 ≤ i16 ∧ i16 ≤ 890) → m18.1 a0 1 = 0 → m18.1 a0 0 = 0 → n14 = (890 - i16).toNat → ex_q (dt_fg L ρ) rc (d + 6, (268, 31, [some (eR a0), some (eI (a1)), some (eI (a2)), some (eI (a3)), some (eI (a4)), some (eI (i16))], []), f :: F, m18) := by
      intro n14
      induction n14 using Nat.strongRecOn with
      | _ n14 ih15 =>
      intro m18 i16 I19 F20 b17 k21 k22 hn23
      refine w_t (np := 33) (l2 := [some (eR a0), some (eI (a1)), some (eI (a2)), some (eI (a3)), some (eI (a4)), some (eI (i16))]) (s2 := [eI (i16)]) rfl rfl rfl ?_
      refine w_t (np := 34) (l2 := [some (eR a0), some (eI (a1)), some (eI (a2)), some (eI (a3)), some (eI (a4)), some (eI (i16))]) (s2 := [eR a0, eI (i16)]) rfl (s_an rfl (pos_g I19 gA0 (by decide))) rfl ?_
      refine j_gi (np := 37) rfl rfl rfl I19 gA0 (by decide) (n := 69) rfl rfl (lo := 0) (hi := 890) rfl ?_
      intro v24 e25 b26
      refine b_cge (t1 := 63) (t2 := 40) rfl rfl rfl (ev_w_in (by omega) (by omega)) (ev_w_in (by omega) (by omega)) (fun g27 => ?_) (fun g27 => ?_)
      · refine w_t (np := 64) (l2 := [some (eR a0), some (eI (a1)), some (eI (a2)), some (eI (a3)), some (eI (a4)), some (eI (i16))]) (s2 := [eR a0]) rfl (s_an rfl (pos_g I19 gA0 (by decide))) rfl ?_
        refine w_t (np := 65) (l2 := [some (eR a0), some (eI (a1)), some (eI (a2)), some (eI (a3)), some (eI (a4)), some (eI (i16))]) (s2 := [eI (5), eR a0]) rfl rfl rfl ?_
        refine w_cw (np := 68) (as := [eI (5)]) (l2 := [some (eR a0), some (eI (5))]) (rest := []) rfl rfl rfl (Nat.ble_eq.mp rfl) rfl rfl rfl (I19.kd gA0 (by decide) (n := 69) rfl) rfl ?_
        refine w_t (np := 1) (l2 := [some (eR a0), some (eI (5))]) (s2 := [eR a0]) rfl (s_an rfl (pos_g I19 gA0 (by decide))) rfl ?_
        refine w_t (np := 2) (l2 := [some (eR a0), some (eI (5))]) (s2 := [eI (5), eR a0]) rfl rfl rfl ?_
        refine j_pf (np := 5) (w := 5) rfl rfl I19 gA0 (by decide) (n := 69) rfl rfl (hO_i (lo := -2147483648) (hi := 2147483647) rfl (by decide)) ?_
        intro m28 I29 W30
        have F31 : Fr l_268 0 0 g μ m28 := F20.w W30 gA0 rfl
        refine w_t (np := 6) (l2 := [some (eR a0), some (eI (5))]) (s2 := [eI (-1)]) rfl rfl rfl ?_
        refine b_ri rfl rfl ?_
        show ex_q (dt_fg L ρ) rc (d + 6, (268, 68, [some (eR a0), some (eI (a1)), some (eI (a2)), some (eI (a3)), some (eI (a4)), some (eI (i16))], [eI (-1)]), f :: F, m28)
        exact b_ri rfl rfl (K m28 (-1) I29 F31 (by decide))
      · have b28 : 0 ≤ i16 ∧ i16 ≤ 889 := by omega
        have b29 : 1 ≤ v24 ∧ v24 ≤ 890 := by omega
        refine w_t (np := 41) (l2 := [some (eR a0), some (eI (a1)), some (eI (a2)), some (eI (a3)), some (eI (a4)), some (eI (i16))]) (s2 := [eR a0]) rfl (s_an rfl (pos_g I19 gA0 (by decide))) rfl ?_
        refine w_t (np := 43) (l2 := [some (eR a0), some (eI (a1)), some (eI (a2)), some (eI (a3)), some (eI (a4)), some (eI (i16))]) (s2 := [eI (i16), eR a0]) rfl rfl rfl ?_
        refine w_t (np := 44) (l2 := [some (eR a0), some (eI (a1)), some (eI (a2)), some (eI (a3)), some (eI (a4)), some (eI (i16))]) (s2 := [eI (a1), eI (i16), eR a0]) rfl rfl rfl ?_
        refine w_t (np := 45) (l2 := [some (eR a0), some (eI (a1)), some (eI (a2)), some (eI (a3)), some (eI (a4)), some (eI (i16))]) (s2 := [eI (a2), eI (a1), eI (i16), eR a0]) rfl rfl rfl ?_
        refine w_t (np := 46) (l2 := [some (eR a0), some (eI (a1)), some (eI (a2)), some (eI (a3)), some (eI (a4)), some (eI (i16))]) (s2 := [eI (a3), eI (a2), eI (a1), eI (i16), eR a0]) rfl rfl rfl ?_
        refine w_t (np := 48) (l2 := [some (eR a0), some (eI (a1)), some (eI (a2)), some (eI (a3)), some (eI (a4)), some (eI (i16))]) (s2 := [eI (a4), eI (a3), eI (a2), eI (a1), eI (i16), eR a0]) rfl rfl rfl ?_
        refine w_cw (np := 51) (as := [eI (i16), eI (a1), eI (a2), eI (a3), eI (a4)]) (l2 := [some (eR a0), some (eI (i16)), some (eI (a1)), some (eI (a2)), some (eI (a3)), some (eI (a4)), none, none, none]) (rest := []) rfl rfl rfl (Nat.ble_eq.mp rfl) rfl rfl rfl (I19.kd gA0 (by decide) (n := 69) rfl) rfl ?_
        refine s_266 (a1 := i16) (a2 := a1) (a3 := a2) (a4 := a3) (a5 := a4) I19 gA0 (by omega) (by omega) (by omega) (by omega) (by omega) ?_
        intro m28 v31 I29 F30 b32
        have F33 : Fr l_268 0 0 g μ m28 := F20.t F30 rfl
        show ex_q (dt_fg L ρ) rc (d + 6, (268, 51, [some (eR a0), some (eI (a1)), some (eI (a2)), some (eI (a3)), some (eI (a4)), some (eI (i16))], [eI (v31)]), f :: F, m28)
        refine b_ieq (t1 := 57) (t2 := 54) rfl rfl rfl (ev_w_in (by omega) (by omega)) (fun g34 => ?_) (fun g34 => ?_)
        · have b35 : 0 ≤ v31 ∧ v31 ≤ 0 := by omega
          obtain ⟨v35, e36⟩ : ∃ zz : Int, zz = (i16) + (1) := ⟨_, rfl⟩
          have b37 : 1 ≤ v35 ∧ v35 ≤ 890 := by omega
          refine w_t (np := 60) (l2 := [some (eR a0), some (eI (a1)), some (eI (a2)), some (eI (a3)), some (eI (a4)), some (eI (v35))]) (s2 := []) rfl (b_iinc rfl (by rw [← e36]; exact ev_w_in (by omega) (by omega)) rfl) rfl ?_
          refine w_go (t1 := 31) rfl rfl ?_
          exact ih15 (890 - (v35)).toNat (by omega) m28 (v35) I29 F33 (by omega) (F30.k k21 gA0 (by decide) rfl) (F30.k k22 gA0 (by decide) rfl)    rfl
        · have b35 : 1 ≤ v31 ∧ v31 ≤ 1 := by omega
          refine w_t (np := 56) (l2 := [some (eR a0), some (eI (a1)), some (eI (a2)), some (eI (a3)), some (eI (a4)), some (eI (i16))]) (s2 := [eI (i16)]) rfl rfl rfl ?_
          exact b_ri rfl rfl (K m28 (i16) I29 F33 (by omega))
    exact hL31 _ m8 (0) I9 F11 (by decide) (W10.slot W6.at (by decide)) W10.at    rfl
theorem s_269 {L : Nat} {ρ : Nat → Int} {rc : eQ} {d : Nat} {f : eFr} {F : List eFr} {μ : eM} {g : Nat → Nat} {a0 : Nat} {a1 : Int} {a2 : Int} {le : Int} (hI : SI g μ) (gA0 : g a0 = 52) (bA1 : 0 ≤ a1 ∧ a1 ≤ 889) (bA2 : 0 ≤ a2 ∧ a2 ≤ 5) (h_le : μ.1 a0 7 = le) (hp0 : a2 ≤ le) (K : ∀ (v : Int), (0 ≤ v ∧ v ≤ 889) → ex_q (dt_fg L ρ) rc (d + 1, (f.1, f.2.1, f.2.2.1, eI v :: f.2.2.2), F, μ)) : ex_q (dt_fg L ρ) rc (d, (269, 0, [some (eR a0), some (eI (a1)), some (eI (a2)), none, none], []), f :: F, μ) := by
  have b_le : 0 ≤ le ∧ le ≤ 5 := by
    rw [← h_le]
    exact hI.int gA0 (by decide) (n := 69) rfl (by decide) rfl
  refine w_t (np := 1) (l2 := [some (eR a0), some (eI (a1)), some (eI (a2)), none, none]) (s2 := [eI (a1)]) rfl rfl rfl ?_
  refine w_t (np := 2) (l2 := [some (eR a0), some (eI (a1)), some (eI (a2)), some (eI (a1)), none]) (s2 := []) rfl rfl rfl ?_
  refine w_t (np := 3) (l2 := [some (eR a0), some (eI (a1)), some (eI (a2)), some (eI (a1)), none]) (s2 := [eI (0)]) rfl rfl rfl ?_
  refine w_t (np := 5) (l2 := [some (eR a0), some (eI (a1)), some (eI (a2)), some (eI (a1)), some (eI (0))]) (s2 := []) rfl rfl rfl ?_
  have hL5 : ∀ (n1 : Nat) (i3 : Int) (i5 : Int), (0 ≤ i3 ∧ i3 ≤ 889) → (0 ≤ i5 ∧ i5 ≤ 5) → n1 = (5 - i5).toNat → ex_q (dt_fg L ρ) rc (d, (269, 5, [some (eR a0), some (eI (a1)), some (eI (a2)), some (eI (i3)), some (eI (i5))], []), f :: F, μ) := by
    intro n1
    induction n1 using Nat.strongRecOn with
    | _ n1 ih2 =>
    intro i3 i5 b4 b6 hn7
    refine w_t (np := 7) (l2 := [some (eR a0), some (eI (a1)), some (eI (a2)), some (eI (i3)), some (eI (i5))]) (s2 := [eI (i5)]) rfl rfl rfl ?_
    refine w_t (np := 8) (l2 := [some (eR a0), some (eI (a1)), some (eI (a2)), some (eI (i3)), some (eI (i5))]) (s2 := [eI (a2), eI (i5)]) rfl rfl rfl ?_
    refine b_cge (t1 := 36) (t2 := 11) rfl rfl rfl (ev_w_in (by omega) (by omega)) (ev_w_in (by omega) (by omega)) (fun g8 => ?_) (fun g8 => ?_)
    · refine w_t (np := 37) (l2 := [some (eR a0), some (eI (a1)), some (eI (a2)), some (eI (i3)), some (eI (i5))]) (s2 := [eI (i3)]) rfl rfl rfl ?_
      exact b_ri rfl rfl (K (i3) (by omega))
    · have b9 : 0 ≤ i5 ∧ i5 ≤ 4 := by omega
      have b10 : 1 ≤ a2 ∧ a2 ≤ 5 := by omega
      refine w_t (np := 12) (l2 := [some (eR a0), some (eI (a1)), some (eI (a2)), some (eI (i3)), some (eI (i5))]) (s2 := [eR a0]) rfl (s_an rfl (pos_g hI gA0 (by decide))) rfl ?_
      refine j_gr (np := 15) rfl rfl hI gA0 (by decide) (n := 69) rfl rfl rfl ?_
      intro v9 e10 b11 z12
      have b11 : g v9 = 58 := Nat.eq_of_beq_eq_true b11
      refine w_t (np := 18) (l2 := [some (eR a0), some (eI (a1)), some (eI (a2)), some (eI (i3)), some (eI (i5))]) (s2 := [eI (890), eR v9]) rfl rfl rfl ?_
      refine w_t (np := 19) (l2 := [some (eR a0), some (eI (a1)), some (eI (a2)), some (eI (i3)), some (eI (i5))]) (s2 := [eR a0, eI (890), eR v9]) rfl (s_an rfl (pos_g hI gA0 (by decide))) rfl ?_
      refine w_gf (np := 22) (v := eI (le)) rfl rfl (hI.kd gA0 (by decide) (n := 69) rfl) (by rw [h_le]; rfl) ?_
      refine w_t (np := 24) (l2 := [some (eR a0), some (eI (a1)), some (eI (a2)), some (eI (i3)), some (eI (i5))]) (s2 := [eI (i5), eI (le), eI (890), eR v9]) rfl rfl rfl ?_
      obtain ⟨v13, e14⟩ : ∃ zz : Int, zz = (le) - (i5) := ⟨_, rfl⟩
      have b15 : -4 ≤ v13 ∧ v13 ≤ 5 := by omega
      refine w_t (np := 25) (l2 := [some (eR a0), some (eI (a1)), some (eI (a2)), some (eI (i3)), some (eI (i5))]) (s2 := [eI (v13), eI (890), eR v9]) rfl (b_isub (by rw [← e14]; exact ev_w_in (by omega) (by omega))) rfl ?_
      obtain ⟨v16, e17⟩ : ∃ zz : Int, zz = (890) * (v13) := ⟨_, rfl⟩
      have b18 : -3560 ≤ v16 ∧ v16 ≤ 4450 := by omega
      refine w_t (np := 26) (l2 := [some (eR a0), some (eI (a1)), some (eI (a2)), some (eI (i3)), some (eI (i5))]) (s2 := [eI (v16), eR v9]) rfl (b_imul (by rw [← e17]; exact ev_w_in (by omega) (by omega))) rfl ?_
      refine w_t (np := 27) (l2 := [some (eR a0), some (eI (a1)), some (eI (a2)), some (eI (i3)), some (eI (i5))]) (s2 := [eI (i3), eI (v16), eR v9]) rfl rfl rfl ?_
      obtain ⟨v19, e20⟩ : ∃ zz : Int, zz = (v16) + (i3) := ⟨_, rfl⟩
      have b21 : -3560 ≤ v19 ∧ v19 ≤ 5339 := by omega
      refine w_t (np := 28) (l2 := [some (eR a0), some (eI (a1)), some (eI (a2)), some (eI (i3)), some (eI (i5))]) (s2 := [eI (v19), eR v9]) rfl (b_iadd (by rw [← e20]; exact ev_w_in (by omega) (by omega))) rfl ?_
      have b22 : 890 ≤ v19 ∧ v19 ≤ 5339 := by omega
      refine j_ap (np := 29) rfl rfl hI b11 (by decide) (n := 5340) rfl rfl (lo := 0) (hi := 889) (by omega) (by omega) (SDfrom (by omega)) ?_
      intro v23 e24 b25
      refine w_t (np := 30) (l2 := [some (eR a0), some (eI (a1)), some (eI (a2)), some (eI (v23)), some (eI (i5))]) (s2 := []) rfl rfl rfl ?_
      obtain ⟨v26, e27⟩ : ∃ zz : Int, zz = (i5) + (1) := ⟨_, rfl⟩
      have b28 : 1 ≤ v26 ∧ v26 ≤ 5 := by omega
      refine w_t (np := 33) (l2 := [some (eR a0), some (eI (a1)), some (eI (a2)), some (eI (v23)), some (eI (v26))]) (s2 := []) rfl (b_iinc rfl (by rw [← e27]; exact ev_w_in (by omega) (by omega)) rfl) rfl ?_
      refine w_go (t1 := 5) rfl rfl ?_
      exact ih2 (5 - (v26)).toNat (by omega) (v23) (v26) (by omega) (by omega)     rfl
  exact hL5 _ (a1) (0) (by omega) (by decide)     rfl
def l_270 : List Nat := [13313, 13314]
theorem s_270 {L : Nat} {ρ : Nat → Int} {rc : eQ} {d : Nat} {f : eFr} {F : List eFr} {μ : eM} {g : Nat → Nat} {a0 : Nat} {a1 : Int} {a2 : Int} (hI : SI g μ) (gA0 : g a0 = 52) (bA1 : -2147483648 ≤ a1 ∧ a1 ≤ 2147483647) (bA2 : -2147483648 ≤ a2 ∧ a2 ≤ 2147483647) (K : ∀ (μ2 : eM) (v : Int), SI g μ2 → Fr l_270 0 0 g μ μ2 → (-2147483648 ≤ v ∧ v ≤ 2147483647) → ex_q (dt_fg L ρ) rc (d + 3, (f.1, f.2.1, f.2.2.1, eI v :: f.2.2.2), F, μ2)) : ex_q (dt_fg L ρ) rc (d + 2, (270, 0, [some (eR a0), some (eI (a1)), some (eI (a2))], []), f :: F, μ) := by
  have F0 : Fr l_270 0 0 g μ μ := Fr.r
  refine w_t (np := 1) (l2 := [some (eR a0), some (eI (a1)), some (eI (a2))]) (s2 := [eR a0]) rfl (s_an rfl (pos_g hI gA0 (by decide))) rfl ?_
  refine w_t (np := 2) (l2 := [some (eR a0), some (eI (a1)), some (eI (a2))]) (s2 := [eI (a2), eR a0]) rfl rfl rfl ?_
  refine w_t (np := 3) (l2 := [some (eR a0), some (eI (a1)), some (eI (a2))]) (s2 := [eI (0), eI (a2), eR a0]) rfl rfl rfl ?_
  refine w_t (np := 4) (l2 := [some (eR a0), some (eI (a1)), some (eI (a2))]) (s2 := [eR a0, eI (0), eI (a2), eR a0]) rfl (s_an rfl (pos_g hI gA0 (by decide))) rfl ?_
  refine j_gi (np := 7) rfl rfl rfl hI gA0 (by decide) (n := 69) rfl rfl (lo := 0) (hi := 5) rfl ?_
  intro v1 e2 b3
  refine w_cu (np := 10) (as := [eI (a2), eI (0), eI (v1)]) (l2 := [some (eI (a2)), some (eI (0)), some (eI (v1))]) (rest := [eR a0]) rfl rfl rfl (Nat.ble_eq.mp rfl) rfl rfl rfl rfl ?_
  refine w_t (np := 1) (l2 := [some (eI (a2)), some (eI (0)), some (eI (v1))]) (s2 := [eI (a2)]) rfl rfl rfl ?_
  refine w_t (np := 2) (l2 := [some (eI (a2)), some (eI (0)), some (eI (v1))]) (s2 := [eI (0), eI (a2)]) rfl rfl rfl ?_
  refine b_clt (t1 := 14) (t2 := 5) rfl rfl rfl (ev_w_in (by omega) (by omega)) rfl (fun g4 => ?_) (fun g4 => ?_)
  · have b5 : -2147483648 ≤ a2 ∧ a2 ≤ -1 := by omega
    refine w_t (np := 15) (l2 := [some (eI (a2)), some (eI (0)), some (eI (v1))]) (s2 := [eI (0)]) rfl rfl rfl ?_
    refine b_rz rfl rfl (Or.inl rfl) ?_
    show ex_q (dt_fg L ρ) rc (d + 2, (270, 10, [some (eR a0), some (eI (a1)), some (eI (a2))], [eI (0), eR a0]), f :: F, μ)
    refine b_ine (t1 := 17) (t2 := 13) rfl rfl rfl rfl (fun g5 => absurd g5 (by decide)) (fun g5 => ?_)
    refine w_t (np := 14) (l2 := [some (eR a0), some (eI (a1)), some (eI (a2))]) (s2 := [eI (1), eR a0]) rfl rfl rfl ?_
    refine w_go (t1 := 30) rfl rfl ?_
    refine w_cw (np := 33) (as := [eI (1)]) (l2 := [some (eR a0), some (eI (1))]) (rest := []) rfl rfl rfl (Nat.ble_eq.mp rfl) rfl rfl rfl (hI.kd gA0 (by decide) (n := 69) rfl) rfl ?_
    refine w_t (np := 1) (l2 := [some (eR a0), some (eI (1))]) (s2 := [eR a0]) rfl (s_an rfl (pos_g hI gA0 (by decide))) rfl ?_
    refine w_t (np := 2) (l2 := [some (eR a0), some (eI (1))]) (s2 := [eI (0), eR a0]) rfl rfl rfl ?_
    refine j_pf (np := 5) (w := 0) rfl rfl hI gA0 (by decide) (n := 69) rfl rfl (hO_i (lo := -2147483648) (hi := 2147483647) rfl (by decide)) ?_
    intro m6 I7 W8
    have F9 : Fr l_270 0 0 g μ m6 := F0.w W8 gA0 rfl
    refine w_t (np := 6) (l2 := [some (eR a0), some (eI (1))]) (s2 := [eR a0]) rfl (s_an rfl (pos_g I7 gA0 (by decide))) rfl ?_
    refine w_t (np := 7) (l2 := [some (eR a0), some (eI (1))]) (s2 := [eI (1), eR a0]) rfl rfl rfl ?_
    refine j_pf (np := 10) (w := 1) rfl rfl I7 gA0 (by decide) (n := 69) rfl rfl (hO_i (lo := -2147483648) (hi := 2147483647) rfl (by decide)) ?_
    intro m10 I11 W12
    have F13 : Fr l_270 0 0 g μ m10 := F9.w W12 gA0 rfl
    refine w_t (np := 11) (l2 := [some (eR a0), some (eI (1))]) (s2 := [eI (1)]) rfl rfl rfl ?_
    refine b_ine (t1 := 18) (t2 := 14) rfl rfl rfl rfl (fun g14 => ?_) (fun g14 => absurd g14 (by decide))
    refine w_t (np := 19) (l2 := [some (eR a0), some (eI (1))]) (s2 := [eI (0)]) rfl rfl rfl ?_
    refine b_rz rfl rfl (Or.inl rfl) ?_
    show ex_q (dt_fg L ρ) rc (d + 2, (270, 33, [some (eR a0), some (eI (a1)), some (eI (a2))], [eI (0)]), f :: F, m10)
    refine b_ieq (t1 := 45) (t2 := 36) rfl rfl rfl rfl (fun g15 => ?_) (fun g15 => absurd g15 (by decide))
    refine w_t (np := 46) (l2 := [some (eR a0), some (eI (a1)), some (eI (a2))]) (s2 := [eI (-1)]) rfl rfl rfl ?_
    exact b_ri rfl rfl (K m10 (-1) I11 F13 (by decide))
  · have b5 : 0 ≤ a2 ∧ a2 ≤ 2147483647 := by omega
    refine w_t (np := 6) (l2 := [some (eI (a2)), some (eI (0)), some (eI (v1))]) (s2 := [eI (a2)]) rfl rfl rfl ?_
    refine w_t (np := 7) (l2 := [some (eI (a2)), some (eI (0)), some (eI (v1))]) (s2 := [eI (v1), eI (a2)]) rfl rfl rfl ?_
    refine b_cgt (t1 := 14) (t2 := 10) rfl rfl rfl (ev_w_in (by omega) (by omega)) (ev_w_in (by omega) (by omega)) (fun g5 => ?_) (fun g5 => ?_)
    · have b6 : 1 ≤ a2 ∧ a2 ≤ 2147483647 := by omega
      refine w_t (np := 15) (l2 := [some (eI (a2)), some (eI (0)), some (eI (v1))]) (s2 := [eI (0)]) rfl rfl rfl ?_
      refine b_rz rfl rfl (Or.inl rfl) ?_
      show ex_q (dt_fg L ρ) rc (d + 2, (270, 10, [some (eR a0), some (eI (a1)), some (eI (a2))], [eI (0), eR a0]), f :: F, μ)
      refine b_ine (t1 := 17) (t2 := 13) rfl rfl rfl rfl (fun g6 => absurd g6 (by decide)) (fun g6 => ?_)
      refine w_t (np := 14) (l2 := [some (eR a0), some (eI (a1)), some (eI (a2))]) (s2 := [eI (1), eR a0]) rfl rfl rfl ?_
      refine w_go (t1 := 30) rfl rfl ?_
      refine w_cw (np := 33) (as := [eI (1)]) (l2 := [some (eR a0), some (eI (1))]) (rest := []) rfl rfl rfl (Nat.ble_eq.mp rfl) rfl rfl rfl (hI.kd gA0 (by decide) (n := 69) rfl) rfl ?_
      refine w_t (np := 1) (l2 := [some (eR a0), some (eI (1))]) (s2 := [eR a0]) rfl (s_an rfl (pos_g hI gA0 (by decide))) rfl ?_
      refine w_t (np := 2) (l2 := [some (eR a0), some (eI (1))]) (s2 := [eI (0), eR a0]) rfl rfl rfl ?_
      refine j_pf (np := 5) (w := 0) rfl rfl hI gA0 (by decide) (n := 69) rfl rfl (hO_i (lo := -2147483648) (hi := 2147483647) rfl (by decide)) ?_
      intro m7 I8 W9
      have F10 : Fr l_270 0 0 g μ m7 := F0.w W9 gA0 rfl
      refine w_t (np := 6) (l2 := [some (eR a0), some (eI (1))]) (s2 := [eR a0]) rfl (s_an rfl (pos_g I8 gA0 (by decide))) rfl ?_
      refine w_t (np := 7) (l2 := [some (eR a0), some (eI (1))]) (s2 := [eI (1), eR a0]) rfl rfl rfl ?_
      refine j_pf (np := 10) (w := 1) rfl rfl I8 gA0 (by decide) (n := 69) rfl rfl (hO_i (lo := -2147483648) (hi := 2147483647) rfl (by decide)) ?_
      intro m11 I12 W13
      have F14 : Fr l_270 0 0 g μ m11 := F10.w W13 gA0 rfl
      refine w_t (np := 11) (l2 := [some (eR a0), some (eI (1))]) (s2 := [eI (1)]) rfl rfl rfl ?_
      refine b_ine (t1 := 18) (t2 := 14) rfl rfl rfl rfl (fun g15 => ?_) (fun g15 => absurd g15 (by decide))
      refine w_t (np := 19) (l2 := [some (eR a0), some (eI (1))]) (s2 := [eI (0)]) rfl rfl rfl ?_
      refine b_rz rfl rfl (Or.inl rfl) ?_
      show ex_q (dt_fg L ρ) rc (d + 2, (270, 33, [some (eR a0), some (eI (a1)), some (eI (a2))], [eI (0)]), f :: F, m11)
      refine b_ieq (t1 := 45) (t2 := 36) rfl rfl rfl rfl (fun g16 => ?_) (fun g16 => absurd g16 (by decide))
      refine w_t (np := 46) (l2 := [some (eR a0), some (eI (a1)), some (eI (a2))]) (s2 := [eI (-1)]) rfl rfl rfl ?_
      exact b_ri rfl rfl (K m11 (-1) I12 F14 (by decide))
    · have b6 : 0 ≤ a2 ∧ a2 ≤ 5 := by omega
      refine w_t (np := 11) (l2 := [some (eI (a2)), some (eI (0)), some (eI (v1))]) (s2 := [eI (1)]) rfl rfl rfl ?_
      refine w_go (t1 := 15) rfl rfl ?_
      refine b_rz rfl rfl (Or.inr rfl) ?_
      show ex_q (dt_fg L ρ) rc (d + 2, (270, 10, [some (eR a0), some (eI (a1)), some (eI (a2))], [eI (1), eR a0]), f :: F, μ)
      refine b_ine (t1 := 17) (t2 := 13) rfl rfl rfl rfl (fun g6 => ?_) (fun g6 => absurd g6 (by decide))
      refine w_t (np := 18) (l2 := [some (eR a0), some (eI (a1)), some (eI (a2))]) (s2 := [eR a0, eR a0]) rfl (s_an rfl (pos_g hI gA0 (by decide))) rfl ?_
      refine w_t (np := 19) (l2 := [some (eR a0), some (eI (a1)), some (eI (a2))]) (s2 := [eI (a1), eR a0, eR a0]) rfl rfl rfl ?_
      refine w_cw (np := 22) (as := [eI (a1)]) (l2 := [some (eR a0), some (eI (a1))]) (rest := [eR a0]) rfl rfl rfl (Nat.ble_eq.mp rfl) rfl rfl rfl (hI.kd gA0 (by decide) (n := 69) rfl) rfl ?_
      refine w_t (np := 1) (l2 := [some (eR a0), some (eI (a1))]) (s2 := [eI (a1)]) rfl rfl rfl ?_
      refine w_t (np := 2) (l2 := [some (eR a0), some (eI (a1))]) (s2 := [eI (0), eI (a1)]) rfl rfl rfl ?_
      refine w_t (np := 3) (l2 := [some (eR a0), some (eI (a1))]) (s2 := [eR a0, eI (0), eI (a1)]) rfl (s_an rfl (pos_g hI gA0 (by decide))) rfl ?_
      refine j_gi (np := 6) rfl rfl rfl hI gA0 (by decide) (n := 69) rfl rfl (lo := 0) (hi := 890) rfl ?_
      intro v7 e8 b9
      refine w_t (np := 7) (l2 := [some (eR a0), some (eI (a1))]) (s2 := [eI (1), eI (v7), eI (0), eI (a1)]) rfl rfl rfl ?_
      obtain ⟨v10, e11⟩ : ∃ zz : Int, zz = (v7) - (1) := ⟨_, rfl⟩
      have b12 : -1 ≤ v10 ∧ v10 ≤ 889 := by omega
      refine w_t (np := 8) (l2 := [some (eR a0), some (eI (a1))]) (s2 := [eI (v10), eI (0), eI (a1)]) rfl (b_isub (by rw [← e11]; exact ev_w_in (by omega) (by omega))) rfl ?_
      refine w_cu (np := 11) (as := [eI (a1), eI (0), eI (v10)]) (l2 := [some (eI (a1)), some (eI (0)), some (eI (v10))]) (rest := []) rfl rfl rfl (Nat.ble_eq.mp rfl) rfl rfl rfl rfl ?_
      refine w_t (np := 1) (l2 := [some (eI (a1)), some (eI (0)), some (eI (v10))]) (s2 := [eI (a1)]) rfl rfl rfl ?_
      refine w_t (np := 2) (l2 := [some (eI (a1)), some (eI (0)), some (eI (v10))]) (s2 := [eI (0), eI (a1)]) rfl rfl rfl ?_
      refine b_clt (t1 := 14) (t2 := 5) rfl rfl rfl (ev_w_in (by omega) (by omega)) rfl (fun g13 => ?_) (fun g13 => ?_)
      · have b14 : -2147483648 ≤ a1 ∧ a1 ≤ -1 := by omega
        refine w_t (np := 15) (l2 := [some (eI (a1)), some (eI (0)), some (eI (v10))]) (s2 := [eI (0)]) rfl rfl rfl ?_
        refine b_rz rfl rfl (Or.inl rfl) ?_
        show ex_q (dt_fg L ρ) rc (d + 1, (243, 11, [some (eR a0), some (eI (a1))], [eI (0)]), (270, 22, [some (eR a0), some (eI (a1)), some (eI (a2))], [eR a0]) :: f :: F, μ)
        refine b_rz rfl rfl (Or.inl rfl) ?_
        show ex_q (dt_fg L ρ) rc (d + 2, (270, 22, [some (eR a0), some (eI (a1)), some (eI (a2))], [eI (0), eR a0]), f :: F, μ)
        refine b_ieq (t1 := 29) (t2 := 25) rfl rfl rfl rfl (fun g14 => ?_) (fun g14 => absurd g14 (by decide))
        refine w_t (np := 30) (l2 := [some (eR a0), some (eI (a1)), some (eI (a2))]) (s2 := [eI (2), eR a0]) rfl rfl rfl ?_
        refine w_cw (np := 33) (as := [eI (2)]) (l2 := [some (eR a0), some (eI (2))]) (rest := []) rfl rfl rfl (Nat.ble_eq.mp rfl) rfl rfl rfl (hI.kd gA0 (by decide) (n := 69) rfl) rfl ?_
        refine w_t (np := 1) (l2 := [some (eR a0), some (eI (2))]) (s2 := [eR a0]) rfl (s_an rfl (pos_g hI gA0 (by decide))) rfl ?_
        refine w_t (np := 2) (l2 := [some (eR a0), some (eI (2))]) (s2 := [eI (0), eR a0]) rfl rfl rfl ?_
        refine j_pf (np := 5) (w := 0) rfl rfl hI gA0 (by decide) (n := 69) rfl rfl (hO_i (lo := -2147483648) (hi := 2147483647) rfl (by decide)) ?_
        intro m15 I16 W17
        have F18 : Fr l_270 0 0 g μ m15 := F0.w W17 gA0 rfl
        refine w_t (np := 6) (l2 := [some (eR a0), some (eI (2))]) (s2 := [eR a0]) rfl (s_an rfl (pos_g I16 gA0 (by decide))) rfl ?_
        refine w_t (np := 7) (l2 := [some (eR a0), some (eI (2))]) (s2 := [eI (2), eR a0]) rfl rfl rfl ?_
        refine j_pf (np := 10) (w := 2) rfl rfl I16 gA0 (by decide) (n := 69) rfl rfl (hO_i (lo := -2147483648) (hi := 2147483647) rfl (by decide)) ?_
        intro m19 I20 W21
        have F22 : Fr l_270 0 0 g μ m19 := F18.w W21 gA0 rfl
        refine w_t (np := 11) (l2 := [some (eR a0), some (eI (2))]) (s2 := [eI (2)]) rfl rfl rfl ?_
        refine b_ine (t1 := 18) (t2 := 14) rfl rfl rfl rfl (fun g23 => ?_) (fun g23 => absurd g23 (by decide))
        refine w_t (np := 19) (l2 := [some (eR a0), some (eI (2))]) (s2 := [eI (0)]) rfl rfl rfl ?_
        refine b_rz rfl rfl (Or.inl rfl) ?_
        show ex_q (dt_fg L ρ) rc (d + 2, (270, 33, [some (eR a0), some (eI (a1)), some (eI (a2))], [eI (0)]), f :: F, m19)
        refine b_ieq (t1 := 45) (t2 := 36) rfl rfl rfl rfl (fun g24 => ?_) (fun g24 => absurd g24 (by decide))
        refine w_t (np := 46) (l2 := [some (eR a0), some (eI (a1)), some (eI (a2))]) (s2 := [eI (-1)]) rfl rfl rfl ?_
        exact b_ri rfl rfl (K m19 (-1) I20 F22 (by decide))
      · have b14 : 0 ≤ a1 ∧ a1 ≤ 2147483647 := by omega
        refine w_t (np := 6) (l2 := [some (eI (a1)), some (eI (0)), some (eI (v10))]) (s2 := [eI (a1)]) rfl rfl rfl ?_
        refine w_t (np := 7) (l2 := [some (eI (a1)), some (eI (0)), some (eI (v10))]) (s2 := [eI (v10), eI (a1)]) rfl rfl rfl ?_
        refine b_cgt (t1 := 14) (t2 := 10) rfl rfl rfl (ev_w_in (by omega) (by omega)) (ev_w_in (by omega) (by omega)) (fun g14 => ?_) (fun g14 => ?_)
        · refine w_t (np := 15) (l2 := [some (eI (a1)), some (eI (0)), some (eI (v10))]) (s2 := [eI (0)]) rfl rfl rfl ?_
          refine b_rz rfl rfl (Or.inl rfl) ?_
          show ex_q (dt_fg L ρ) rc (d + 1, (243, 11, [some (eR a0), some (eI (a1))], [eI (0)]), (270, 22, [some (eR a0), some (eI (a1)), some (eI (a2))], [eR a0]) :: f :: F, μ)
          refine b_rz rfl rfl (Or.inl rfl) ?_
          show ex_q (dt_fg L ρ) rc (d + 2, (270, 22, [some (eR a0), some (eI (a1)), some (eI (a2))], [eI (0), eR a0]), f :: F, μ)
          refine b_ieq (t1 := 29) (t2 := 25) rfl rfl rfl rfl (fun g15 => ?_) (fun g15 => absurd g15 (by decide))
          refine w_t (np := 30) (l2 := [some (eR a0), some (eI (a1)), some (eI (a2))]) (s2 := [eI (2), eR a0]) rfl rfl rfl ?_
          refine w_cw (np := 33) (as := [eI (2)]) (l2 := [some (eR a0), some (eI (2))]) (rest := []) rfl rfl rfl (Nat.ble_eq.mp rfl) rfl rfl rfl (hI.kd gA0 (by decide) (n := 69) rfl) rfl ?_
          refine w_t (np := 1) (l2 := [some (eR a0), some (eI (2))]) (s2 := [eR a0]) rfl (s_an rfl (pos_g hI gA0 (by decide))) rfl ?_
          refine w_t (np := 2) (l2 := [some (eR a0), some (eI (2))]) (s2 := [eI (0), eR a0]) rfl rfl rfl ?_
          refine j_pf (np := 5) (w := 0) rfl rfl hI gA0 (by decide) (n := 69) rfl rfl (hO_i (lo := -2147483648) (hi := 2147483647) rfl (by decide)) ?_
          intro m16 I17 W18
          have F19 : Fr l_270 0 0 g μ m16 := F0.w W18 gA0 rfl
          refine w_t (np := 6) (l2 := [some (eR a0), some (eI (2))]) (s2 := [eR a0]) rfl (s_an rfl (pos_g I17 gA0 (by decide))) rfl ?_
          refine w_t (np := 7) (l2 := [some (eR a0), some (eI (2))]) (s2 := [eI (2), eR a0]) rfl rfl rfl ?_
          refine j_pf (np := 10) (w := 2) rfl rfl I17 gA0 (by decide) (n := 69) rfl rfl (hO_i (lo := -2147483648) (hi := 2147483647) rfl (by decide)) ?_
          intro m20 I21 W22
          have F23 : Fr l_270 0 0 g μ m20 := F19.w W22 gA0 rfl
          refine w_t (np := 11) (l2 := [some (eR a0), some (eI (2))]) (s2 := [eI (2)]) rfl rfl rfl ?_
          refine b_ine (t1 := 18) (t2 := 14) rfl rfl rfl rfl (fun g24 => ?_) (fun g24 => absurd g24 (by decide))
          refine w_t (np := 19) (l2 := [some (eR a0), some (eI (2))]) (s2 := [eI (0)]) rfl rfl rfl ?_
          refine b_rz rfl rfl (Or.inl rfl) ?_
          show ex_q (dt_fg L ρ) rc (d + 2, (270, 33, [some (eR a0), some (eI (a1)), some (eI (a2))], [eI (0)]), f :: F, m20)
          refine b_ieq (t1 := 45) (t2 := 36) rfl rfl rfl rfl (fun g25 => ?_) (fun g25 => absurd g25 (by decide))
          refine w_t (np := 46) (l2 := [some (eR a0), some (eI (a1)), some (eI (a2))]) (s2 := [eI (-1)]) rfl rfl rfl ?_
          exact b_ri rfl rfl (K m20 (-1) I21 F23 (by decide))
        · have b15 : 0 ≤ a1 ∧ a1 ≤ 889 := by omega
          have b16 : 0 ≤ v10 ∧ v10 ≤ 889 := by omega
          refine w_t (np := 11) (l2 := [some (eI (a1)), some (eI (0)), some (eI (v10))]) (s2 := [eI (1)]) rfl rfl rfl ?_
          refine w_go (t1 := 15) rfl rfl ?_
          refine b_rz rfl rfl (Or.inr rfl) ?_
          show ex_q (dt_fg L ρ) rc (d + 1, (243, 11, [some (eR a0), some (eI (a1))], [eI (1)]), (270, 22, [some (eR a0), some (eI (a1)), some (eI (a2))], [eR a0]) :: f :: F, μ)
          refine b_rz rfl rfl (Or.inr rfl) ?_
          show ex_q (dt_fg L ρ) rc (d + 2, (270, 22, [some (eR a0), some (eI (a1)), some (eI (a2))], [eI (1), eR a0]), f :: F, μ)
          refine b_ieq (t1 := 29) (t2 := 25) rfl rfl rfl rfl (fun g15 => absurd g15 (by decide)) (fun g15 => ?_)
          refine w_t (np := 26) (l2 := [some (eR a0), some (eI (a1)), some (eI (a2))]) (s2 := [eI (0), eR a0]) rfl rfl rfl ?_
          refine w_go (t1 := 30) rfl rfl ?_
          refine w_cw (np := 33) (as := [eI (0)]) (l2 := [some (eR a0), some (eI (0))]) (rest := []) rfl rfl rfl (Nat.ble_eq.mp rfl) rfl rfl rfl (hI.kd gA0 (by decide) (n := 69) rfl) rfl ?_
          refine w_t (np := 1) (l2 := [some (eR a0), some (eI (0))]) (s2 := [eR a0]) rfl (s_an rfl (pos_g hI gA0 (by decide))) rfl ?_
          refine w_t (np := 2) (l2 := [some (eR a0), some (eI (0))]) (s2 := [eI (0), eR a0]) rfl rfl rfl ?_
          refine j_pf (np := 5) (w := 0) rfl rfl hI gA0 (by decide) (n := 69) rfl rfl (hO_i (lo := -2147483648) (hi := 2147483647) rfl (by decide)) ?_
          intro m16 I17 W18
          have F19 : Fr l_270 0 0 g μ m16 := F0.w W18 gA0 rfl
          refine w_t (np := 6) (l2 := [some (eR a0), some (eI (0))]) (s2 := [eR a0]) rfl (s_an rfl (pos_g I17 gA0 (by decide))) rfl ?_
          refine w_t (np := 7) (l2 := [some (eR a0), some (eI (0))]) (s2 := [eI (0), eR a0]) rfl rfl rfl ?_
          refine j_pf (np := 10) (w := 0) rfl rfl I17 gA0 (by decide) (n := 69) rfl rfl (hO_i (lo := -2147483648) (hi := 2147483647) rfl (by decide)) ?_
          intro m20 I21 W22
          have F23 : Fr l_270 0 0 g μ m20 := F19.w W22 gA0 rfl
          refine w_t (np := 11) (l2 := [some (eR a0), some (eI (0))]) (s2 := [eI (0)]) rfl rfl rfl ?_
          refine b_ine (t1 := 18) (t2 := 14) rfl rfl rfl rfl (fun g24 => absurd g24 (by decide)) (fun g24 => ?_)
          refine w_t (np := 15) (l2 := [some (eR a0), some (eI (0))]) (s2 := [eI (1)]) rfl rfl rfl ?_
          refine w_go (t1 := 19) rfl rfl ?_
          refine b_rz rfl rfl (Or.inr rfl) ?_
          show ex_q (dt_fg L ρ) rc (d + 2, (270, 33, [some (eR a0), some (eI (a1)), some (eI (a2))], [eI (1)]), f :: F, m20)
          refine b_ieq (t1 := 45) (t2 := 36) rfl rfl rfl rfl (fun g25 => absurd g25 (by decide)) (fun g25 => ?_)
          refine w_t (np := 37) (l2 := [some (eR a0), some (eI (a1)), some (eI (a2))]) (s2 := [eR a0]) rfl (s_an rfl (pos_g I21 gA0 (by decide))) rfl ?_
          refine w_t (np := 38) (l2 := [some (eR a0), some (eI (a1)), some (eI (a2))]) (s2 := [eI (a1), eR a0]) rfl rfl rfl ?_
          refine w_t (np := 39) (l2 := [some (eR a0), some (eI (a1)), some (eI (a2))]) (s2 := [eI (a2), eI (a1), eR a0]) rfl rfl rfl ?_
          refine w_cw (np := 42) (as := [eI (a1), eI (a2)]) (l2 := [some (eR a0), some (eI (a1)), some (eI (a2)), none, none]) (rest := []) rfl rfl rfl (Nat.ble_eq.mp rfl) rfl rfl rfl (I21.kd gA0 (by decide) (n := 69) rfl) rfl ?_
          refine s_269 (a1 := a1) (a2 := a2) I21 gA0 (by omega) (by omega) (W22.slot (W18.slot e2 (by decide)) (by decide)) (by omega) ?_
          intro v26 b27
          show ex_q (dt_fg L ρ) rc (d + 2, (270, 42, [some (eR a0), some (eI (a1)), some (eI (a2))], [eI (v26)]), f :: F, m20)
          refine w_go (t1 := 46) rfl rfl ?_
          exact b_ri rfl rfl (K m20 (v26) I21 F23 (by omega))
def l_271 : List Nat := [13313, 13314]
theorem s_271 {L : Nat} {ρ : Nat → Int} {rc : eQ} {d : Nat} {f : eFr} {F : List eFr} {μ : eM} {g : Nat → Nat} {a0 : Nat} {a1 : Int} {a2 : Int} {a3 : Int} (hI : SI g μ) (gA0 : g a0 = 52) (bA1 : -2147483648 ≤ a1 ∧ a1 ≤ 2147483647) (bA2 : -2147483648 ≤ a2 ∧ a2 ≤ 2147483647) (bA3 : -2147483648 ≤ a3 ∧ a3 ≤ 2147483647) (K : ∀ (μ2 : eM) (v : Int), SI g μ2 → Fr l_271 0 0 g μ μ2 → (-9223372036854775808 ≤ v ∧ v ≤ 9223372036854775807) → ex_q (dt_fg L ρ) rc (d + 3, (f.1, f.2.1, f.2.2.1, eJ v :: f.2.2.2), F, μ2)) : ex_q (dt_fg L ρ) rc (d + 2, (271, 0, [some (eR a0), some (eI (a1)), some (eI (a2)), some (eI (a3)), none, none, none, none, none, none, none], []), f :: F, μ) := by
  have F0 : Fr l_271 0 0 g μ μ := Fr.r
  refine w_t (np := 1) (l2 := [some (eR a0), some (eI (a1)), some (eI (a2)), some (eI (a3)), none, none, none, none, none, none, none]) (s2 := [eR a0]) rfl (s_an rfl (pos_g hI gA0 (by decide))) rfl ?_
  refine w_t (np := 2) (l2 := [some (eR a0), some (eI (a1)), some (eI (a2)), some (eI (a3)), none, none, none, none, none, none, none]) (s2 := [eI (a2), eR a0]) rfl rfl rfl ?_
  refine w_t (np := 3) (l2 := [some (eR a0), some (eI (a1)), some (eI (a2)), some (eI (a3)), none, none, none, none, none, none, none]) (s2 := [eI (0), eI (a2), eR a0]) rfl rfl rfl ?_
  refine w_t (np := 4) (l2 := [some (eR a0), some (eI (a1)), some (eI (a2)), some (eI (a3)), none, none, none, none, none, none, none]) (s2 := [eI (1), eI (0), eI (a2), eR a0]) rfl rfl rfl ?_
  refine w_cu (np := 7) (as := [eI (a2), eI (0), eI (1)]) (l2 := [some (eI (a2)), some (eI (0)), some (eI (1))]) (rest := [eR a0]) rfl rfl rfl (Nat.ble_eq.mp rfl) rfl rfl rfl rfl ?_
  refine w_t (np := 1) (l2 := [some (eI (a2)), some (eI (0)), some (eI (1))]) (s2 := [eI (a2)]) rfl rfl rfl ?_
  refine w_t (np := 2) (l2 := [some (eI (a2)), some (eI (0)), some (eI (1))]) (s2 := [eI (0), eI (a2)]) rfl rfl rfl ?_
  refine b_clt (t1 := 14) (t2 := 5) rfl rfl rfl (ev_w_in (by omega) (by omega)) rfl (fun g1 => ?_) (fun g1 => ?_)
  · have b2 : -2147483648 ≤ a2 ∧ a2 ≤ -1 := by omega
    refine w_t (np := 15) (l2 := [some (eI (a2)), some (eI (0)), some (eI (1))]) (s2 := [eI (0)]) rfl rfl rfl ?_
    refine b_rz rfl rfl (Or.inl rfl) ?_
    show ex_q (dt_fg L ρ) rc (d + 2, (271, 7, [some (eR a0), some (eI (a1)), some (eI (a2)), some (eI (a3)), none, none, none, none, none, none, none], [eI (0), eR a0]), f :: F, μ)
    refine b_ieq (t1 := 20) (t2 := 10) rfl rfl rfl rfl (fun g2 => ?_) (fun g2 => absurd g2 (by decide))
    refine w_t (np := 21) (l2 := [some (eR a0), some (eI (a1)), some (eI (a2)), some (eI (a3)), none, none, none, none, none, none, none]) (s2 := [eI (1), eR a0]) rfl rfl rfl ?_
    refine w_go (t1 := 37) rfl rfl ?_
    refine w_cw (np := 40) (as := [eI (1)]) (l2 := [some (eR a0), some (eI (1))]) (rest := []) rfl rfl rfl (Nat.ble_eq.mp rfl) rfl rfl rfl (hI.kd gA0 (by decide) (n := 69) rfl) rfl ?_
    refine w_t (np := 1) (l2 := [some (eR a0), some (eI (1))]) (s2 := [eR a0]) rfl (s_an rfl (pos_g hI gA0 (by decide))) rfl ?_
    refine w_t (np := 2) (l2 := [some (eR a0), some (eI (1))]) (s2 := [eI (0), eR a0]) rfl rfl rfl ?_
    refine j_pf (np := 5) (w := 0) rfl rfl hI gA0 (by decide) (n := 69) rfl rfl (hO_i (lo := -2147483648) (hi := 2147483647) rfl (by decide)) ?_
    intro m3 I4 W5
    have F6 : Fr l_271 0 0 g μ m3 := F0.w W5 gA0 rfl
    refine w_t (np := 6) (l2 := [some (eR a0), some (eI (1))]) (s2 := [eR a0]) rfl (s_an rfl (pos_g I4 gA0 (by decide))) rfl ?_
    refine w_t (np := 7) (l2 := [some (eR a0), some (eI (1))]) (s2 := [eI (1), eR a0]) rfl rfl rfl ?_
    refine j_pf (np := 10) (w := 1) rfl rfl I4 gA0 (by decide) (n := 69) rfl rfl (hO_i (lo := -2147483648) (hi := 2147483647) rfl (by decide)) ?_
    intro m7 I8 W9
    have F10 : Fr l_271 0 0 g μ m7 := F6.w W9 gA0 rfl
    refine w_t (np := 11) (l2 := [some (eR a0), some (eI (1))]) (s2 := [eI (1)]) rfl rfl rfl ?_
    refine b_ine (t1 := 18) (t2 := 14) rfl rfl rfl rfl (fun g11 => ?_) (fun g11 => absurd g11 (by decide))
    refine w_t (np := 19) (l2 := [some (eR a0), some (eI (1))]) (s2 := [eI (0)]) rfl rfl rfl ?_
    refine b_rz rfl rfl (Or.inl rfl) ?_
    show ex_q (dt_fg L ρ) rc (d + 2, (271, 40, [some (eR a0), some (eI (a1)), some (eI (a2)), some (eI (a3)), none, none, none, none, none, none, none], [eI (0)]), f :: F, m7)
    refine b_ine (t1 := 47) (t2 := 43) rfl rfl rfl rfl (fun g12 => absurd g12 (by decide)) (fun g12 => ?_)
    refine v_l2 (np := 46) (c := 18446744073709551615) rfl rfl (by decide) ?_
    rw [show zJ 18446744073709551615 = -1 by decide]
    exact b_rl rfl rfl (K m7 (-1) I8 F10 (by decide))
  · have b2 : 0 ≤ a2 ∧ a2 ≤ 2147483647 := by omega
    refine w_t (np := 6) (l2 := [some (eI (a2)), some (eI (0)), some (eI (1))]) (s2 := [eI (a2)]) rfl rfl rfl ?_
    refine w_t (np := 7) (l2 := [some (eI (a2)), some (eI (0)), some (eI (1))]) (s2 := [eI (1), eI (a2)]) rfl rfl rfl ?_
    refine b_cgt (t1 := 14) (t2 := 10) rfl rfl rfl (ev_w_in (by omega) (by omega)) rfl (fun g2 => ?_) (fun g2 => ?_)
    · have b3 : 2 ≤ a2 ∧ a2 ≤ 2147483647 := by omega
      refine w_t (np := 15) (l2 := [some (eI (a2)), some (eI (0)), some (eI (1))]) (s2 := [eI (0)]) rfl rfl rfl ?_
      refine b_rz rfl rfl (Or.inl rfl) ?_
      show ex_q (dt_fg L ρ) rc (d + 2, (271, 7, [some (eR a0), some (eI (a1)), some (eI (a2)), some (eI (a3)), none, none, none, none, none, none, none], [eI (0), eR a0]), f :: F, μ)
      refine b_ieq (t1 := 20) (t2 := 10) rfl rfl rfl rfl (fun g3 => ?_) (fun g3 => absurd g3 (by decide))
      refine w_t (np := 21) (l2 := [some (eR a0), some (eI (a1)), some (eI (a2)), some (eI (a3)), none, none, none, none, none, none, none]) (s2 := [eI (1), eR a0]) rfl rfl rfl ?_
      refine w_go (t1 := 37) rfl rfl ?_
      refine w_cw (np := 40) (as := [eI (1)]) (l2 := [some (eR a0), some (eI (1))]) (rest := []) rfl rfl rfl (Nat.ble_eq.mp rfl) rfl rfl rfl (hI.kd gA0 (by decide) (n := 69) rfl) rfl ?_
      refine w_t (np := 1) (l2 := [some (eR a0), some (eI (1))]) (s2 := [eR a0]) rfl (s_an rfl (pos_g hI gA0 (by decide))) rfl ?_
      refine w_t (np := 2) (l2 := [some (eR a0), some (eI (1))]) (s2 := [eI (0), eR a0]) rfl rfl rfl ?_
      refine j_pf (np := 5) (w := 0) rfl rfl hI gA0 (by decide) (n := 69) rfl rfl (hO_i (lo := -2147483648) (hi := 2147483647) rfl (by decide)) ?_
      intro m4 I5 W6
      have F7 : Fr l_271 0 0 g μ m4 := F0.w W6 gA0 rfl
      refine w_t (np := 6) (l2 := [some (eR a0), some (eI (1))]) (s2 := [eR a0]) rfl (s_an rfl (pos_g I5 gA0 (by decide))) rfl ?_
      refine w_t (np := 7) (l2 := [some (eR a0), some (eI (1))]) (s2 := [eI (1), eR a0]) rfl rfl rfl ?_
      refine j_pf (np := 10) (w := 1) rfl rfl I5 gA0 (by decide) (n := 69) rfl rfl (hO_i (lo := -2147483648) (hi := 2147483647) rfl (by decide)) ?_
      intro m8 I9 W10
      have F11 : Fr l_271 0 0 g μ m8 := F7.w W10 gA0 rfl
      refine w_t (np := 11) (l2 := [some (eR a0), some (eI (1))]) (s2 := [eI (1)]) rfl rfl rfl ?_
      refine b_ine (t1 := 18) (t2 := 14) rfl rfl rfl rfl (fun g12 => ?_) (fun g12 => absurd g12 (by decide))
      refine w_t (np := 19) (l2 := [some (eR a0), some (eI (1))]) (s2 := [eI (0)]) rfl rfl rfl ?_
      refine b_rz rfl rfl (Or.inl rfl) ?_
      show ex_q (dt_fg L ρ) rc (d + 2, (271, 40, [some (eR a0), some (eI (a1)), some (eI (a2)), some (eI (a3)), none, none, none, none, none, none, none], [eI (0)]), f :: F, m8)
      refine b_ine (t1 := 47) (t2 := 43) rfl rfl rfl rfl (fun g13 => absurd g13 (by decide)) (fun g13 => ?_)
      refine v_l2 (np := 46) (c := 18446744073709551615) rfl rfl (by decide) ?_
      rw [show zJ 18446744073709551615 = -1 by decide]
      exact b_rl rfl rfl (K m8 (-1) I9 F11 (by decide))
    · have b3 : 0 ≤ a2 ∧ a2 ≤ 1 := by omega
      refine w_t (np := 11) (l2 := [some (eI (a2)), some (eI (0)), some (eI (1))]) (s2 := [eI (1)]) rfl rfl rfl ?_
      refine w_go (t1 := 15) rfl rfl ?_
      refine b_rz rfl rfl (Or.inr rfl) ?_
      show ex_q (dt_fg L ρ) rc (d + 2, (271, 7, [some (eR a0), some (eI (a1)), some (eI (a2)), some (eI (a3)), none, none, none, none, none, none, none], [eI (1), eR a0]), f :: F, μ)
      refine b_ieq (t1 := 20) (t2 := 10) rfl rfl rfl rfl (fun g3 => absurd g3 (by decide)) (fun g3 => ?_)
      refine w_t (np := 11) (l2 := [some (eR a0), some (eI (a1)), some (eI (a2)), some (eI (a3)), none, none, none, none, none, none, none]) (s2 := [eI (a3), eR a0]) rfl rfl rfl ?_
      refine w_t (np := 12) (l2 := [some (eR a0), some (eI (a1)), some (eI (a2)), some (eI (a3)), none, none, none, none, none, none, none]) (s2 := [eI (0), eI (a3), eR a0]) rfl rfl rfl ?_
      refine w_t (np := 14) (l2 := [some (eR a0), some (eI (a1)), some (eI (a2)), some (eI (a3)), none, none, none, none, none, none, none]) (s2 := [eI (40), eI (0), eI (a3), eR a0]) rfl rfl rfl ?_
      refine w_cu (np := 17) (as := [eI (a3), eI (0), eI (40)]) (l2 := [some (eI (a3)), some (eI (0)), some (eI (40))]) (rest := [eR a0]) rfl rfl rfl (Nat.ble_eq.mp rfl) rfl rfl rfl rfl ?_
      refine w_t (np := 1) (l2 := [some (eI (a3)), some (eI (0)), some (eI (40))]) (s2 := [eI (a3)]) rfl rfl rfl ?_
      refine w_t (np := 2) (l2 := [some (eI (a3)), some (eI (0)), some (eI (40))]) (s2 := [eI (0), eI (a3)]) rfl rfl rfl ?_
      refine b_clt (t1 := 14) (t2 := 5) rfl rfl rfl (ev_w_in (by omega) (by omega)) rfl (fun g4 => ?_) (fun g4 => ?_)
      · have b5 : -2147483648 ≤ a3 ∧ a3 ≤ -1 := by omega
        refine w_t (np := 15) (l2 := [some (eI (a3)), some (eI (0)), some (eI (40))]) (s2 := [eI (0)]) rfl rfl rfl ?_
        refine b_rz rfl rfl (Or.inl rfl) ?_
        show ex_q (dt_fg L ρ) rc (d + 2, (271, 17, [some (eR a0), some (eI (a1)), some (eI (a2)), some (eI (a3)), none, none, none, none, none, none, none], [eI (0), eR a0]), f :: F, μ)
        refine b_ine (t1 := 24) (t2 := 20) rfl rfl rfl rfl (fun g5 => absurd g5 (by decide)) (fun g5 => ?_)
        refine w_t (np := 21) (l2 := [some (eR a0), some (eI (a1)), some (eI (a2)), some (eI (a3)), none, none, none, none, none, none, none]) (s2 := [eI (1), eR a0]) rfl rfl rfl ?_
        refine w_go (t1 := 37) rfl rfl ?_
        refine w_cw (np := 40) (as := [eI (1)]) (l2 := [some (eR a0), some (eI (1))]) (rest := []) rfl rfl rfl (Nat.ble_eq.mp rfl) rfl rfl rfl (hI.kd gA0 (by decide) (n := 69) rfl) rfl ?_
        refine w_t (np := 1) (l2 := [some (eR a0), some (eI (1))]) (s2 := [eR a0]) rfl (s_an rfl (pos_g hI gA0 (by decide))) rfl ?_
        refine w_t (np := 2) (l2 := [some (eR a0), some (eI (1))]) (s2 := [eI (0), eR a0]) rfl rfl rfl ?_
        refine j_pf (np := 5) (w := 0) rfl rfl hI gA0 (by decide) (n := 69) rfl rfl (hO_i (lo := -2147483648) (hi := 2147483647) rfl (by decide)) ?_
        intro m6 I7 W8
        have F9 : Fr l_271 0 0 g μ m6 := F0.w W8 gA0 rfl
        refine w_t (np := 6) (l2 := [some (eR a0), some (eI (1))]) (s2 := [eR a0]) rfl (s_an rfl (pos_g I7 gA0 (by decide))) rfl ?_
        refine w_t (np := 7) (l2 := [some (eR a0), some (eI (1))]) (s2 := [eI (1), eR a0]) rfl rfl rfl ?_
        refine j_pf (np := 10) (w := 1) rfl rfl I7 gA0 (by decide) (n := 69) rfl rfl (hO_i (lo := -2147483648) (hi := 2147483647) rfl (by decide)) ?_
        intro m10 I11 W12
        have F13 : Fr l_271 0 0 g μ m10 := F9.w W12 gA0 rfl
        refine w_t (np := 11) (l2 := [some (eR a0), some (eI (1))]) (s2 := [eI (1)]) rfl rfl rfl ?_
        refine b_ine (t1 := 18) (t2 := 14) rfl rfl rfl rfl (fun g14 => ?_) (fun g14 => absurd g14 (by decide))
        refine w_t (np := 19) (l2 := [some (eR a0), some (eI (1))]) (s2 := [eI (0)]) rfl rfl rfl ?_
        refine b_rz rfl rfl (Or.inl rfl) ?_
        show ex_q (dt_fg L ρ) rc (d + 2, (271, 40, [some (eR a0), some (eI (a1)), some (eI (a2)), some (eI (a3)), none, none, none, none, none, none, none], [eI (0)]), f :: F, m10)
        refine b_ine (t1 := 47) (t2 := 43) rfl rfl rfl rfl (fun g15 => absurd g15 (by decide)) (fun g15 => ?_)
        refine v_l2 (np := 46) (c := 18446744073709551615) rfl rfl (by decide) ?_
        rw [show zJ 18446744073709551615 = -1 by decide]
        exact b_rl rfl rfl (K m10 (-1) I11 F13 (by decide))
      · have b5 : 0 ≤ a3 ∧ a3 ≤ 2147483647 := by omega
        refine w_t (np := 6) (l2 := [some (eI (a3)), some (eI (0)), some (eI (40))]) (s2 := [eI (a3)]) rfl rfl rfl ?_
        refine w_t (np := 7) (l2 := [some (eI (a3)), some (eI (0)), some (eI (40))]) (s2 := [eI (40), eI (a3)]) rfl rfl rfl ?_
        refine b_cgt (t1 := 14) (t2 := 10) rfl rfl rfl (ev_w_in (by omega) (by omega)) rfl (fun g5 => ?_) (fun g5 => ?_)
        · have b6 : 41 ≤ a3 ∧ a3 ≤ 2147483647 := by omega
          refine w_t (np := 15) (l2 := [some (eI (a3)), some (eI (0)), some (eI (40))]) (s2 := [eI (0)]) rfl rfl rfl ?_
          refine b_rz rfl rfl (Or.inl rfl) ?_
          show ex_q (dt_fg L ρ) rc (d + 2, (271, 17, [some (eR a0), some (eI (a1)), some (eI (a2)), some (eI (a3)), none, none, none, none, none, none, none], [eI (0), eR a0]), f :: F, μ)
          refine b_ine (t1 := 24) (t2 := 20) rfl rfl rfl rfl (fun g6 => absurd g6 (by decide)) (fun g6 => ?_)
          refine w_t (np := 21) (l2 := [some (eR a0), some (eI (a1)), some (eI (a2)), some (eI (a3)), none, none, none, none, none, none, none]) (s2 := [eI (1), eR a0]) rfl rfl rfl ?_
          refine w_go (t1 := 37) rfl rfl ?_
          refine w_cw (np := 40) (as := [eI (1)]) (l2 := [some (eR a0), some (eI (1))]) (rest := []) rfl rfl rfl (Nat.ble_eq.mp rfl) rfl rfl rfl (hI.kd gA0 (by decide) (n := 69) rfl) rfl ?_
          refine w_t (np := 1) (l2 := [some (eR a0), some (eI (1))]) (s2 := [eR a0]) rfl (s_an rfl (pos_g hI gA0 (by decide))) rfl ?_
          refine w_t (np := 2) (l2 := [some (eR a0), some (eI (1))]) (s2 := [eI (0), eR a0]) rfl rfl rfl ?_
          refine j_pf (np := 5) (w := 0) rfl rfl hI gA0 (by decide) (n := 69) rfl rfl (hO_i (lo := -2147483648) (hi := 2147483647) rfl (by decide)) ?_
          intro m7 I8 W9
          have F10 : Fr l_271 0 0 g μ m7 := F0.w W9 gA0 rfl
          refine w_t (np := 6) (l2 := [some (eR a0), some (eI (1))]) (s2 := [eR a0]) rfl (s_an rfl (pos_g I8 gA0 (by decide))) rfl ?_
          refine w_t (np := 7) (l2 := [some (eR a0), some (eI (1))]) (s2 := [eI (1), eR a0]) rfl rfl rfl ?_
          refine j_pf (np := 10) (w := 1) rfl rfl I8 gA0 (by decide) (n := 69) rfl rfl (hO_i (lo := -2147483648) (hi := 2147483647) rfl (by decide)) ?_
          intro m11 I12 W13
          have F14 : Fr l_271 0 0 g μ m11 := F10.w W13 gA0 rfl
          refine w_t (np := 11) (l2 := [some (eR a0), some (eI (1))]) (s2 := [eI (1)]) rfl rfl rfl ?_
          refine b_ine (t1 := 18) (t2 := 14) rfl rfl rfl rfl (fun g15 => ?_) (fun g15 => absurd g15 (by decide))
          refine w_t (np := 19) (l2 := [some (eR a0), some (eI (1))]) (s2 := [eI (0)]) rfl rfl rfl ?_
          refine b_rz rfl rfl (Or.inl rfl) ?_
          show ex_q (dt_fg L ρ) rc (d + 2, (271, 40, [some (eR a0), some (eI (a1)), some (eI (a2)), some (eI (a3)), none, none, none, none, none, none, none], [eI (0)]), f :: F, m11)
          refine b_ine (t1 := 47) (t2 := 43) rfl rfl rfl rfl (fun g16 => absurd g16 (by decide)) (fun g16 => ?_)
          refine v_l2 (np := 46) (c := 18446744073709551615) rfl rfl (by decide) ?_
          rw [show zJ 18446744073709551615 = -1 by decide]
          exact b_rl rfl rfl (K m11 (-1) I12 F14 (by decide))
        · have b6 : 0 ≤ a3 ∧ a3 ≤ 40 := by omega
          refine w_t (np := 11) (l2 := [some (eI (a3)), some (eI (0)), some (eI (40))]) (s2 := [eI (1)]) rfl rfl rfl ?_
          refine w_go (t1 := 15) rfl rfl ?_
          refine b_rz rfl rfl (Or.inr rfl) ?_
          show ex_q (dt_fg L ρ) rc (d + 2, (271, 17, [some (eR a0), some (eI (a1)), some (eI (a2)), some (eI (a3)), none, none, none, none, none, none, none], [eI (1), eR a0]), f :: F, μ)
          refine b_ine (t1 := 24) (t2 := 20) rfl rfl rfl rfl (fun g6 => ?_) (fun g6 => absurd g6 (by decide))
          refine w_t (np := 25) (l2 := [some (eR a0), some (eI (a1)), some (eI (a2)), some (eI (a3)), none, none, none, none, none, none, none]) (s2 := [eR a0, eR a0]) rfl (s_an rfl (pos_g hI gA0 (by decide))) rfl ?_
          refine w_t (np := 26) (l2 := [some (eR a0), some (eI (a1)), some (eI (a2)), some (eI (a3)), none, none, none, none, none, none, none]) (s2 := [eI (a1), eR a0, eR a0]) rfl rfl rfl ?_
          refine w_cw (np := 29) (as := [eI (a1)]) (l2 := [some (eR a0), some (eI (a1))]) (rest := [eR a0]) rfl rfl rfl (Nat.ble_eq.mp rfl) rfl rfl rfl (hI.kd gA0 (by decide) (n := 69) rfl) rfl ?_
          refine w_t (np := 1) (l2 := [some (eR a0), some (eI (a1))]) (s2 := [eI (a1)]) rfl rfl rfl ?_
          refine w_t (np := 2) (l2 := [some (eR a0), some (eI (a1))]) (s2 := [eI (0), eI (a1)]) rfl rfl rfl ?_
          refine w_t (np := 3) (l2 := [some (eR a0), some (eI (a1))]) (s2 := [eR a0, eI (0), eI (a1)]) rfl (s_an rfl (pos_g hI gA0 (by decide))) rfl ?_
          refine j_gi (np := 6) rfl rfl rfl hI gA0 (by decide) (n := 69) rfl rfl (lo := 0) (hi := 890) rfl ?_
          intro v7 e8 b9
          refine w_t (np := 7) (l2 := [some (eR a0), some (eI (a1))]) (s2 := [eI (1), eI (v7), eI (0), eI (a1)]) rfl rfl rfl ?_
          obtain ⟨v10, e11⟩ : ∃ zz : Int, zz = (v7) - (1) := ⟨_, rfl⟩
          have b12 : -1 ≤ v10 ∧ v10 ≤ 889 := by omega
          refine w_t (np := 8) (l2 := [some (eR a0), some (eI (a1))]) (s2 := [eI (v10), eI (0), eI (a1)]) rfl (b_isub (by rw [← e11]; exact ev_w_in (by omega) (by omega))) rfl ?_
          refine w_cu (np := 11) (as := [eI (a1), eI (0), eI (v10)]) (l2 := [some (eI (a1)), some (eI (0)), some (eI (v10))]) (rest := []) rfl rfl rfl (Nat.ble_eq.mp rfl) rfl rfl rfl rfl ?_
          refine w_t (np := 1) (l2 := [some (eI (a1)), some (eI (0)), some (eI (v10))]) (s2 := [eI (a1)]) rfl rfl rfl ?_
          refine w_t (np := 2) (l2 := [some (eI (a1)), some (eI (0)), some (eI (v10))]) (s2 := [eI (0), eI (a1)]) rfl rfl rfl ?_
          refine b_clt (t1 := 14) (t2 := 5) rfl rfl rfl (ev_w_in (by omega) (by omega)) rfl (fun g13 => ?_) (fun g13 => ?_)
          · have b14 : -2147483648 ≤ a1 ∧ a1 ≤ -1 := by omega
            refine w_t (np := 15) (l2 := [some (eI (a1)), some (eI (0)), some (eI (v10))]) (s2 := [eI (0)]) rfl rfl rfl ?_
            refine b_rz rfl rfl (Or.inl rfl) ?_
            show ex_q (dt_fg L ρ) rc (d + 1, (243, 11, [some (eR a0), some (eI (a1))], [eI (0)]), (271, 29, [some (eR a0), some (eI (a1)), some (eI (a2)), some (eI (a3)), none, none, none, none, none, none, none], [eR a0]) :: f :: F, μ)
            refine b_rz rfl rfl (Or.inl rfl) ?_
            show ex_q (dt_fg L ρ) rc (d + 2, (271, 29, [some (eR a0), some (eI (a1)), some (eI (a2)), some (eI (a3)), none, none, none, none, none, none, none], [eI (0), eR a0]), f :: F, μ)
            refine b_ieq (t1 := 36) (t2 := 32) rfl rfl rfl rfl (fun g14 => ?_) (fun g14 => absurd g14 (by decide))
            refine w_t (np := 37) (l2 := [some (eR a0), some (eI (a1)), some (eI (a2)), some (eI (a3)), none, none, none, none, none, none, none]) (s2 := [eI (2), eR a0]) rfl rfl rfl ?_
            refine w_cw (np := 40) (as := [eI (2)]) (l2 := [some (eR a0), some (eI (2))]) (rest := []) rfl rfl rfl (Nat.ble_eq.mp rfl) rfl rfl rfl (hI.kd gA0 (by decide) (n := 69) rfl) rfl ?_
            refine w_t (np := 1) (l2 := [some (eR a0), some (eI (2))]) (s2 := [eR a0]) rfl (s_an rfl (pos_g hI gA0 (by decide))) rfl ?_
            refine w_t (np := 2) (l2 := [some (eR a0), some (eI (2))]) (s2 := [eI (0), eR a0]) rfl rfl rfl ?_
            refine j_pf (np := 5) (w := 0) rfl rfl hI gA0 (by decide) (n := 69) rfl rfl (hO_i (lo := -2147483648) (hi := 2147483647) rfl (by decide)) ?_
            intro m15 I16 W17
            have F18 : Fr l_271 0 0 g μ m15 := F0.w W17 gA0 rfl
            refine w_t (np := 6) (l2 := [some (eR a0), some (eI (2))]) (s2 := [eR a0]) rfl (s_an rfl (pos_g I16 gA0 (by decide))) rfl ?_
            refine w_t (np := 7) (l2 := [some (eR a0), some (eI (2))]) (s2 := [eI (2), eR a0]) rfl rfl rfl ?_
            refine j_pf (np := 10) (w := 2) rfl rfl I16 gA0 (by decide) (n := 69) rfl rfl (hO_i (lo := -2147483648) (hi := 2147483647) rfl (by decide)) ?_
            intro m19 I20 W21
            have F22 : Fr l_271 0 0 g μ m19 := F18.w W21 gA0 rfl
            refine w_t (np := 11) (l2 := [some (eR a0), some (eI (2))]) (s2 := [eI (2)]) rfl rfl rfl ?_
            refine b_ine (t1 := 18) (t2 := 14) rfl rfl rfl rfl (fun g23 => ?_) (fun g23 => absurd g23 (by decide))
            refine w_t (np := 19) (l2 := [some (eR a0), some (eI (2))]) (s2 := [eI (0)]) rfl rfl rfl ?_
            refine b_rz rfl rfl (Or.inl rfl) ?_
            show ex_q (dt_fg L ρ) rc (d + 2, (271, 40, [some (eR a0), some (eI (a1)), some (eI (a2)), some (eI (a3)), none, none, none, none, none, none, none], [eI (0)]), f :: F, m19)
            refine b_ine (t1 := 47) (t2 := 43) rfl rfl rfl rfl (fun g24 => absurd g24 (by decide)) (fun g24 => ?_)
            refine v_l2 (np := 46) (c := 18446744073709551615) rfl rfl (by decide) ?_
            rw [show zJ 18446744073709551615 = -1 by decide]
            exact b_rl rfl rfl (K m19 (-1) I20 F22 (by decide))
          · have b14 : 0 ≤ a1 ∧ a1 ≤ 2147483647 := by omega
            refine w_t (np := 6) (l2 := [some (eI (a1)), some (eI (0)), some (eI (v10))]) (s2 := [eI (a1)]) rfl rfl rfl ?_
            refine w_t (np := 7) (l2 := [some (eI (a1)), some (eI (0)), some (eI (v10))]) (s2 := [eI (v10), eI (a1)]) rfl rfl rfl ?_
            refine b_cgt (t1 := 14) (t2 := 10) rfl rfl rfl (ev_w_in (by omega) (by omega)) (ev_w_in (by omega) (by omega)) (fun g14 => ?_) (fun g14 => ?_)
            · refine w_t (np := 15) (l2 := [some (eI (a1)), some (eI (0)), some (eI (v10))]) (s2 := [eI (0)]) rfl rfl rfl ?_
              refine b_rz rfl rfl (Or.inl rfl) ?_
              show ex_q (dt_fg L ρ) rc (d + 1, (243, 11, [some (eR a0), some (eI (a1))], [eI (0)]), (271, 29, [some (eR a0), some (eI (a1)), some (eI (a2)), some (eI (a3)), none, none, none, none, none, none, none], [eR a0]) :: f :: F, μ)
              refine b_rz rfl rfl (Or.inl rfl) ?_
              show ex_q (dt_fg L ρ) rc (d + 2, (271, 29, [some (eR a0), some (eI (a1)), some (eI (a2)), some (eI (a3)), none, none, none, none, none, none, none], [eI (0), eR a0]), f :: F, μ)
              refine b_ieq (t1 := 36) (t2 := 32) rfl rfl rfl rfl (fun g15 => ?_) (fun g15 => absurd g15 (by decide))
              refine w_t (np := 37) (l2 := [some (eR a0), some (eI (a1)), some (eI (a2)), some (eI (a3)), none, none, none, none, none, none, none]) (s2 := [eI (2), eR a0]) rfl rfl rfl ?_
              refine w_cw (np := 40) (as := [eI (2)]) (l2 := [some (eR a0), some (eI (2))]) (rest := []) rfl rfl rfl (Nat.ble_eq.mp rfl) rfl rfl rfl (hI.kd gA0 (by decide) (n := 69) rfl) rfl ?_
              refine w_t (np := 1) (l2 := [some (eR a0), some (eI (2))]) (s2 := [eR a0]) rfl (s_an rfl (pos_g hI gA0 (by decide))) rfl ?_
              refine w_t (np := 2) (l2 := [some (eR a0), some (eI (2))]) (s2 := [eI (0), eR a0]) rfl rfl rfl ?_
              refine j_pf (np := 5) (w := 0) rfl rfl hI gA0 (by decide) (n := 69) rfl rfl (hO_i (lo := -2147483648) (hi := 2147483647) rfl (by decide)) ?_
              intro m16 I17 W18
              have F19 : Fr l_271 0 0 g μ m16 := F0.w W18 gA0 rfl
              refine w_t (np := 6) (l2 := [some (eR a0), some (eI (2))]) (s2 := [eR a0]) rfl (s_an rfl (pos_g I17 gA0 (by decide))) rfl ?_
              refine w_t (np := 7) (l2 := [some (eR a0), some (eI (2))]) (s2 := [eI (2), eR a0]) rfl rfl rfl ?_
              refine j_pf (np := 10) (w := 2) rfl rfl I17 gA0 (by decide) (n := 69) rfl rfl (hO_i (lo := -2147483648) (hi := 2147483647) rfl (by decide)) ?_
              intro m20 I21 W22
              have F23 : Fr l_271 0 0 g μ m20 := F19.w W22 gA0 rfl
              refine w_t (np := 11) (l2 := [some (eR a0), some (eI (2))]) (s2 := [eI (2)]) rfl rfl rfl ?_
              refine b_ine (t1 := 18) (t2 := 14) rfl rfl rfl rfl (fun g24 => ?_) (fun g24 => absurd g24 (by decide))
              refine w_t (np := 19) (l2 := [some (eR a0), some (eI (2))]) (s2 := [eI (0)]) rfl rfl rfl ?_
              refine b_rz rfl rfl (Or.inl rfl) ?_
              show ex_q (dt_fg L ρ) rc (d + 2, (271, 40, [some (eR a0), some (eI (a1)), some (eI (a2)), some (eI (a3)), none, none, none, none, none, none, none], [eI (0)]), f :: F, m20)
              refine b_ine (t1 := 47) (t2 := 43) rfl rfl rfl rfl (fun g25 => absurd g25 (by decide)) (fun g25 => ?_)
              refine v_l2 (np := 46) (c := 18446744073709551615) rfl rfl (by decide) ?_
              rw [show zJ 18446744073709551615 = -1 by decide]
              exact b_rl rfl rfl (K m20 (-1) I21 F23 (by decide))
            · have b15 : 0 ≤ a1 ∧ a1 ≤ 889 := by omega
              have b16 : 0 ≤ v10 ∧ v10 ≤ 889 := by omega
              refine w_t (np := 11) (l2 := [some (eI (a1)), some (eI (0)), some (eI (v10))]) (s2 := [eI (1)]) rfl rfl rfl ?_
              refine w_go (t1 := 15) rfl rfl ?_
              refine b_rz rfl rfl (Or.inr rfl) ?_
              show ex_q (dt_fg L ρ) rc (d + 1, (243, 11, [some (eR a0), some (eI (a1))], [eI (1)]), (271, 29, [some (eR a0), some (eI (a1)), some (eI (a2)), some (eI (a3)), none, none, none, none, none, none, none], [eR a0]) :: f :: F, μ)
              refine b_rz rfl rfl (Or.inr rfl) ?_
              show ex_q (dt_fg L ρ) rc (d + 2, (271, 29, [some (eR a0), some (eI (a1)), some (eI (a2)), some (eI (a3)), none, none, none, none, none, none, none], [eI (1), eR a0]), f :: F, μ)
              refine b_ieq (t1 := 36) (t2 := 32) rfl rfl rfl rfl (fun g15 => absurd g15 (by decide)) (fun g15 => ?_)
              refine w_t (np := 33) (l2 := [some (eR a0), some (eI (a1)), some (eI (a2)), some (eI (a3)), none, none, none, none, none, none, none]) (s2 := [eI (0), eR a0]) rfl rfl rfl ?_
              refine w_go (t1 := 37) rfl rfl ?_
              refine w_cw (np := 40) (as := [eI (0)]) (l2 := [some (eR a0), some (eI (0))]) (rest := []) rfl rfl rfl (Nat.ble_eq.mp rfl) rfl rfl rfl (hI.kd gA0 (by decide) (n := 69) rfl) rfl ?_
              refine w_t (np := 1) (l2 := [some (eR a0), some (eI (0))]) (s2 := [eR a0]) rfl (s_an rfl (pos_g hI gA0 (by decide))) rfl ?_
              refine w_t (np := 2) (l2 := [some (eR a0), some (eI (0))]) (s2 := [eI (0), eR a0]) rfl rfl rfl ?_
              refine j_pf (np := 5) (w := 0) rfl rfl hI gA0 (by decide) (n := 69) rfl rfl (hO_i (lo := -2147483648) (hi := 2147483647) rfl (by decide)) ?_
              intro m16 I17 W18
              have F19 : Fr l_271 0 0 g μ m16 := F0.w W18 gA0 rfl
              refine w_t (np := 6) (l2 := [some (eR a0), some (eI (0))]) (s2 := [eR a0]) rfl (s_an rfl (pos_g I17 gA0 (by decide))) rfl ?_
              refine w_t (np := 7) (l2 := [some (eR a0), some (eI (0))]) (s2 := [eI (0), eR a0]) rfl rfl rfl ?_
              refine j_pf (np := 10) (w := 0) rfl rfl I17 gA0 (by decide) (n := 69) rfl rfl (hO_i (lo := -2147483648) (hi := 2147483647) rfl (by decide)) ?_
              intro m20 I21 W22
              have F23 : Fr l_271 0 0 g μ m20 := F19.w W22 gA0 rfl
              refine w_t (np := 11) (l2 := [some (eR a0), some (eI (0))]) (s2 := [eI (0)]) rfl rfl rfl ?_
              refine b_ine (t1 := 18) (t2 := 14) rfl rfl rfl rfl (fun g24 => absurd g24 (by decide)) (fun g24 => ?_)
              refine w_t (np := 15) (l2 := [some (eR a0), some (eI (0))]) (s2 := [eI (1)]) rfl rfl rfl ?_
              refine w_go (t1 := 19) rfl rfl ?_
              refine b_rz rfl rfl (Or.inr rfl) ?_
              show ex_q (dt_fg L ρ) rc (d + 2, (271, 40, [some (eR a0), some (eI (a1)), some (eI (a2)), some (eI (a3)), none, none, none, none, none, none, none], [eI (1)]), f :: F, m20)
              refine b_ine (t1 := 47) (t2 := 43) rfl rfl rfl rfl (fun g25 => ?_) (fun g25 => absurd g25 (by decide))
              refine w_t (np := 48) (l2 := [some (eR a0), some (eI (a1)), some (eI (a2)), some (eI (a3)), none, none, none, none, none, none, none]) (s2 := [eR a0]) rfl (s_an rfl (pos_g I21 gA0 (by decide))) rfl ?_
              refine j_gr (np := 51) rfl rfl I21 gA0 (by decide) (n := 69) rfl rfl rfl ?_
              intro v26 e27 b28 z29
              have b28 : g v26 = 56 := Nat.eq_of_beq_eq_true b28
              refine w_t (np := 52) (l2 := [some (eR a0), some (eI (a1)), some (eI (a2)), some (eI (a3)), none, none, none, none, none, none, none]) (s2 := [eI (a1), eR v26]) rfl rfl rfl ?_
              refine j_al (np := 53) rfl rfl I21 b28 (by decide) (n := 890) rfl rfl (lo := 0) (hi := 1) (fun _ => rfl) (by omega) (by omega) ?_
              intro v30 e31 b32
              refine b_ine (t1 := 60) (t2 := 56) rfl rfl rfl (ev_w_in (by omega) (by omega)) (fun g33 => ?_) (fun g33 => ?_)
              · have b34 : 1 ≤ v30 ∧ v30 ≤ 1 := by omega
                refine w_t (np := 61) (l2 := [some (eR a0), some (eI (a1)), some (eI (a2)), some (eI (a3)), none, none, none, none, none, none, none]) (s2 := [eJ (0)]) rfl rfl rfl ?_
                refine w_t (np := 63) (l2 := [some (eR a0), some (eI (a1)), some (eI (a2)), some (eI (a3)), some (eJ (0)), none, none, none, none, none, none]) (s2 := []) rfl rfl rfl ?_
                refine w_t (np := 64) (l2 := [some (eR a0), some (eI (a1)), some (eI (a2)), some (eI (a3)), some (eJ (0)), none, none, none, none, none, none]) (s2 := [eJ (1)]) rfl rfl rfl ?_
                refine w_t (np := 66) (l2 := [some (eR a0), some (eI (a1)), some (eI (a2)), some (eI (a3)), some (eJ (0)), none, none, none, none, none, none]) (s2 := [eJ (0), eJ (1)]) rfl rfl rfl ?_
                refine w_t (np := 67) (l2 := [some (eR a0), some (eI (a1)), some (eI (a2)), some (eI (a3)), some (eJ (0)), none, none, none, none, none, none]) (s2 := [eJ (1)]) rfl (b_lsub rfl) rfl ?_
                refine w_t (np := 69) (l2 := [some (eR a0), some (eI (a1)), some (eI (a2)), some (eI (a3)), some (eJ (0)), none, some (eJ (1)), none, none, none, none]) (s2 := []) rfl rfl rfl ?_
                refine w_t (np := 70) (l2 := [some (eR a0), some (eI (a1)), some (eI (a2)), some (eI (a3)), some (eJ (0)), none, some (eJ (1)), none, none, none, none]) (s2 := [eI (0)]) rfl rfl rfl ?_
                refine w_t (np := 72) (l2 := [some (eR a0), some (eI (a1)), some (eI (a2)), some (eI (a3)), some (eJ (0)), none, some (eJ (1)), none, some (eI (0)), none, none]) (s2 := []) rfl rfl rfl ?_
                have hL72 : ∀ (n34 : Nat) (m43 : eM) (i36 : Int) (i38 : Int) (i40 : Int) (o42 : Option eV), SI g m43 → Fr l_271 0 0 g μ m43 → (-9223372036854775808 ≤ i36 ∧ i36 ≤ 9223372036854775807) → (-9223372036854775808 ≤ i38 ∧ i38 ≤ 9223372036854775807) → (0 ≤ i40 ∧ i40 ≤ 40) → m43.1 a0 8 = v7 → m43.1 a0 1 = 0 → m43.1 a0 0 = 0 → m43.1 a0 12 = ((v26 : Nat) : Int) → m43.1 v26 (a1).toNat = v30 → n34 = (40 - i40).toNat → ex_q (dt_fg L ρ) rc (d + 2, (271, 72, [some (eR a0), some (eI (a1)), some (eI (a2)), some (eI (a3)), some (eJ (i36)), none, some (eJ (i38)), none, some (eI (i40)), o42, none], []), f :: F, m43) := by
                  intro n34
                  induction n34 using Nat.strongRecOn with
                  | _ n34 ih35 =>
                  intro m43 i36 i38 i40 o42 I44 F45 b37 b39 b41 k46 k47 k48 k49 k50 hn51
                  refine w_t (np := 74) (l2 := [some (eR a0), some (eI (a1)), some (eI (a2)), some (eI (a3)), some (eJ (i36)), none, some (eJ (i38)), none, some (eI (i40)), o42, none]) (s2 := [eI (i40)]) rfl rfl rfl ?_
                  refine w_t (np := 75) (l2 := [some (eR a0), some (eI (a1)), some (eI (a2)), some (eI (a3)), some (eJ (i36)), none, some (eJ (i38)), none, some (eI (i40)), o42, none]) (s2 := [eI (a3), eI (i40)]) rfl rfl rfl ?_
                  refine b_cge (t1 := 102) (t2 := 78) rfl rfl rfl (ev_w_in (by omega) (by omega)) (ev_w_in (by omega) (by omega)) (fun g52 => ?_) (fun g52 => ?_)
                  · refine w_t (np := 103) (l2 := [some (eR a0), some (eI (a1)), some (eI (a2)), some (eI (a3)), some (eJ (i36)), none, some (eJ (i38)), none, some (eI (i40)), o42, none]) (s2 := [eI (a2)]) rfl rfl rfl ?_
                    refine b_ine (t1 := 111) (t2 := 106) rfl rfl rfl (ev_w_in (by omega) (by omega)) (fun g53 => ?_) (fun g53 => ?_)
                    · have b54 : 1 ≤ a2 ∧ a2 ≤ 1 := by omega
                      refine w_t (np := 113) (l2 := [some (eR a0), some (eI (a1)), some (eI (a2)), some (eI (a3)), some (eJ (i36)), none, some (eJ (i38)), none, some (eI (i40)), o42, none]) (s2 := [eJ (i38)]) rfl rfl rfl ?_
                      exact b_rl rfl rfl (K m43 (i38) I44 F45 (by omega))
                    · have b54 : 0 ≤ a2 ∧ a2 ≤ 0 := by omega
                      refine w_t (np := 108) (l2 := [some (eR a0), some (eI (a1)), some (eI (a2)), some (eI (a3)), some (eJ (i36)), none, some (eJ (i38)), none, some (eI (i40)), o42, none]) (s2 := [eJ (i36)]) rfl rfl rfl ?_
                      refine w_go (t1 := 113) rfl rfl ?_
                      exact b_rl rfl rfl (K m43 (i36) I44 F45 (by omega))
                  · have b53 : 0 ≤ i40 ∧ i40 ≤ 39 := by omega
                    have b54 : 1 ≤ a3 ∧ a3 ≤ 40 := by omega
                    refine w_t (np := 80) (l2 := [some (eR a0), some (eI (a1)), some (eI (a2)), some (eI (a3)), some (eJ (i36)), none, some (eJ (i38)), none, some (eI (i40)), o42, none]) (s2 := [eJ (i36)]) rfl rfl rfl ?_
                    refine w_t (np := 82) (l2 := [some (eR a0), some (eI (a1)), some (eI (a2)), some (eI (a3)), some (eJ (i36)), none, some (eJ (i38)), none, some (eI (i40)), o42, none]) (s2 := [eJ (i38), eJ (i36)]) rfl rfl rfl ?_
                    obtain ⟨v53, e54, b55⟩ : ∃ zz : Int, ev_W ((i36) + (i38)) = zz ∧ (-9223372036854775808 ≤ zz ∧ zz ≤ 9223372036854775807) := ⟨_, rfl, hW_bd _⟩
                    refine w_t (np := 83) (l2 := [some (eR a0), some (eI (a1)), some (eI (a2)), some (eI (a3)), some (eJ (i36)), none, some (eJ (i38)), none, some (eI (i40)), o42, none]) (s2 := [eJ (v53)]) rfl (b_ladd e54) rfl ?_
                    refine w_t (np := 85) (l2 := [some (eR a0), some (eI (a1)), some (eI (a2)), some (eI (a3)), some (eJ (i36)), none, some (eJ (i38)), none, some (eI (i40)), some (eJ (v53)), none]) (s2 := []) rfl rfl rfl ?_
                    refine w_t (np := 87) (l2 := [some (eR a0), some (eI (a1)), some (eI (a2)), some (eI (a3)), some (eJ (i36)), none, some (eJ (i38)), none, some (eI (i40)), some (eJ (v53)), none]) (s2 := [eJ (v53)]) rfl rfl rfl ?_
                    refine w_t (np := 89) (l2 := [some (eR a0), some (eI (a1)), some (eI (a2)), some (eI (a3)), some (eJ (i36)), none, some (eJ (i38)), none, some (eI (i40)), some (eJ (v53)), none]) (s2 := [eJ (i38), eJ (v53)]) rfl rfl rfl ?_
                    obtain ⟨v56, e57, b58⟩ : ∃ zz : Int, ev_W ((v53) + (i38)) = zz ∧ (-9223372036854775808 ≤ zz ∧ zz ≤ 9223372036854775807) := ⟨_, rfl, hW_bd _⟩
                    refine w_t (np := 90) (l2 := [some (eR a0), some (eI (a1)), some (eI (a2)), some (eI (a3)), some (eJ (i36)), none, some (eJ (i38)), none, some (eI (i40)), some (eJ (v53)), none]) (s2 := [eJ (v56)]) rfl (b_ladd e57) rfl ?_
                    refine w_t (np := 92) (l2 := [some (eR a0), some (eI (a1)), some (eI (a2)), some (eI (a3)), some (eJ (i36)), none, some (eJ (v56)), none, some (eI (i40)), some (eJ (v53)), none]) (s2 := []) rfl rfl rfl ?_
                    refine w_t (np := 94) (l2 := [some (eR a0), some (eI (a1)), some (eI (a2)), some (eI (a3)), some (eJ (i36)), none, some (eJ (v56)), none, some (eI (i40)), some (eJ (v53)), none]) (s2 := [eJ (v53)]) rfl rfl rfl ?_
                    refine w_t (np := 96) (l2 := [some (eR a0), some (eI (a1)), some (eI (a2)), some (eI (a3)), some (eJ (v53)), none, some (eJ (v56)), none, some (eI (i40)), some (eJ (v53)), none]) (s2 := []) rfl rfl rfl ?_
                    obtain ⟨v59, e60⟩ : ∃ zz : Int, zz = (i40) + (1) := ⟨_, rfl⟩
                    have b61 : 1 ≤ v59 ∧ v59 ≤ 40 := by omega
                    refine w_t (np := 99) (l2 := [some (eR a0), some (eI (a1)), some (eI (a2)), some (eI (a3)), some (eJ (v53)), none, some (eJ (v56)), none, some (eI (v59)), some (eJ (v53)), none]) (s2 := []) rfl (b_iinc rfl (by rw [← e60]; exact ev_w_in (by omega) (by omega)) rfl) rfl ?_
                    refine w_go (t1 := 72) rfl rfl ?_
                    exact ih35 (40 - (v59)).toNat (by omega) m43 (v53) (v56) (v59) (some (eJ (v53))) I44 F45 (by omega) (by omega) (by omega) k46 k47 k48 k49 k50    rfl
                exact hL72 _ m20 (0) (1) (0) (none) I21 F23 (by decide) (by decide) (by decide) (W22.slot (W18.slot e8 (by decide)) (by decide)) (W22.slot W18.at (by decide)) W22.at e27 e31    rfl
              · have b34 : 0 ≤ v30 ∧ v30 ≤ 0 := by omega
                refine w_t (np := 57) (l2 := [some (eR a0), some (eI (a1)), some (eI (a2)), some (eI (a3)), none, none, none, none, none, none, none]) (s2 := [eJ (1)]) rfl rfl rfl ?_
                refine w_go (t1 := 61) rfl rfl ?_
                refine w_t (np := 63) (l2 := [some (eR a0), some (eI (a1)), some (eI (a2)), some (eI (a3)), some (eJ (1)), none, none, none, none, none, none]) (s2 := []) rfl rfl rfl ?_
                refine w_t (np := 64) (l2 := [some (eR a0), some (eI (a1)), some (eI (a2)), some (eI (a3)), some (eJ (1)), none, none, none, none, none, none]) (s2 := [eJ (1)]) rfl rfl rfl ?_
                refine w_t (np := 66) (l2 := [some (eR a0), some (eI (a1)), some (eI (a2)), some (eI (a3)), some (eJ (1)), none, none, none, none, none, none]) (s2 := [eJ (1), eJ (1)]) rfl rfl rfl ?_
                refine w_t (np := 67) (l2 := [some (eR a0), some (eI (a1)), some (eI (a2)), some (eI (a3)), some (eJ (1)), none, none, none, none, none, none]) (s2 := [eJ (0)]) rfl (b_lsub rfl) rfl ?_
                refine w_t (np := 69) (l2 := [some (eR a0), some (eI (a1)), some (eI (a2)), some (eI (a3)), some (eJ (1)), none, some (eJ (0)), none, none, none, none]) (s2 := []) rfl rfl rfl ?_
                refine w_t (np := 70) (l2 := [some (eR a0), some (eI (a1)), some (eI (a2)), some (eI (a3)), some (eJ (1)), none, some (eJ (0)), none, none, none, none]) (s2 := [eI (0)]) rfl rfl rfl ?_
                refine w_t (np := 72) (l2 := [some (eR a0), some (eI (a1)), some (eI (a2)), some (eI (a3)), some (eJ (1)), none, some (eJ (0)), none, some (eI (0)), none, none]) (s2 := []) rfl rfl rfl ?_
                have hL72 : ∀ (n34 : Nat) (m43 : eM) (i36 : Int) (i38 : Int) (i40 : Int) (o42 : Option eV), SI g m43 → Fr l_271 0 0 g μ m43 → (-9223372036854775808 ≤ i36 ∧ i36 ≤ 9223372036854775807) → (-9223372036854775808 ≤ i38 ∧ i38 ≤ 9223372036854775807) → (0 ≤ i40 ∧ i40 ≤ 40) → m43.1 a0 8 = v7 → m43.1 a0 1 = 0 → m43.1 a0 0 = 0 → m43.1 a0 12 = ((v26 : Nat) : Int) → m43.1 v26 (a1).toNat = v30 → n34 = (40 - i40).toNat → ex_q (dt_fg L ρ) rc (d + 2, (271, 72, [some (eR a0), some (eI (a1)), some (eI (a2)), some (eI (a3)), some (eJ (i36)), none, some (eJ (i38)), none, some (eI (i40)), o42, none], []), f :: F, m43) := by
                  intro n34
                  induction n34 using Nat.strongRecOn with
                  | _ n34 ih35 =>
                  intro m43 i36 i38 i40 o42 I44 F45 b37 b39 b41 k46 k47 k48 k49 k50 hn51
                  refine w_t (np := 74) (l2 := [some (eR a0), some (eI (a1)), some (eI (a2)), some (eI (a3)), some (eJ (i36)), none, some (eJ (i38)), none, some (eI (i40)), o42, none]) (s2 := [eI (i40)]) rfl rfl rfl ?_
                  refine w_t (np := 75) (l2 := [some (eR a0), some (eI (a1)), some (eI (a2)), some (eI (a3)), some (eJ (i36)), none, some (eJ (i38)), none, some (eI (i40)), o42, none]) (s2 := [eI (a3), eI (i40)]) rfl rfl rfl ?_
                  refine b_cge (t1 := 102) (t2 := 78) rfl rfl rfl (ev_w_in (by omega) (by omega)) (ev_w_in (by omega) (by omega)) (fun g52 => ?_) (fun g52 => ?_)
                  · refine w_t (np := 103) (l2 := [some (eR a0), some (eI (a1)), some (eI (a2)), some (eI (a3)), some (eJ (i36)), none, some (eJ (i38)), none, some (eI (i40)), o42, none]) (s2 := [eI (a2)]) rfl rfl rfl ?_
                    refine b_ine (t1 := 111) (t2 := 106) rfl rfl rfl (ev_w_in (by omega) (by omega)) (fun g53 => ?_) (fun g53 => ?_)
                    · have b54 : 1 ≤ a2 ∧ a2 ≤ 1 := by omega
                      refine w_t (np := 113) (l2 := [some (eR a0), some (eI (a1)), some (eI (a2)), some (eI (a3)), some (eJ (i36)), none, some (eJ (i38)), none, some (eI (i40)), o42, none]) (s2 := [eJ (i38)]) rfl rfl rfl ?_
                      exact b_rl rfl rfl (K m43 (i38) I44 F45 (by omega))
                    · have b54 : 0 ≤ a2 ∧ a2 ≤ 0 := by omega
                      refine w_t (np := 108) (l2 := [some (eR a0), some (eI (a1)), some (eI (a2)), some (eI (a3)), some (eJ (i36)), none, some (eJ (i38)), none, some (eI (i40)), o42, none]) (s2 := [eJ (i36)]) rfl rfl rfl ?_
                      refine w_go (t1 := 113) rfl rfl ?_
                      exact b_rl rfl rfl (K m43 (i36) I44 F45 (by omega))
                  · have b53 : 0 ≤ i40 ∧ i40 ≤ 39 := by omega
                    have b54 : 1 ≤ a3 ∧ a3 ≤ 40 := by omega
                    refine w_t (np := 80) (l2 := [some (eR a0), some (eI (a1)), some (eI (a2)), some (eI (a3)), some (eJ (i36)), none, some (eJ (i38)), none, some (eI (i40)), o42, none]) (s2 := [eJ (i36)]) rfl rfl rfl ?_
                    refine w_t (np := 82) (l2 := [some (eR a0), some (eI (a1)), some (eI (a2)), some (eI (a3)), some (eJ (i36)), none, some (eJ (i38)), none, some (eI (i40)), o42, none]) (s2 := [eJ (i38), eJ (i36)]) rfl rfl rfl ?_
                    obtain ⟨v53, e54, b55⟩ : ∃ zz : Int, ev_W ((i36) + (i38)) = zz ∧ (-9223372036854775808 ≤ zz ∧ zz ≤ 9223372036854775807) := ⟨_, rfl, hW_bd _⟩
                    refine w_t (np := 83) (l2 := [some (eR a0), some (eI (a1)), some (eI (a2)), some (eI (a3)), some (eJ (i36)), none, some (eJ (i38)), none, some (eI (i40)), o42, none]) (s2 := [eJ (v53)]) rfl (b_ladd e54) rfl ?_
                    refine w_t (np := 85) (l2 := [some (eR a0), some (eI (a1)), some (eI (a2)), some (eI (a3)), some (eJ (i36)), none, some (eJ (i38)), none, some (eI (i40)), some (eJ (v53)), none]) (s2 := []) rfl rfl rfl ?_
                    refine w_t (np := 87) (l2 := [some (eR a0), some (eI (a1)), some (eI (a2)), some (eI (a3)), some (eJ (i36)), none, some (eJ (i38)), none, some (eI (i40)), some (eJ (v53)), none]) (s2 := [eJ (v53)]) rfl rfl rfl ?_
                    refine w_t (np := 89) (l2 := [some (eR a0), some (eI (a1)), some (eI (a2)), some (eI (a3)), some (eJ (i36)), none, some (eJ (i38)), none, some (eI (i40)), some (eJ (v53)), none]) (s2 := [eJ (i38), eJ (v53)]) rfl rfl rfl ?_
                    obtain ⟨v56, e57, b58⟩ : ∃ zz : Int, ev_W ((v53) + (i38)) = zz ∧ (-9223372036854775808 ≤ zz ∧ zz ≤ 9223372036854775807) := ⟨_, rfl, hW_bd _⟩
                    refine w_t (np := 90) (l2 := [some (eR a0), some (eI (a1)), some (eI (a2)), some (eI (a3)), some (eJ (i36)), none, some (eJ (i38)), none, some (eI (i40)), some (eJ (v53)), none]) (s2 := [eJ (v56)]) rfl (b_ladd e57) rfl ?_
                    refine w_t (np := 92) (l2 := [some (eR a0), some (eI (a1)), some (eI (a2)), some (eI (a3)), some (eJ (i36)), none, some (eJ (v56)), none, some (eI (i40)), some (eJ (v53)), none]) (s2 := []) rfl rfl rfl ?_
                    refine w_t (np := 94) (l2 := [some (eR a0), some (eI (a1)), some (eI (a2)), some (eI (a3)), some (eJ (i36)), none, some (eJ (v56)), none, some (eI (i40)), some (eJ (v53)), none]) (s2 := [eJ (v53)]) rfl rfl rfl ?_
                    refine w_t (np := 96) (l2 := [some (eR a0), some (eI (a1)), some (eI (a2)), some (eI (a3)), some (eJ (v53)), none, some (eJ (v56)), none, some (eI (i40)), some (eJ (v53)), none]) (s2 := []) rfl rfl rfl ?_
                    obtain ⟨v59, e60⟩ : ∃ zz : Int, zz = (i40) + (1) := ⟨_, rfl⟩
                    have b61 : 1 ≤ v59 ∧ v59 ≤ 40 := by omega
                    refine w_t (np := 99) (l2 := [some (eR a0), some (eI (a1)), some (eI (a2)), some (eI (a3)), some (eJ (v53)), none, some (eJ (v56)), none, some (eI (v59)), some (eJ (v53)), none]) (s2 := []) rfl (b_iinc rfl (by rw [← e60]; exact ev_w_in (by omega) (by omega)) rfl) rfl ?_
                    refine w_go (t1 := 72) rfl rfl ?_
                    exact ih35 (40 - (v59)).toNat (by omega) m43 (v53) (v56) (v59) (some (eJ (v53))) I44 F45 (by omega) (by omega) (by omega) k46 k47 k48 k49 k50    rfl
                exact hL72 _ m20 (1) (0) (0) (none) I21 F23 (by decide) (by decide) (by decide) (W22.slot (W18.slot e8 (by decide)) (by decide)) (W22.slot W18.at (by decide)) W22.at e27 e31    rfl
def l_272 : List Nat := [13313, 13314]
theorem s_272 {L : Nat} {ρ : Nat → Int} {rc : eQ} {d : Nat} {f : eFr} {F : List eFr} {μ : eM} {g : Nat → Nat} {a0 : Nat} {a1 : Int} (hI : SI g μ) (gA0 : g a0 = 52) (bA1 : -2147483648 ≤ a1 ∧ a1 ≤ 2147483647) (K : ∀ (μ2 : eM) (v : Int), SI g μ2 → Fr l_272 0 0 g μ μ2 → (-2147483648 ≤ v ∧ v ≤ 2147483647) → ex_q (dt_fg L ρ) rc (d + 2, (f.1, f.2.1, f.2.2.1, eI v :: f.2.2.2), F, μ2)) : ex_q (dt_fg L ρ) rc (d + 1, (272, 0, [some (eR a0), some (eI (a1))], []), f :: F, μ) := by
  have F0 : Fr l_272 0 0 g μ μ := Fr.r
  refine w_t (np := 1) (l2 := [some (eR a0), some (eI (a1))]) (s2 := [eR a0]) rfl (s_an rfl (pos_g hI gA0 (by decide))) rfl ?_
  refine w_t (np := 2) (l2 := [some (eR a0), some (eI (a1))]) (s2 := [eI (a1), eR a0]) rfl rfl rfl ?_
  refine w_t (np := 3) (l2 := [some (eR a0), some (eI (a1))]) (s2 := [eI (0), eI (a1), eR a0]) rfl rfl rfl ?_
  refine w_t (np := 4) (l2 := [some (eR a0), some (eI (a1))]) (s2 := [eI (1), eI (0), eI (a1), eR a0]) rfl rfl rfl ?_
  refine w_cu (np := 7) (as := [eI (a1), eI (0), eI (1)]) (l2 := [some (eI (a1)), some (eI (0)), some (eI (1))]) (rest := [eR a0]) rfl rfl rfl (Nat.ble_eq.mp rfl) rfl rfl rfl rfl ?_
  refine w_t (np := 1) (l2 := [some (eI (a1)), some (eI (0)), some (eI (1))]) (s2 := [eI (a1)]) rfl rfl rfl ?_
  refine w_t (np := 2) (l2 := [some (eI (a1)), some (eI (0)), some (eI (1))]) (s2 := [eI (0), eI (a1)]) rfl rfl rfl ?_
  refine b_clt (t1 := 14) (t2 := 5) rfl rfl rfl (ev_w_in (by omega) (by omega)) rfl (fun g1 => ?_) (fun g1 => ?_)
  · have b2 : -2147483648 ≤ a1 ∧ a1 ≤ -1 := by omega
    refine w_t (np := 15) (l2 := [some (eI (a1)), some (eI (0)), some (eI (1))]) (s2 := [eI (0)]) rfl rfl rfl ?_
    refine b_rz rfl rfl (Or.inl rfl) ?_
    show ex_q (dt_fg L ρ) rc (d + 1, (272, 7, [some (eR a0), some (eI (a1))], [eI (0), eR a0]), f :: F, μ)
    refine b_ieq (t1 := 14) (t2 := 10) rfl rfl rfl rfl (fun g2 => ?_) (fun g2 => absurd g2 (by decide))
    refine w_t (np := 15) (l2 := [some (eR a0), some (eI (a1))]) (s2 := [eI (1), eR a0]) rfl rfl rfl ?_
    refine w_cw (np := 18) (as := [eI (1)]) (l2 := [some (eR a0), some (eI (1))]) (rest := []) rfl rfl rfl (Nat.ble_eq.mp rfl) rfl rfl rfl (hI.kd gA0 (by decide) (n := 69) rfl) rfl ?_
    refine w_t (np := 1) (l2 := [some (eR a0), some (eI (1))]) (s2 := [eR a0]) rfl (s_an rfl (pos_g hI gA0 (by decide))) rfl ?_
    refine w_t (np := 2) (l2 := [some (eR a0), some (eI (1))]) (s2 := [eI (0), eR a0]) rfl rfl rfl ?_
    refine j_pf (np := 5) (w := 0) rfl rfl hI gA0 (by decide) (n := 69) rfl rfl (hO_i (lo := -2147483648) (hi := 2147483647) rfl (by decide)) ?_
    intro m3 I4 W5
    have F6 : Fr l_272 0 0 g μ m3 := F0.w W5 gA0 rfl
    refine w_t (np := 6) (l2 := [some (eR a0), some (eI (1))]) (s2 := [eR a0]) rfl (s_an rfl (pos_g I4 gA0 (by decide))) rfl ?_
    refine w_t (np := 7) (l2 := [some (eR a0), some (eI (1))]) (s2 := [eI (1), eR a0]) rfl rfl rfl ?_
    refine j_pf (np := 10) (w := 1) rfl rfl I4 gA0 (by decide) (n := 69) rfl rfl (hO_i (lo := -2147483648) (hi := 2147483647) rfl (by decide)) ?_
    intro m7 I8 W9
    have F10 : Fr l_272 0 0 g μ m7 := F6.w W9 gA0 rfl
    refine w_t (np := 11) (l2 := [some (eR a0), some (eI (1))]) (s2 := [eI (1)]) rfl rfl rfl ?_
    refine b_ine (t1 := 18) (t2 := 14) rfl rfl rfl rfl (fun g11 => ?_) (fun g11 => absurd g11 (by decide))
    refine w_t (np := 19) (l2 := [some (eR a0), some (eI (1))]) (s2 := [eI (0)]) rfl rfl rfl ?_
    refine b_rz rfl rfl (Or.inl rfl) ?_
    show ex_q (dt_fg L ρ) rc (d + 1, (272, 18, [some (eR a0), some (eI (a1))], [eI (0)]), f :: F, m7)
    refine b_ieq (t1 := 29) (t2 := 21) rfl rfl rfl rfl (fun g12 => ?_) (fun g12 => absurd g12 (by decide))
    refine w_t (np := 30) (l2 := [some (eR a0), some (eI (a1))]) (s2 := [eI (-1)]) rfl rfl rfl ?_
    exact b_ri rfl rfl (K m7 (-1) I8 F10 (by decide))
  · have b2 : 0 ≤ a1 ∧ a1 ≤ 2147483647 := by omega
    refine w_t (np := 6) (l2 := [some (eI (a1)), some (eI (0)), some (eI (1))]) (s2 := [eI (a1)]) rfl rfl rfl ?_
    refine w_t (np := 7) (l2 := [some (eI (a1)), some (eI (0)), some (eI (1))]) (s2 := [eI (1), eI (a1)]) rfl rfl rfl ?_
    refine b_cgt (t1 := 14) (t2 := 10) rfl rfl rfl (ev_w_in (by omega) (by omega)) rfl (fun g2 => ?_) (fun g2 => ?_)
    · have b3 : 2 ≤ a1 ∧ a1 ≤ 2147483647 := by omega
      refine w_t (np := 15) (l2 := [some (eI (a1)), some (eI (0)), some (eI (1))]) (s2 := [eI (0)]) rfl rfl rfl ?_
      refine b_rz rfl rfl (Or.inl rfl) ?_
      show ex_q (dt_fg L ρ) rc (d + 1, (272, 7, [some (eR a0), some (eI (a1))], [eI (0), eR a0]), f :: F, μ)
      refine b_ieq (t1 := 14) (t2 := 10) rfl rfl rfl rfl (fun g3 => ?_) (fun g3 => absurd g3 (by decide))
      refine w_t (np := 15) (l2 := [some (eR a0), some (eI (a1))]) (s2 := [eI (1), eR a0]) rfl rfl rfl ?_
      refine w_cw (np := 18) (as := [eI (1)]) (l2 := [some (eR a0), some (eI (1))]) (rest := []) rfl rfl rfl (Nat.ble_eq.mp rfl) rfl rfl rfl (hI.kd gA0 (by decide) (n := 69) rfl) rfl ?_
      refine w_t (np := 1) (l2 := [some (eR a0), some (eI (1))]) (s2 := [eR a0]) rfl (s_an rfl (pos_g hI gA0 (by decide))) rfl ?_
      refine w_t (np := 2) (l2 := [some (eR a0), some (eI (1))]) (s2 := [eI (0), eR a0]) rfl rfl rfl ?_
      refine j_pf (np := 5) (w := 0) rfl rfl hI gA0 (by decide) (n := 69) rfl rfl (hO_i (lo := -2147483648) (hi := 2147483647) rfl (by decide)) ?_
      intro m4 I5 W6
      have F7 : Fr l_272 0 0 g μ m4 := F0.w W6 gA0 rfl
      refine w_t (np := 6) (l2 := [some (eR a0), some (eI (1))]) (s2 := [eR a0]) rfl (s_an rfl (pos_g I5 gA0 (by decide))) rfl ?_
      refine w_t (np := 7) (l2 := [some (eR a0), some (eI (1))]) (s2 := [eI (1), eR a0]) rfl rfl rfl ?_
      refine j_pf (np := 10) (w := 1) rfl rfl I5 gA0 (by decide) (n := 69) rfl rfl (hO_i (lo := -2147483648) (hi := 2147483647) rfl (by decide)) ?_
      intro m8 I9 W10
      have F11 : Fr l_272 0 0 g μ m8 := F7.w W10 gA0 rfl
      refine w_t (np := 11) (l2 := [some (eR a0), some (eI (1))]) (s2 := [eI (1)]) rfl rfl rfl ?_
      refine b_ine (t1 := 18) (t2 := 14) rfl rfl rfl rfl (fun g12 => ?_) (fun g12 => absurd g12 (by decide))
      refine w_t (np := 19) (l2 := [some (eR a0), some (eI (1))]) (s2 := [eI (0)]) rfl rfl rfl ?_
      refine b_rz rfl rfl (Or.inl rfl) ?_
      show ex_q (dt_fg L ρ) rc (d + 1, (272, 18, [some (eR a0), some (eI (a1))], [eI (0)]), f :: F, m8)
      refine b_ieq (t1 := 29) (t2 := 21) rfl rfl rfl rfl (fun g13 => ?_) (fun g13 => absurd g13 (by decide))
      refine w_t (np := 30) (l2 := [some (eR a0), some (eI (a1))]) (s2 := [eI (-1)]) rfl rfl rfl ?_
      exact b_ri rfl rfl (K m8 (-1) I9 F11 (by decide))
    · have b3 : 0 ≤ a1 ∧ a1 ≤ 1 := by omega
      refine w_t (np := 11) (l2 := [some (eI (a1)), some (eI (0)), some (eI (1))]) (s2 := [eI (1)]) rfl rfl rfl ?_
      refine w_go (t1 := 15) rfl rfl ?_
      refine b_rz rfl rfl (Or.inr rfl) ?_
      show ex_q (dt_fg L ρ) rc (d + 1, (272, 7, [some (eR a0), some (eI (a1))], [eI (1), eR a0]), f :: F, μ)
      refine b_ieq (t1 := 14) (t2 := 10) rfl rfl rfl rfl (fun g3 => absurd g3 (by decide)) (fun g3 => ?_)
      refine w_t (np := 11) (l2 := [some (eR a0), some (eI (a1))]) (s2 := [eI (0), eR a0]) rfl rfl rfl ?_
      refine w_go (t1 := 15) rfl rfl ?_
      refine w_cw (np := 18) (as := [eI (0)]) (l2 := [some (eR a0), some (eI (0))]) (rest := []) rfl rfl rfl (Nat.ble_eq.mp rfl) rfl rfl rfl (hI.kd gA0 (by decide) (n := 69) rfl) rfl ?_
      refine w_t (np := 1) (l2 := [some (eR a0), some (eI (0))]) (s2 := [eR a0]) rfl (s_an rfl (pos_g hI gA0 (by decide))) rfl ?_
      refine w_t (np := 2) (l2 := [some (eR a0), some (eI (0))]) (s2 := [eI (0), eR a0]) rfl rfl rfl ?_
      refine j_pf (np := 5) (w := 0) rfl rfl hI gA0 (by decide) (n := 69) rfl rfl (hO_i (lo := -2147483648) (hi := 2147483647) rfl (by decide)) ?_
      intro m4 I5 W6
      have F7 : Fr l_272 0 0 g μ m4 := F0.w W6 gA0 rfl
      refine w_t (np := 6) (l2 := [some (eR a0), some (eI (0))]) (s2 := [eR a0]) rfl (s_an rfl (pos_g I5 gA0 (by decide))) rfl ?_
      refine w_t (np := 7) (l2 := [some (eR a0), some (eI (0))]) (s2 := [eI (0), eR a0]) rfl rfl rfl ?_
      refine j_pf (np := 10) (w := 0) rfl rfl I5 gA0 (by decide) (n := 69) rfl rfl (hO_i (lo := -2147483648) (hi := 2147483647) rfl (by decide)) ?_
      intro m8 I9 W10
      have F11 : Fr l_272 0 0 g μ m8 := F7.w W10 gA0 rfl
      refine w_t (np := 11) (l2 := [some (eR a0), some (eI (0))]) (s2 := [eI (0)]) rfl rfl rfl ?_
      refine b_ine (t1 := 18) (t2 := 14) rfl rfl rfl rfl (fun g12 => absurd g12 (by decide)) (fun g12 => ?_)
      refine w_t (np := 15) (l2 := [some (eR a0), some (eI (0))]) (s2 := [eI (1)]) rfl rfl rfl ?_
      refine w_go (t1 := 19) rfl rfl ?_
      refine b_rz rfl rfl (Or.inr rfl) ?_
      show ex_q (dt_fg L ρ) rc (d + 1, (272, 18, [some (eR a0), some (eI (a1))], [eI (1)]), f :: F, m8)
      refine b_ieq (t1 := 29) (t2 := 21) rfl rfl rfl rfl (fun g13 => absurd g13 (by decide)) (fun g13 => ?_)
      refine w_t (np := 22) (l2 := [some (eR a0), some (eI (a1))]) (s2 := [eR a0]) rfl (s_an rfl (pos_g I9 gA0 (by decide))) rfl ?_
      refine w_t (np := 23) (l2 := [some (eR a0), some (eI (a1))]) (s2 := [eI (a1), eR a0]) rfl rfl rfl ?_
      refine w_cw (np := 26) (as := [eI (a1)]) (l2 := [some (eR a0), some (eI (a1)), none, none]) (rest := []) rfl rfl rfl (Nat.ble_eq.mp rfl) rfl rfl rfl (I9.kd gA0 (by decide) (n := 69) rfl) rfl ?_
      refine s_258 (a1 := a1) I9 gA0 (by omega) ?_
      intro v14 b15
      show ex_q (dt_fg L ρ) rc (d + 1, (272, 26, [some (eR a0), some (eI (a1))], [eI (v14)]), f :: F, m8)
      refine w_go (t1 := 30) rfl rfl ?_
      exact b_ri rfl rfl (K m8 (v14) I9 F11 (by omega))
def l_273 : List Nat := [13315, 13316, 13317, 13318]
theorem s_273 {L : Nat} {ρ : Nat → Int} {rc : eQ} {d : Nat} {f : eFr} {F : List eFr} {μ : eM} {g : Nat → Nat} {a0 : Nat} {a1 : Int} {a2 : Int} (hI : SI g μ) (gA0 : g a0 = 52) (bA1 : 0 ≤ a1 ∧ a1 ≤ 889) (bA2 : 0 ≤ a2 ∧ a2 ≤ 889) (K : ∀ (μ2 : eM), SI g μ2 → Fr l_273 0 0 g μ μ2 → ex_q (dt_fg L ρ) rc (d + 4, (f.1, f.2.1, f.2.2.1, f.2.2.2), F, μ2)) : ex_q (dt_fg L ρ) rc (d + 3, (273, 0, [some (eR a0), some (eI (a1)), some (eI (a2)), none, none, none, none, none, none, none, none, none, none], []), f :: F, μ) := by
  have F0 : Fr l_273 0 0 g μ μ := Fr.r
  refine w_t (np := 2) (l2 := [some (eR a0), some (eI (a1)), some (eI (a2)), none, none, none, none, none, none, none, none, none, none]) (s2 := [eI (12)]) rfl rfl rfl ?_
  refine w_t (np := 3) (l2 := [some (eR a0), some (eI (a1)), some (eI (a2)), none, none, none, none, none, none, none, none, none, none]) (s2 := [eI (a1), eI (12)]) rfl rfl rfl ?_
  obtain ⟨v1, e2⟩ : ∃ zz : Int, zz = (12) * (a1) := ⟨_, rfl⟩
  have b3 : 0 ≤ v1 ∧ v1 ≤ 10668 := by omega
  refine w_t (np := 4) (l2 := [some (eR a0), some (eI (a1)), some (eI (a2)), none, none, none, none, none, none, none, none, none, none]) (s2 := [eI (v1)]) rfl (b_imul (by rw [← e2]; exact ev_w_in (by omega) (by omega))) rfl ?_
  refine w_t (np := 5) (l2 := [some (eR a0), some (eI (a1)), some (eI (a2)), some (eI (v1)), none, none, none, none, none, none, none, none, none]) (s2 := []) rfl rfl rfl ?_
  refine w_t (np := 7) (l2 := [some (eR a0), some (eI (a1)), some (eI (a2)), some (eI (v1)), none, none, none, none, none, none, none, none, none]) (s2 := [eI (12)]) rfl rfl rfl ?_
  refine w_t (np := 8) (l2 := [some (eR a0), some (eI (a1)), some (eI (a2)), some (eI (v1)), none, none, none, none, none, none, none, none, none]) (s2 := [eI (a2), eI (12)]) rfl rfl rfl ?_
  obtain ⟨v4, e5⟩ : ∃ zz : Int, zz = (12) * (a2) := ⟨_, rfl⟩
  have b6 : 0 ≤ v4 ∧ v4 ≤ 10668 := by omega
  refine w_t (np := 9) (l2 := [some (eR a0), some (eI (a1)), some (eI (a2)), some (eI (v1)), none, none, none, none, none, none, none, none, none]) (s2 := [eI (v4)]) rfl (b_imul (by rw [← e5]; exact ev_w_in (by omega) (by omega))) rfl ?_
  refine w_t (np := 11) (l2 := [some (eR a0), some (eI (a1)), some (eI (a2)), some (eI (v1)), some (eI (v4)), none, none, none, none, none, none, none, none]) (s2 := []) rfl rfl rfl ?_
  refine w_t (np := 12) (l2 := [some (eR a0), some (eI (a1)), some (eI (a2)), some (eI (v1)), some (eI (v4)), none, none, none, none, none, none, none, none]) (s2 := [eR a0]) rfl (s_an rfl (pos_g hI gA0 (by decide))) rfl ?_
  refine j_gr (np := 15) rfl rfl hI gA0 (by decide) (n := 69) rfl rfl rfl ?_
  intro v7 e8 b9 z10
  have b9 : g v7 = 54 := Nat.eq_of_beq_eq_true b9
  refine w_t (np := 17) (l2 := [some (eR a0), some (eI (a1)), some (eI (a2)), some (eI (v1)), some (eI (v4)), none, none, none, none, none, none, none, none]) (s2 := [eI (v4), eR v7]) rfl rfl rfl ?_
  refine j_al (np := 18) rfl rfl hI b9 (by decide) (n := 10680) rfl rfl (lo := -2147483648) (hi := 2147483647) (fun _ => rfl) (by omega) (by omega) ?_
  intro v11 e12 b13
  refine w_t (np := 19) (l2 := [some (eR a0), some (eI (a1)), some (eI (a2)), some (eI (v1)), some (eI (v4)), none, none, none, none, none, none, none, none]) (s2 := [eR a0, eI (v11)]) rfl (s_an rfl (pos_g hI gA0 (by decide))) rfl ?_
  refine w_gf (np := 22) (v := eR v7) rfl rfl (hI.kd gA0 (by decide) (n := 69) rfl) (by rw [e8]; rfl) ?_
  refine w_t (np := 23) (l2 := [some (eR a0), some (eI (a1)), some (eI (a2)), some (eI (v1)), some (eI (v4)), none, none, none, none, none, none, none, none]) (s2 := [eI (v1), eR v7, eI (v11)]) rfl rfl rfl ?_
  refine j_al (np := 24) rfl rfl hI b9 (by decide) (n := 10680) rfl rfl (lo := -2147483648) (hi := 2147483647) (fun _ => rfl) (by omega) (by omega) ?_
  intro v14 e15 b16
  obtain ⟨v17, e18, b19⟩ : ∃ zz : Int, ev_w ((v11) - (v14)) = zz ∧ (-2147483648 ≤ zz ∧ zz ≤ 2147483647) := ⟨_, rfl, hw_bd _⟩
  refine w_t (np := 25) (l2 := [some (eR a0), some (eI (a1)), some (eI (a2)), some (eI (v1)), some (eI (v4)), none, none, none, none, none, none, none, none]) (s2 := [eI (v17)]) rfl (b_isub e18) rfl ?_
  refine w_t (np := 26) (l2 := [some (eR a0), some (eI (a1)), some (eI (a2)), some (eI (v1)), some (eI (v4)), none, none, none, none, none, none, none, none]) (s2 := [eJ (v17)]) rfl (b_i2l (ev_w_in (by omega) (by omega))) rfl ?_
  refine w_t (np := 28) (l2 := [some (eR a0), some (eI (a1)), some (eI (a2)), some (eI (v1)), some (eI (v4)), some (eJ (v17)), none, none, none, none, none, none, none]) (s2 := []) rfl rfl rfl ?_
  refine w_t (np := 29) (l2 := [some (eR a0), some (eI (a1)), some (eI (a2)), some (eI (v1)), some (eI (v4)), some (eJ (v17)), none, none, none, none, none, none, none]) (s2 := [eR a0]) rfl (s_an rfl (pos_g hI gA0 (by decide))) rfl ?_
  refine w_gf (np := 32) (v := eR v7) rfl rfl (hI.kd gA0 (by decide) (n := 69) rfl) (by rw [e8]; rfl) ?_
  refine w_t (np := 34) (l2 := [some (eR a0), some (eI (a1)), some (eI (a2)), some (eI (v1)), some (eI (v4)), some (eJ (v17)), none, none, none, none, none, none, none]) (s2 := [eI (v4), eR v7]) rfl rfl rfl ?_
  refine w_t (np := 35) (l2 := [some (eR a0), some (eI (a1)), some (eI (a2)), some (eI (v1)), some (eI (v4)), some (eJ (v17)), none, none, none, none, none, none, none]) (s2 := [eI (1), eI (v4), eR v7]) rfl rfl rfl ?_
  obtain ⟨v20, e21⟩ : ∃ zz : Int, zz = (v4) + (1) := ⟨_, rfl⟩
  have b22 : 1 ≤ v20 ∧ v20 ≤ 10669 := by omega
  refine w_t (np := 36) (l2 := [some (eR a0), some (eI (a1)), some (eI (a2)), some (eI (v1)), some (eI (v4)), some (eJ (v17)), none, none, none, none, none, none, none]) (s2 := [eI (v20), eR v7]) rfl (b_iadd (by rw [← e21]; exact ev_w_in (by omega) (by omega))) rfl ?_
  refine j_al (np := 37) rfl rfl hI b9 (by decide) (n := 10680) rfl rfl (lo := -2147483648) (hi := 2147483647) (fun _ => rfl) (by omega) (by omega) ?_
  intro v23 e24 b25
  refine w_t (np := 38) (l2 := [some (eR a0), some (eI (a1)), some (eI (a2)), some (eI (v1)), some (eI (v4)), some (eJ (v17)), none, none, none, none, none, none, none]) (s2 := [eR a0, eI (v23)]) rfl (s_an rfl (pos_g hI gA0 (by decide))) rfl ?_
  refine w_gf (np := 41) (v := eR v7) rfl rfl (hI.kd gA0 (by decide) (n := 69) rfl) (by rw [e8]; rfl) ?_
  refine w_t (np := 42) (l2 := [some (eR a0), some (eI (a1)), some (eI (a2)), some (eI (v1)), some (eI (v4)), some (eJ (v17)), none, none, none, none, none, none, none]) (s2 := [eI (v1), eR v7, eI (v23)]) rfl rfl rfl ?_
  refine w_t (np := 43) (l2 := [some (eR a0), some (eI (a1)), some (eI (a2)), some (eI (v1)), some (eI (v4)), some (eJ (v17)), none, none, none, none, none, none, none]) (s2 := [eI (1), eI (v1), eR v7, eI (v23)]) rfl rfl rfl ?_
  obtain ⟨v26, e27⟩ : ∃ zz : Int, zz = (v1) + (1) := ⟨_, rfl⟩
  have b28 : 1 ≤ v26 ∧ v26 ≤ 10669 := by omega
  refine w_t (np := 44) (l2 := [some (eR a0), some (eI (a1)), some (eI (a2)), some (eI (v1)), some (eI (v4)), some (eJ (v17)), none, none, none, none, none, none, none]) (s2 := [eI (v26), eR v7, eI (v23)]) rfl (b_iadd (by rw [← e27]; exact ev_w_in (by omega) (by omega))) rfl ?_
  refine j_al (np := 45) rfl rfl hI b9 (by decide) (n := 10680) rfl rfl (lo := -2147483648) (hi := 2147483647) (fun _ => rfl) (by omega) (by omega) ?_
  intro v29 e30 b31
  obtain ⟨v32, e33, b34⟩ : ∃ zz : Int, ev_w ((v23) - (v29)) = zz ∧ (-2147483648 ≤ zz ∧ zz ≤ 2147483647) := ⟨_, rfl, hw_bd _⟩
  refine w_t (np := 46) (l2 := [some (eR a0), some (eI (a1)), some (eI (a2)), some (eI (v1)), some (eI (v4)), some (eJ (v17)), none, none, none, none, none, none, none]) (s2 := [eI (v32)]) rfl (b_isub e33) rfl ?_
  refine w_t (np := 47) (l2 := [some (eR a0), some (eI (a1)), some (eI (a2)), some (eI (v1)), some (eI (v4)), some (eJ (v17)), none, none, none, none, none, none, none]) (s2 := [eJ (v32)]) rfl (b_i2l (ev_w_in (by omega) (by omega))) rfl ?_
  refine w_t (np := 49) (l2 := [some (eR a0), some (eI (a1)), some (eI (a2)), some (eI (v1)), some (eI (v4)), some (eJ (v17)), none, some (eJ (v32)), none, none, none, none, none]) (s2 := []) rfl rfl rfl ?_
  refine w_t (np := 50) (l2 := [some (eR a0), some (eI (a1)), some (eI (a2)), some (eI (v1)), some (eI (v4)), some (eJ (v17)), none, some (eJ (v32)), none, none, none, none, none]) (s2 := [eR a0]) rfl (s_an rfl (pos_g hI gA0 (by decide))) rfl ?_
  refine w_gf (np := 53) (v := eR v7) rfl rfl (hI.kd gA0 (by decide) (n := 69) rfl) (by rw [e8]; rfl) ?_
  refine w_t (np := 55) (l2 := [some (eR a0), some (eI (a1)), some (eI (a2)), some (eI (v1)), some (eI (v4)), some (eJ (v17)), none, some (eJ (v32)), none, none, none, none, none]) (s2 := [eI (v4), eR v7]) rfl rfl rfl ?_
  refine w_t (np := 56) (l2 := [some (eR a0), some (eI (a1)), some (eI (a2)), some (eI (v1)), some (eI (v4)), some (eJ (v17)), none, some (eJ (v32)), none, none, none, none, none]) (s2 := [eI (2), eI (v4), eR v7]) rfl rfl rfl ?_
  obtain ⟨v35, e36⟩ : ∃ zz : Int, zz = (v4) + (2) := ⟨_, rfl⟩
  have b37 : 2 ≤ v35 ∧ v35 ≤ 10670 := by omega
  refine w_t (np := 57) (l2 := [some (eR a0), some (eI (a1)), some (eI (a2)), some (eI (v1)), some (eI (v4)), some (eJ (v17)), none, some (eJ (v32)), none, none, none, none, none]) (s2 := [eI (v35), eR v7]) rfl (b_iadd (by rw [← e36]; exact ev_w_in (by omega) (by omega))) rfl ?_
  refine j_al (np := 58) rfl rfl hI b9 (by decide) (n := 10680) rfl rfl (lo := -2147483648) (hi := 2147483647) (fun _ => rfl) (by omega) (by omega) ?_
  intro v38 e39 b40
  refine w_t (np := 59) (l2 := [some (eR a0), some (eI (a1)), some (eI (a2)), some (eI (v1)), some (eI (v4)), some (eJ (v17)), none, some (eJ (v32)), none, none, none, none, none]) (s2 := [eR a0, eI (v38)]) rfl (s_an rfl (pos_g hI gA0 (by decide))) rfl ?_
  refine w_gf (np := 62) (v := eR v7) rfl rfl (hI.kd gA0 (by decide) (n := 69) rfl) (by rw [e8]; rfl) ?_
  refine w_t (np := 63) (l2 := [some (eR a0), some (eI (a1)), some (eI (a2)), some (eI (v1)), some (eI (v4)), some (eJ (v17)), none, some (eJ (v32)), none, none, none, none, none]) (s2 := [eI (v1), eR v7, eI (v38)]) rfl rfl rfl ?_
  refine w_t (np := 64) (l2 := [some (eR a0), some (eI (a1)), some (eI (a2)), some (eI (v1)), some (eI (v4)), some (eJ (v17)), none, some (eJ (v32)), none, none, none, none, none]) (s2 := [eI (2), eI (v1), eR v7, eI (v38)]) rfl rfl rfl ?_
  obtain ⟨v41, e42⟩ : ∃ zz : Int, zz = (v1) + (2) := ⟨_, rfl⟩
  have b43 : 2 ≤ v41 ∧ v41 ≤ 10670 := by omega
  refine w_t (np := 65) (l2 := [some (eR a0), some (eI (a1)), some (eI (a2)), some (eI (v1)), some (eI (v4)), some (eJ (v17)), none, some (eJ (v32)), none, none, none, none, none]) (s2 := [eI (v41), eR v7, eI (v38)]) rfl (b_iadd (by rw [← e42]; exact ev_w_in (by omega) (by omega))) rfl ?_
  refine j_al (np := 66) rfl rfl hI b9 (by decide) (n := 10680) rfl rfl (lo := -2147483648) (hi := 2147483647) (fun _ => rfl) (by omega) (by omega) ?_
  intro v44 e45 b46
  obtain ⟨v47, e48, b49⟩ : ∃ zz : Int, ev_w ((v38) - (v44)) = zz ∧ (-2147483648 ≤ zz ∧ zz ≤ 2147483647) := ⟨_, rfl, hw_bd _⟩
  refine w_t (np := 67) (l2 := [some (eR a0), some (eI (a1)), some (eI (a2)), some (eI (v1)), some (eI (v4)), some (eJ (v17)), none, some (eJ (v32)), none, none, none, none, none]) (s2 := [eI (v47)]) rfl (b_isub e48) rfl ?_
  refine w_t (np := 68) (l2 := [some (eR a0), some (eI (a1)), some (eI (a2)), some (eI (v1)), some (eI (v4)), some (eJ (v17)), none, some (eJ (v32)), none, none, none, none, none]) (s2 := [eJ (v47)]) rfl (b_i2l (ev_w_in (by omega) (by omega))) rfl ?_
  refine w_t (np := 70) (l2 := [some (eR a0), some (eI (a1)), some (eI (a2)), some (eI (v1)), some (eI (v4)), some (eJ (v17)), none, some (eJ (v32)), none, some (eJ (v47)), none, none, none]) (s2 := []) rfl rfl rfl ?_
  refine w_t (np := 71) (l2 := [some (eR a0), some (eI (a1)), some (eI (a2)), some (eI (v1)), some (eI (v4)), some (eJ (v17)), none, some (eJ (v32)), none, some (eJ (v47)), none, none, none]) (s2 := [eR a0]) rfl (s_an rfl (pos_g hI gA0 (by decide))) rfl ?_
  refine w_gf (np := 74) (v := eR v7) rfl rfl (hI.kd gA0 (by decide) (n := 69) rfl) (by rw [e8]; rfl) ?_
  refine w_t (np := 76) (l2 := [some (eR a0), some (eI (a1)), some (eI (a2)), some (eI (v1)), some (eI (v4)), some (eJ (v17)), none, some (eJ (v32)), none, some (eJ (v47)), none, none, none]) (s2 := [eI (v4), eR v7]) rfl rfl rfl ?_
  refine w_t (np := 77) (l2 := [some (eR a0), some (eI (a1)), some (eI (a2)), some (eI (v1)), some (eI (v4)), some (eJ (v17)), none, some (eJ (v32)), none, some (eJ (v47)), none, none, none]) (s2 := [eI (3), eI (v4), eR v7]) rfl rfl rfl ?_
  obtain ⟨v50, e51⟩ : ∃ zz : Int, zz = (v4) + (3) := ⟨_, rfl⟩
  have b52 : 3 ≤ v50 ∧ v50 ≤ 10671 := by omega
  refine w_t (np := 78) (l2 := [some (eR a0), some (eI (a1)), some (eI (a2)), some (eI (v1)), some (eI (v4)), some (eJ (v17)), none, some (eJ (v32)), none, some (eJ (v47)), none, none, none]) (s2 := [eI (v50), eR v7]) rfl (b_iadd (by rw [← e51]; exact ev_w_in (by omega) (by omega))) rfl ?_
  refine j_al (np := 79) rfl rfl hI b9 (by decide) (n := 10680) rfl rfl (lo := -2147483648) (hi := 2147483647) (fun _ => rfl) (by omega) (by omega) ?_
  intro v53 e54 b55
  refine w_t (np := 80) (l2 := [some (eR a0), some (eI (a1)), some (eI (a2)), some (eI (v1)), some (eI (v4)), some (eJ (v17)), none, some (eJ (v32)), none, some (eJ (v47)), none, none, none]) (s2 := [eR a0, eI (v53)]) rfl (s_an rfl (pos_g hI gA0 (by decide))) rfl ?_
  refine w_gf (np := 83) (v := eR v7) rfl rfl (hI.kd gA0 (by decide) (n := 69) rfl) (by rw [e8]; rfl) ?_
  refine w_t (np := 84) (l2 := [some (eR a0), some (eI (a1)), some (eI (a2)), some (eI (v1)), some (eI (v4)), some (eJ (v17)), none, some (eJ (v32)), none, some (eJ (v47)), none, none, none]) (s2 := [eI (v1), eR v7, eI (v53)]) rfl rfl rfl ?_
  refine w_t (np := 85) (l2 := [some (eR a0), some (eI (a1)), some (eI (a2)), some (eI (v1)), some (eI (v4)), some (eJ (v17)), none, some (eJ (v32)), none, some (eJ (v47)), none, none, none]) (s2 := [eI (3), eI (v1), eR v7, eI (v53)]) rfl rfl rfl ?_
  obtain ⟨v56, e57⟩ : ∃ zz : Int, zz = (v1) + (3) := ⟨_, rfl⟩
  have b58 : 3 ≤ v56 ∧ v56 ≤ 10671 := by omega
  refine w_t (np := 86) (l2 := [some (eR a0), some (eI (a1)), some (eI (a2)), some (eI (v1)), some (eI (v4)), some (eJ (v17)), none, some (eJ (v32)), none, some (eJ (v47)), none, none, none]) (s2 := [eI (v56), eR v7, eI (v53)]) rfl (b_iadd (by rw [← e57]; exact ev_w_in (by omega) (by omega))) rfl ?_
  refine j_al (np := 87) rfl rfl hI b9 (by decide) (n := 10680) rfl rfl (lo := -2147483648) (hi := 2147483647) (fun _ => rfl) (by omega) (by omega) ?_
  intro v59 e60 b61
  obtain ⟨v62, e63, b64⟩ : ∃ zz : Int, ev_w ((v53) - (v59)) = zz ∧ (-2147483648 ≤ zz ∧ zz ≤ 2147483647) := ⟨_, rfl, hw_bd _⟩
  refine w_t (np := 88) (l2 := [some (eR a0), some (eI (a1)), some (eI (a2)), some (eI (v1)), some (eI (v4)), some (eJ (v17)), none, some (eJ (v32)), none, some (eJ (v47)), none, none, none]) (s2 := [eI (v62)]) rfl (b_isub e63) rfl ?_
  refine w_t (np := 89) (l2 := [some (eR a0), some (eI (a1)), some (eI (a2)), some (eI (v1)), some (eI (v4)), some (eJ (v17)), none, some (eJ (v32)), none, some (eJ (v47)), none, none, none]) (s2 := [eJ (v62)]) rfl (b_i2l (ev_w_in (by omega) (by omega))) rfl ?_
  refine w_t (np := 91) (l2 := [some (eR a0), some (eI (a1)), some (eI (a2)), some (eI (v1)), some (eI (v4)), some (eJ (v17)), none, some (eJ (v32)), none, some (eJ (v47)), none, some (eJ (v62)), none]) (s2 := []) rfl rfl rfl ?_
  refine w_t (np := 92) (l2 := [some (eR a0), some (eI (a1)), some (eI (a2)), some (eI (v1)), some (eI (v4)), some (eJ (v17)), none, some (eJ (v32)), none, some (eJ (v47)), none, some (eJ (v62)), none]) (s2 := [eR a0]) rfl (s_an rfl (pos_g hI gA0 (by decide))) rfl ?_
  refine w_t (np := 94) (l2 := [some (eR a0), some (eI (a1)), some (eI (a2)), some (eI (v1)), some (eI (v4)), some (eJ (v17)), none, some (eJ (v32)), none, some (eJ (v47)), none, some (eJ (v62)), none]) (s2 := [eJ (v17), eR a0]) rfl rfl rfl ?_
  refine w_t (np := 96) (l2 := [some (eR a0), some (eI (a1)), some (eI (a2)), some (eI (v1)), some (eI (v4)), some (eJ (v17)), none, some (eJ (v32)), none, some (eJ (v47)), none, some (eJ (v62)), none]) (s2 := [eJ (v32), eJ (v17), eR a0]) rfl rfl rfl ?_
  refine w_t (np := 98) (l2 := [some (eR a0), some (eI (a1)), some (eI (a2)), some (eI (v1)), some (eI (v4)), some (eJ (v17)), none, some (eJ (v32)), none, some (eJ (v47)), none, some (eJ (v62)), none]) (s2 := [eJ (v47), eJ (v32), eJ (v17), eR a0]) rfl rfl rfl ?_
  refine w_t (np := 100) (l2 := [some (eR a0), some (eI (a1)), some (eI (a2)), some (eI (v1)), some (eI (v4)), some (eJ (v17)), none, some (eJ (v32)), none, some (eJ (v47)), none, some (eJ (v62)), none]) (s2 := [eJ (v62), eJ (v47), eJ (v32), eJ (v17), eR a0]) rfl rfl rfl ?_
  refine w_cw (np := 103) (as := [eJ (v17), eJ (v32), eJ (v47), eJ (v62)]) (l2 := [some (eR a0), some (eJ (v17)), none, some (eJ (v32)), none, some (eJ (v47)), none, some (eJ (v62)), none]) (rest := []) rfl rfl rfl (Nat.ble_eq.mp rfl) rfl rfl rfl (hI.kd gA0 (by decide) (n := 69) rfl) rfl ?_
  refine s_219 hI gA0 (by omega) (by omega) (by omega) (by omega) ?_
  intro m65 I66 F67
  have F68 : Fr l_273 0 0 g μ m65 := F0.t F67 rfl
  show ex_q (dt_fg L ρ) rc (d + 3, (273, 103, [some (eR a0), some (eI (a1)), some (eI (a2)), some (eI (v1)), some (eI (v4)), some (eJ (v17)), none, some (eJ (v32)), none, some (eJ (v47)), none, some (eJ (v62)), none], []), f :: F, m65)
  refine w_t (np := 104) (l2 := [some (eR a0), some (eI (a1)), some (eI (a2)), some (eI (v1)), some (eI (v4)), some (eJ (v17)), none, some (eJ (v32)), none, some (eJ (v47)), none, some (eJ (v62)), none]) (s2 := [eR a0]) rfl (s_an rfl (pos_g I66 gA0 (by decide))) rfl ?_
  refine w_t (np := 106) (l2 := [some (eR a0), some (eI (a1)), some (eI (a2)), some (eI (v1)), some (eI (v4)), some (eJ (v17)), none, some (eJ (v32)), none, some (eJ (v47)), none, some (eJ (v62)), none]) (s2 := [eJ (v17), eR a0]) rfl rfl rfl ?_
  refine w_t (np := 108) (l2 := [some (eR a0), some (eI (a1)), some (eI (a2)), some (eI (v1)), some (eI (v4)), some (eJ (v17)), none, some (eJ (v32)), none, some (eJ (v47)), none, some (eJ (v62)), none]) (s2 := [eJ (v32), eJ (v17), eR a0]) rfl rfl rfl ?_
  refine w_t (np := 110) (l2 := [some (eR a0), some (eI (a1)), some (eI (a2)), some (eI (v1)), some (eI (v4)), some (eJ (v17)), none, some (eJ (v32)), none, some (eJ (v47)), none, some (eJ (v62)), none]) (s2 := [eJ (v47), eJ (v32), eJ (v17), eR a0]) rfl rfl rfl ?_
  refine w_t (np := 112) (l2 := [some (eR a0), some (eI (a1)), some (eI (a2)), some (eI (v1)), some (eI (v4)), some (eJ (v17)), none, some (eJ (v32)), none, some (eJ (v47)), none, some (eJ (v62)), none]) (s2 := [eJ (v62), eJ (v47), eJ (v32), eJ (v17), eR a0]) rfl rfl rfl ?_
  refine w_cw (np := 115) (as := [eJ (v17), eJ (v32), eJ (v47), eJ (v62)]) (l2 := [some (eR a0), some (eJ (v17)), none, some (eJ (v32)), none, some (eJ (v47)), none, some (eJ (v62)), none, none, none, none, none, none, none, none, none, none, none, none, none, none, none, none, none]) (rest := []) rfl rfl rfl (Nat.ble_eq.mp rfl) rfl rfl rfl (I66.kd gA0 (by decide) (n := 69) rfl) rfl ?_
  refine s_223 I66 gA0 (by omega) (by omega) (by omega) (by omega) ?_
  intro m69 I70 F71
  have F72 : Fr l_273 0 0 g μ m69 := F68.t F71 rfl
  show ex_q (dt_fg L ρ) rc (d + 3, (273, 115, [some (eR a0), some (eI (a1)), some (eI (a2)), some (eI (v1)), some (eI (v4)), some (eJ (v17)), none, some (eJ (v32)), none, some (eJ (v47)), none, some (eJ (v62)), none], []), f :: F, m69)
  refine w_t (np := 116) (l2 := [some (eR a0), some (eI (a1)), some (eI (a2)), some (eI (v1)), some (eI (v4)), some (eJ (v17)), none, some (eJ (v32)), none, some (eJ (v47)), none, some (eJ (v62)), none]) (s2 := [eR a0]) rfl (s_an rfl (pos_g I70 gA0 (by decide))) rfl ?_
  refine w_t (np := 117) (l2 := [some (eR a0), some (eI (a1)), some (eI (a2)), some (eI (v1)), some (eI (v4)), some (eJ (v17)), none, some (eJ (v32)), none, some (eJ (v47)), none, some (eJ (v62)), none]) (s2 := [eR a0, eR a0]) rfl (s_an rfl (pos_g I70 gA0 (by decide))) rfl ?_
  refine j_gj (np := 120) rfl rfl I70 gA0 (by decide) (n := 69) rfl rfl (lo := -9223372036854775808) (hi := 9223372036854775807) rfl ?_
  intro v73 e74 b75
  refine w_t (np := 121) (l2 := [some (eR a0), some (eI (a1)), some (eI (a2)), some (eI (v1)), some (eI (v4)), some (eJ (v17)), none, some (eJ (v32)), none, some (eJ (v47)), none, some (eJ (v62)), none]) (s2 := [eR a0, eJ (v73), eR a0]) rfl (s_an rfl (pos_g I70 gA0 (by decide))) rfl ?_
  refine j_gj (np := 124) rfl rfl I70 gA0 (by decide) (n := 69) rfl rfl (lo := -9223372036854775808) (hi := 9223372036854775807) rfl ?_
  intro v76 e77 b78
  obtain ⟨v79, e80, b81⟩ : ∃ zz : Int, ev_W ((v73) - (v76)) = zz ∧ (-9223372036854775808 ≤ zz ∧ zz ≤ 9223372036854775807) := ⟨_, rfl, hW_bd _⟩
  refine w_t (np := 125) (l2 := [some (eR a0), some (eI (a1)), some (eI (a2)), some (eI (v1)), some (eI (v4)), some (eJ (v17)), none, some (eJ (v32)), none, some (eJ (v47)), none, some (eJ (v62)), none]) (s2 := [eJ (v79), eR a0]) rfl (b_lsub e80) rfl ?_
  refine w_t (np := 126) (l2 := [some (eR a0), some (eI (a1)), some (eI (a2)), some (eI (v1)), some (eI (v4)), some (eJ (v17)), none, some (eJ (v32)), none, some (eJ (v47)), none, some (eJ (v62)), none]) (s2 := [eR a0, eJ (v79), eR a0]) rfl (s_an rfl (pos_g I70 gA0 (by decide))) rfl ?_
  refine w_gf (np := 129) (v := eJ (v76)) rfl rfl (I70.kd gA0 (by decide) (n := 69) rfl) (by rw [e77]; rfl) ?_
  refine w_t (np := 130) (l2 := [some (eR a0), some (eI (a1)), some (eI (a2)), some (eI (v1)), some (eI (v4)), some (eJ (v17)), none, some (eJ (v32)), none, some (eJ (v47)), none, some (eJ (v62)), none]) (s2 := [eJ (0), eJ (v76), eJ (v79), eR a0]) rfl rfl rfl ?_
  refine w_t (np := 131) (l2 := [some (eR a0), some (eI (a1)), some (eI (a2)), some (eI (v1)), some (eI (v4)), some (eJ (v17)), none, some (eJ (v32)), none, some (eJ (v47)), none, some (eJ (v62)), none]) (s2 := [eJ (0), eJ (0), eJ (v76), eJ (v79), eR a0]) rfl rfl rfl ?_
  refine w_cw (np := 134) (as := [eJ (v79), eJ (v76), eJ (0), eJ (0)]) (l2 := [some (eR a0), some (eJ (v79)), none, some (eJ (v76)), none, some (eJ (0)), none, some (eJ (0)), none]) (rest := []) rfl rfl rfl (Nat.ble_eq.mp rfl) rfl rfl rfl (I70.kd gA0 (by decide) (n := 69) rfl) rfl ?_
  refine s_219 I70 gA0 b81 b78 (by decide) (by decide) ?_
  intro m82 I83 F84
  have F85 : Fr l_273 0 0 g μ m82 := F72.t F84 rfl
  show ex_q (dt_fg L ρ) rc (d + 3, (273, 134, [some (eR a0), some (eI (a1)), some (eI (a2)), some (eI (v1)), some (eI (v4)), some (eJ (v17)), none, some (eJ (v32)), none, some (eJ (v47)), none, some (eJ (v62)), none], []), f :: F, m82)
  exact v_rv rfl rfl (K m82 I83 F85)
def l_274 : List Nat := [13313, 13314, 13315, 13316, 13317, 13318]
theorem s_274 {L : Nat} {ρ : Nat → Int} {rc : eQ} {d : Nat} {f : eFr} {F : List eFr} {μ : eM} {g : Nat → Nat} {a0 : Nat} {a1 : Int} {a2 : Int} {a3 : Int} {a4 : Int} (hI : SI g μ) (gA0 : g a0 = 52) (bA1 : -2147483648 ≤ a1 ∧ a1 ≤ 2147483647) (bA2 : -2147483648 ≤ a2 ∧ a2 ≤ 2147483647) (bA3 : -2147483648 ≤ a3 ∧ a3 ≤ 2147483647) (bA4 : -2147483648 ≤ a4 ∧ a4 ≤ 2147483647) (K : ∀ (μ2 : eM) (v : Int), SI g μ2 → Fr l_274 0 0 g μ μ2 → (-2147483648 ≤ v ∧ v ≤ 2147483647) → ex_q (dt_fg L ρ) rc (d + 5, (f.1, f.2.1, f.2.2.1, eI v :: f.2.2.2), F, μ2)) : ex_q (dt_fg L ρ) rc (d + 4, (274, 0, [some (eR a0), some (eI (a1)), some (eI (a2)), some (eI (a3)), some (eI (a4)), none, none, none, none], []), f :: F, μ) := by
  have F0 : Fr l_274 0 0 g μ μ := Fr.r
  refine w_t (np := 1) (l2 := [some (eR a0), some (eI (a1)), some (eI (a2)), some (eI (a3)), some (eI (a4)), none, none, none, none]) (s2 := [eR a0]) rfl (s_an rfl (pos_g hI gA0 (by decide))) rfl ?_
  refine w_t (np := 2) (l2 := [some (eR a0), some (eI (a1)), some (eI (a2)), some (eI (a3)), some (eI (a4)), none, none, none, none]) (s2 := [eR a0, eR a0]) rfl (s_an rfl (pos_g hI gA0 (by decide))) rfl ?_
  refine w_t (np := 3) (l2 := [some (eR a0), some (eI (a1)), some (eI (a2)), some (eI (a3)), some (eI (a4)), none, none, none, none]) (s2 := [eI (a1), eR a0, eR a0]) rfl rfl rfl ?_
  refine w_cw (np := 6) (as := [eI (a1)]) (l2 := [some (eR a0), some (eI (a1))]) (rest := [eR a0]) rfl rfl rfl (Nat.ble_eq.mp rfl) rfl rfl rfl (hI.kd gA0 (by decide) (n := 69) rfl) rfl ?_
  refine w_t (np := 1) (l2 := [some (eR a0), some (eI (a1))]) (s2 := [eI (a1)]) rfl rfl rfl ?_
  refine w_t (np := 2) (l2 := [some (eR a0), some (eI (a1))]) (s2 := [eI (0), eI (a1)]) rfl rfl rfl ?_
  refine w_t (np := 3) (l2 := [some (eR a0), some (eI (a1))]) (s2 := [eR a0, eI (0), eI (a1)]) rfl (s_an rfl (pos_g hI gA0 (by decide))) rfl ?_
  refine j_gi (np := 6) rfl rfl rfl hI gA0 (by decide) (n := 69) rfl rfl (lo := 0) (hi := 890) rfl ?_
  intro v1 e2 b3
  refine w_t (np := 7) (l2 := [some (eR a0), some (eI (a1))]) (s2 := [eI (1), eI (v1), eI (0), eI (a1)]) rfl rfl rfl ?_
  obtain ⟨v4, e5⟩ : ∃ zz : Int, zz = (v1) - (1) := ⟨_, rfl⟩
  have b6 : -1 ≤ v4 ∧ v4 ≤ 889 := by omega
  refine w_t (np := 8) (l2 := [some (eR a0), some (eI (a1))]) (s2 := [eI (v4), eI (0), eI (a1)]) rfl (b_isub (by rw [← e5]; exact ev_w_in (by omega) (by omega))) rfl ?_
  refine w_cu (np := 11) (as := [eI (a1), eI (0), eI (v4)]) (l2 := [some (eI (a1)), some (eI (0)), some (eI (v4))]) (rest := []) rfl rfl rfl (Nat.ble_eq.mp rfl) rfl rfl rfl rfl ?_
  refine w_t (np := 1) (l2 := [some (eI (a1)), some (eI (0)), some (eI (v4))]) (s2 := [eI (a1)]) rfl rfl rfl ?_
  refine w_t (np := 2) (l2 := [some (eI (a1)), some (eI (0)), some (eI (v4))]) (s2 := [eI (0), eI (a1)]) rfl rfl rfl ?_
  refine b_clt (t1 := 14) (t2 := 5) rfl rfl rfl (ev_w_in (by omega) (by omega)) rfl (fun g7 => ?_) (fun g7 => ?_)
  · have b8 : -2147483648 ≤ a1 ∧ a1 ≤ -1 := by omega
    refine w_t (np := 15) (l2 := [some (eI (a1)), some (eI (0)), some (eI (v4))]) (s2 := [eI (0)]) rfl rfl rfl ?_
    refine b_rz rfl rfl (Or.inl rfl) ?_
    show ex_q (dt_fg L ρ) rc (d + 3, (243, 11, [some (eR a0), some (eI (a1))], [eI (0)]), (274, 6, [some (eR a0), some (eI (a1)), some (eI (a2)), some (eI (a3)), some (eI (a4)), none, none, none, none], [eR a0]) :: f :: F, μ)
    refine b_rz rfl rfl (Or.inl rfl) ?_
    show ex_q (dt_fg L ρ) rc (d + 4, (274, 6, [some (eR a0), some (eI (a1)), some (eI (a2)), some (eI (a3)), some (eI (a4)), none, none, none, none], [eI (0), eR a0]), f :: F, μ)
    refine b_ieq (t1 := 38) (t2 := 9) rfl rfl rfl rfl (fun g8 => ?_) (fun g8 => absurd g8 (by decide))
    refine w_t (np := 39) (l2 := [some (eR a0), some (eI (a1)), some (eI (a2)), some (eI (a3)), some (eI (a4)), none, none, none, none]) (s2 := [eI (2), eR a0]) rfl rfl rfl ?_
    refine w_cw (np := 42) (as := [eI (2)]) (l2 := [some (eR a0), some (eI (2))]) (rest := []) rfl rfl rfl (Nat.ble_eq.mp rfl) rfl rfl rfl (hI.kd gA0 (by decide) (n := 69) rfl) rfl ?_
    refine w_t (np := 1) (l2 := [some (eR a0), some (eI (2))]) (s2 := [eR a0]) rfl (s_an rfl (pos_g hI gA0 (by decide))) rfl ?_
    refine w_t (np := 2) (l2 := [some (eR a0), some (eI (2))]) (s2 := [eI (0), eR a0]) rfl rfl rfl ?_
    refine j_pf (np := 5) (w := 0) rfl rfl hI gA0 (by decide) (n := 69) rfl rfl (hO_i (lo := -2147483648) (hi := 2147483647) rfl (by decide)) ?_
    intro m9 I10 W11
    have F12 : Fr l_274 0 0 g μ m9 := F0.w W11 gA0 rfl
    refine w_t (np := 6) (l2 := [some (eR a0), some (eI (2))]) (s2 := [eR a0]) rfl (s_an rfl (pos_g I10 gA0 (by decide))) rfl ?_
    refine w_t (np := 7) (l2 := [some (eR a0), some (eI (2))]) (s2 := [eI (2), eR a0]) rfl rfl rfl ?_
    refine j_pf (np := 10) (w := 2) rfl rfl I10 gA0 (by decide) (n := 69) rfl rfl (hO_i (lo := -2147483648) (hi := 2147483647) rfl (by decide)) ?_
    intro m13 I14 W15
    have F16 : Fr l_274 0 0 g μ m13 := F12.w W15 gA0 rfl
    refine w_t (np := 11) (l2 := [some (eR a0), some (eI (2))]) (s2 := [eI (2)]) rfl rfl rfl ?_
    refine b_ine (t1 := 18) (t2 := 14) rfl rfl rfl rfl (fun g17 => ?_) (fun g17 => absurd g17 (by decide))
    refine w_t (np := 19) (l2 := [some (eR a0), some (eI (2))]) (s2 := [eI (0)]) rfl rfl rfl ?_
    refine b_rz rfl rfl (Or.inl rfl) ?_
    show ex_q (dt_fg L ρ) rc (d + 4, (274, 42, [some (eR a0), some (eI (a1)), some (eI (a2)), some (eI (a3)), some (eI (a4)), none, none, none, none], [eI (0)]), f :: F, m13)
    refine b_ine (t1 := 47) (t2 := 45) rfl rfl rfl rfl (fun g18 => absurd g18 (by decide)) (fun g18 => ?_)
    refine w_t (np := 46) (l2 := [some (eR a0), some (eI (a1)), some (eI (a2)), some (eI (a3)), some (eI (a4)), none, none, none, none]) (s2 := [eI (-1)]) rfl rfl rfl ?_
    exact b_ri rfl rfl (K m13 (-1) I14 F16 (by decide))
  · have b8 : 0 ≤ a1 ∧ a1 ≤ 2147483647 := by omega
    refine w_t (np := 6) (l2 := [some (eI (a1)), some (eI (0)), some (eI (v4))]) (s2 := [eI (a1)]) rfl rfl rfl ?_
    refine w_t (np := 7) (l2 := [some (eI (a1)), some (eI (0)), some (eI (v4))]) (s2 := [eI (v4), eI (a1)]) rfl rfl rfl ?_
    refine b_cgt (t1 := 14) (t2 := 10) rfl rfl rfl (ev_w_in (by omega) (by omega)) (ev_w_in (by omega) (by omega)) (fun g8 => ?_) (fun g8 => ?_)
    · refine w_t (np := 15) (l2 := [some (eI (a1)), some (eI (0)), some (eI (v4))]) (s2 := [eI (0)]) rfl rfl rfl ?_
      refine b_rz rfl rfl (Or.inl rfl) ?_
      show ex_q (dt_fg L ρ) rc (d + 3, (243, 11, [some (eR a0), some (eI (a1))], [eI (0)]), (274, 6, [some (eR a0), some (eI (a1)), some (eI (a2)), some (eI (a3)), some (eI (a4)), none, none, none, none], [eR a0]) :: f :: F, μ)
      refine b_rz rfl rfl (Or.inl rfl) ?_
      show ex_q (dt_fg L ρ) rc (d + 4, (274, 6, [some (eR a0), some (eI (a1)), some (eI (a2)), some (eI (a3)), some (eI (a4)), none, none, none, none], [eI (0), eR a0]), f :: F, μ)
      refine b_ieq (t1 := 38) (t2 := 9) rfl rfl rfl rfl (fun g9 => ?_) (fun g9 => absurd g9 (by decide))
      refine w_t (np := 39) (l2 := [some (eR a0), some (eI (a1)), some (eI (a2)), some (eI (a3)), some (eI (a4)), none, none, none, none]) (s2 := [eI (2), eR a0]) rfl rfl rfl ?_
      refine w_cw (np := 42) (as := [eI (2)]) (l2 := [some (eR a0), some (eI (2))]) (rest := []) rfl rfl rfl (Nat.ble_eq.mp rfl) rfl rfl rfl (hI.kd gA0 (by decide) (n := 69) rfl) rfl ?_
      refine w_t (np := 1) (l2 := [some (eR a0), some (eI (2))]) (s2 := [eR a0]) rfl (s_an rfl (pos_g hI gA0 (by decide))) rfl ?_
      refine w_t (np := 2) (l2 := [some (eR a0), some (eI (2))]) (s2 := [eI (0), eR a0]) rfl rfl rfl ?_
      refine j_pf (np := 5) (w := 0) rfl rfl hI gA0 (by decide) (n := 69) rfl rfl (hO_i (lo := -2147483648) (hi := 2147483647) rfl (by decide)) ?_
      intro m10 I11 W12
      have F13 : Fr l_274 0 0 g μ m10 := F0.w W12 gA0 rfl
      refine w_t (np := 6) (l2 := [some (eR a0), some (eI (2))]) (s2 := [eR a0]) rfl (s_an rfl (pos_g I11 gA0 (by decide))) rfl ?_
      refine w_t (np := 7) (l2 := [some (eR a0), some (eI (2))]) (s2 := [eI (2), eR a0]) rfl rfl rfl ?_
      refine j_pf (np := 10) (w := 2) rfl rfl I11 gA0 (by decide) (n := 69) rfl rfl (hO_i (lo := -2147483648) (hi := 2147483647) rfl (by decide)) ?_
      intro m14 I15 W16
      have F17 : Fr l_274 0 0 g μ m14 := F13.w W16 gA0 rfl
      refine w_t (np := 11) (l2 := [some (eR a0), some (eI (2))]) (s2 := [eI (2)]) rfl rfl rfl ?_
      refine b_ine (t1 := 18) (t2 := 14) rfl rfl rfl rfl (fun g18 => ?_) (fun g18 => absurd g18 (by decide))
      refine w_t (np := 19) (l2 := [some (eR a0), some (eI (2))]) (s2 := [eI (0)]) rfl rfl rfl ?_
      refine b_rz rfl rfl (Or.inl rfl) ?_
      show ex_q (dt_fg L ρ) rc (d + 4, (274, 42, [some (eR a0), some (eI (a1)), some (eI (a2)), some (eI (a3)), some (eI (a4)), none, none, none, none], [eI (0)]), f :: F, m14)
      refine b_ine (t1 := 47) (t2 := 45) rfl rfl rfl rfl (fun g19 => absurd g19 (by decide)) (fun g19 => ?_)
      refine w_t (np := 46) (l2 := [some (eR a0), some (eI (a1)), some (eI (a2)), some (eI (a3)), some (eI (a4)), none, none, none, none]) (s2 := [eI (-1)]) rfl rfl rfl ?_
      exact b_ri rfl rfl (K m14 (-1) I15 F17 (by decide))
    · have b9 : 0 ≤ a1 ∧ a1 ≤ 889 := by omega
      have b10 : 0 ≤ v4 ∧ v4 ≤ 889 := by omega
      refine w_t (np := 11) (l2 := [some (eI (a1)), some (eI (0)), some (eI (v4))]) (s2 := [eI (1)]) rfl rfl rfl ?_
      refine w_go (t1 := 15) rfl rfl ?_
      refine b_rz rfl rfl (Or.inr rfl) ?_
      show ex_q (dt_fg L ρ) rc (d + 3, (243, 11, [some (eR a0), some (eI (a1))], [eI (1)]), (274, 6, [some (eR a0), some (eI (a1)), some (eI (a2)), some (eI (a3)), some (eI (a4)), none, none, none, none], [eR a0]) :: f :: F, μ)
      refine b_rz rfl rfl (Or.inr rfl) ?_
      show ex_q (dt_fg L ρ) rc (d + 4, (274, 6, [some (eR a0), some (eI (a1)), some (eI (a2)), some (eI (a3)), some (eI (a4)), none, none, none, none], [eI (1), eR a0]), f :: F, μ)
      refine b_ieq (t1 := 38) (t2 := 9) rfl rfl rfl rfl (fun g9 => absurd g9 (by decide)) (fun g9 => ?_)
      refine w_t (np := 10) (l2 := [some (eR a0), some (eI (a1)), some (eI (a2)), some (eI (a3)), some (eI (a4)), none, none, none, none]) (s2 := [eR a0, eR a0]) rfl (s_an rfl (pos_g hI gA0 (by decide))) rfl ?_
      refine w_t (np := 11) (l2 := [some (eR a0), some (eI (a1)), some (eI (a2)), some (eI (a3)), some (eI (a4)), none, none, none, none]) (s2 := [eI (a2), eR a0, eR a0]) rfl rfl rfl ?_
      refine w_cw (np := 14) (as := [eI (a2)]) (l2 := [some (eR a0), some (eI (a2))]) (rest := [eR a0]) rfl rfl rfl (Nat.ble_eq.mp rfl) rfl rfl rfl (hI.kd gA0 (by decide) (n := 69) rfl) rfl ?_
      refine w_t (np := 1) (l2 := [some (eR a0), some (eI (a2))]) (s2 := [eI (a2)]) rfl rfl rfl ?_
      refine w_t (np := 2) (l2 := [some (eR a0), some (eI (a2))]) (s2 := [eI (0), eI (a2)]) rfl rfl rfl ?_
      refine w_t (np := 3) (l2 := [some (eR a0), some (eI (a2))]) (s2 := [eR a0, eI (0), eI (a2)]) rfl (s_an rfl (pos_g hI gA0 (by decide))) rfl ?_
      refine w_gf (np := 6) (v := eI (v1)) rfl rfl (hI.kd gA0 (by decide) (n := 69) rfl) (by rw [e2]; rfl) ?_
      refine w_t (np := 7) (l2 := [some (eR a0), some (eI (a2))]) (s2 := [eI (1), eI (v1), eI (0), eI (a2)]) rfl rfl rfl ?_
      obtain ⟨v10, e11⟩ : ∃ zz : Int, zz = (v1) - (1) := ⟨_, rfl⟩
      have b12 : -1 ≤ v10 ∧ v10 ≤ 889 := by omega
      refine w_t (np := 8) (l2 := [some (eR a0), some (eI (a2))]) (s2 := [eI (v10), eI (0), eI (a2)]) rfl (b_isub (by rw [← e11]; exact ev_w_in (by omega) (by omega))) rfl ?_
      refine w_cu (np := 11) (as := [eI (a2), eI (0), eI (v10)]) (l2 := [some (eI (a2)), some (eI (0)), some (eI (v10))]) (rest := []) rfl rfl rfl (Nat.ble_eq.mp rfl) rfl rfl rfl rfl ?_
      refine w_t (np := 1) (l2 := [some (eI (a2)), some (eI (0)), some (eI (v10))]) (s2 := [eI (a2)]) rfl rfl rfl ?_
      refine w_t (np := 2) (l2 := [some (eI (a2)), some (eI (0)), some (eI (v10))]) (s2 := [eI (0), eI (a2)]) rfl rfl rfl ?_
      refine b_clt (t1 := 14) (t2 := 5) rfl rfl rfl (ev_w_in (by omega) (by omega)) rfl (fun g13 => ?_) (fun g13 => ?_)
      · have b14 : -2147483648 ≤ a2 ∧ a2 ≤ -1 := by omega
        refine w_t (np := 15) (l2 := [some (eI (a2)), some (eI (0)), some (eI (v10))]) (s2 := [eI (0)]) rfl rfl rfl ?_
        refine b_rz rfl rfl (Or.inl rfl) ?_
        show ex_q (dt_fg L ρ) rc (d + 3, (243, 11, [some (eR a0), some (eI (a2))], [eI (0)]), (274, 14, [some (eR a0), some (eI (a1)), some (eI (a2)), some (eI (a3)), some (eI (a4)), none, none, none, none], [eR a0]) :: f :: F, μ)
        refine b_rz rfl rfl (Or.inl rfl) ?_
        show ex_q (dt_fg L ρ) rc (d + 4, (274, 14, [some (eR a0), some (eI (a1)), some (eI (a2)), some (eI (a3)), some (eI (a4)), none, none, none, none], [eI (0), eR a0]), f :: F, μ)
        refine b_ieq (t1 := 38) (t2 := 17) rfl rfl rfl rfl (fun g14 => ?_) (fun g14 => absurd g14 (by decide))
        refine w_t (np := 39) (l2 := [some (eR a0), some (eI (a1)), some (eI (a2)), some (eI (a3)), some (eI (a4)), none, none, none, none]) (s2 := [eI (2), eR a0]) rfl rfl rfl ?_
        refine w_cw (np := 42) (as := [eI (2)]) (l2 := [some (eR a0), some (eI (2))]) (rest := []) rfl rfl rfl (Nat.ble_eq.mp rfl) rfl rfl rfl (hI.kd gA0 (by decide) (n := 69) rfl) rfl ?_
        refine w_t (np := 1) (l2 := [some (eR a0), some (eI (2))]) (s2 := [eR a0]) rfl (s_an rfl (pos_g hI gA0 (by decide))) rfl ?_
        refine w_t (np := 2) (l2 := [some (eR a0), some (eI (2))]) (s2 := [eI (0), eR a0]) rfl rfl rfl ?_
        refine j_pf (np := 5) (w := 0) rfl rfl hI gA0 (by decide) (n := 69) rfl rfl (hO_i (lo := -2147483648) (hi := 2147483647) rfl (by decide)) ?_
        intro m15 I16 W17
        have F18 : Fr l_274 0 0 g μ m15 := F0.w W17 gA0 rfl
        refine w_t (np := 6) (l2 := [some (eR a0), some (eI (2))]) (s2 := [eR a0]) rfl (s_an rfl (pos_g I16 gA0 (by decide))) rfl ?_
        refine w_t (np := 7) (l2 := [some (eR a0), some (eI (2))]) (s2 := [eI (2), eR a0]) rfl rfl rfl ?_
        refine j_pf (np := 10) (w := 2) rfl rfl I16 gA0 (by decide) (n := 69) rfl rfl (hO_i (lo := -2147483648) (hi := 2147483647) rfl (by decide)) ?_
        intro m19 I20 W21
        have F22 : Fr l_274 0 0 g μ m19 := F18.w W21 gA0 rfl
        refine w_t (np := 11) (l2 := [some (eR a0), some (eI (2))]) (s2 := [eI (2)]) rfl rfl rfl ?_
        refine b_ine (t1 := 18) (t2 := 14) rfl rfl rfl rfl (fun g23 => ?_) (fun g23 => absurd g23 (by decide))
        refine w_t (np := 19) (l2 := [some (eR a0), some (eI (2))]) (s2 := [eI (0)]) rfl rfl rfl ?_
        refine b_rz rfl rfl (Or.inl rfl) ?_
        show ex_q (dt_fg L ρ) rc (d + 4, (274, 42, [some (eR a0), some (eI (a1)), some (eI (a2)), some (eI (a3)), some (eI (a4)), none, none, none, none], [eI (0)]), f :: F, m19)
        refine b_ine (t1 := 47) (t2 := 45) rfl rfl rfl rfl (fun g24 => absurd g24 (by decide)) (fun g24 => ?_)
        refine w_t (np := 46) (l2 := [some (eR a0), some (eI (a1)), some (eI (a2)), some (eI (a3)), some (eI (a4)), none, none, none, none]) (s2 := [eI (-1)]) rfl rfl rfl ?_
        exact b_ri rfl rfl (K m19 (-1) I20 F22 (by decide))
      · have b14 : 0 ≤ a2 ∧ a2 ≤ 2147483647 := by omega
        refine w_t (np := 6) (l2 := [some (eI (a2)), some (eI (0)), some (eI (v10))]) (s2 := [eI (a2)]) rfl rfl rfl ?_
        refine w_t (np := 7) (l2 := [some (eI (a2)), some (eI (0)), some (eI (v10))]) (s2 := [eI (v10), eI (a2)]) rfl rfl rfl ?_
        refine b_cgt (t1 := 14) (t2 := 10) rfl rfl rfl (ev_w_in (by omega) (by omega)) (ev_w_in (by omega) (by omega)) (fun g14 => ?_) (fun g14 => ?_)
        · refine w_t (np := 15) (l2 := [some (eI (a2)), some (eI (0)), some (eI (v10))]) (s2 := [eI (0)]) rfl rfl rfl ?_
          refine b_rz rfl rfl (Or.inl rfl) ?_
          show ex_q (dt_fg L ρ) rc (d + 3, (243, 11, [some (eR a0), some (eI (a2))], [eI (0)]), (274, 14, [some (eR a0), some (eI (a1)), some (eI (a2)), some (eI (a3)), some (eI (a4)), none, none, none, none], [eR a0]) :: f :: F, μ)
          refine b_rz rfl rfl (Or.inl rfl) ?_
          show ex_q (dt_fg L ρ) rc (d + 4, (274, 14, [some (eR a0), some (eI (a1)), some (eI (a2)), some (eI (a3)), some (eI (a4)), none, none, none, none], [eI (0), eR a0]), f :: F, μ)
          refine b_ieq (t1 := 38) (t2 := 17) rfl rfl rfl rfl (fun g15 => ?_) (fun g15 => absurd g15 (by decide))
          refine w_t (np := 39) (l2 := [some (eR a0), some (eI (a1)), some (eI (a2)), some (eI (a3)), some (eI (a4)), none, none, none, none]) (s2 := [eI (2), eR a0]) rfl rfl rfl ?_
          refine w_cw (np := 42) (as := [eI (2)]) (l2 := [some (eR a0), some (eI (2))]) (rest := []) rfl rfl rfl (Nat.ble_eq.mp rfl) rfl rfl rfl (hI.kd gA0 (by decide) (n := 69) rfl) rfl ?_
          refine w_t (np := 1) (l2 := [some (eR a0), some (eI (2))]) (s2 := [eR a0]) rfl (s_an rfl (pos_g hI gA0 (by decide))) rfl ?_
          refine w_t (np := 2) (l2 := [some (eR a0), some (eI (2))]) (s2 := [eI (0), eR a0]) rfl rfl rfl ?_
          refine j_pf (np := 5) (w := 0) rfl rfl hI gA0 (by decide) (n := 69) rfl rfl (hO_i (lo := -2147483648) (hi := 2147483647) rfl (by decide)) ?_
          intro m16 I17 W18
          have F19 : Fr l_274 0 0 g μ m16 := F0.w W18 gA0 rfl
          refine w_t (np := 6) (l2 := [some (eR a0), some (eI (2))]) (s2 := [eR a0]) rfl (s_an rfl (pos_g I17 gA0 (by decide))) rfl ?_
          refine w_t (np := 7) (l2 := [some (eR a0), some (eI (2))]) (s2 := [eI (2), eR a0]) rfl rfl rfl ?_
          refine j_pf (np := 10) (w := 2) rfl rfl I17 gA0 (by decide) (n := 69) rfl rfl (hO_i (lo := -2147483648) (hi := 2147483647) rfl (by decide)) ?_
          intro m20 I21 W22
          have F23 : Fr l_274 0 0 g μ m20 := F19.w W22 gA0 rfl
          refine w_t (np := 11) (l2 := [some (eR a0), some (eI (2))]) (s2 := [eI (2)]) rfl rfl rfl ?_
          refine b_ine (t1 := 18) (t2 := 14) rfl rfl rfl rfl (fun g24 => ?_) (fun g24 => absurd g24 (by decide))
          refine w_t (np := 19) (l2 := [some (eR a0), some (eI (2))]) (s2 := [eI (0)]) rfl rfl rfl ?_
          refine b_rz rfl rfl (Or.inl rfl) ?_
          show ex_q (dt_fg L ρ) rc (d + 4, (274, 42, [some (eR a0), some (eI (a1)), some (eI (a2)), some (eI (a3)), some (eI (a4)), none, none, none, none], [eI (0)]), f :: F, m20)
          refine b_ine (t1 := 47) (t2 := 45) rfl rfl rfl rfl (fun g25 => absurd g25 (by decide)) (fun g25 => ?_)
          refine w_t (np := 46) (l2 := [some (eR a0), some (eI (a1)), some (eI (a2)), some (eI (a3)), some (eI (a4)), none, none, none, none]) (s2 := [eI (-1)]) rfl rfl rfl ?_
          exact b_ri rfl rfl (K m20 (-1) I21 F23 (by decide))
        · have b15 : 0 ≤ a2 ∧ a2 ≤ 889 := by omega
          have b16 : 0 ≤ v10 ∧ v10 ≤ 889 := by omega
          refine w_t (np := 11) (l2 := [some (eI (a2)), some (eI (0)), some (eI (v10))]) (s2 := [eI (1)]) rfl rfl rfl ?_
          refine w_go (t1 := 15) rfl rfl ?_
          refine b_rz rfl rfl (Or.inr rfl) ?_
          show ex_q (dt_fg L ρ) rc (d + 3, (243, 11, [some (eR a0), some (eI (a2))], [eI (1)]), (274, 14, [some (eR a0), some (eI (a1)), some (eI (a2)), some (eI (a3)), some (eI (a4)), none, none, none, none], [eR a0]) :: f :: F, μ)
          refine b_rz rfl rfl (Or.inr rfl) ?_
          show ex_q (dt_fg L ρ) rc (d + 4, (274, 14, [some (eR a0), some (eI (a1)), some (eI (a2)), some (eI (a3)), some (eI (a4)), none, none, none, none], [eI (1), eR a0]), f :: F, μ)
          refine b_ieq (t1 := 38) (t2 := 17) rfl rfl rfl rfl (fun g15 => absurd g15 (by decide)) (fun g15 => ?_)
          refine w_t (np := 18) (l2 := [some (eR a0), some (eI (a1)), some (eI (a2)), some (eI (a3)), some (eI (a4)), none, none, none, none]) (s2 := [eR a0, eR a0]) rfl (s_an rfl (pos_g hI gA0 (by decide))) rfl ?_
          refine w_t (np := 19) (l2 := [some (eR a0), some (eI (a1)), some (eI (a2)), some (eI (a3)), some (eI (a4)), none, none, none, none]) (s2 := [eI (a3), eR a0, eR a0]) rfl rfl rfl ?_
          refine w_cw (np := 22) (as := [eI (a3)]) (l2 := [some (eR a0), some (eI (a3))]) (rest := [eR a0]) rfl rfl rfl (Nat.ble_eq.mp rfl) rfl rfl rfl (hI.kd gA0 (by decide) (n := 69) rfl) rfl ?_
          refine w_t (np := 1) (l2 := [some (eR a0), some (eI (a3))]) (s2 := [eI (a3)]) rfl rfl rfl ?_
          refine w_t (np := 2) (l2 := [some (eR a0), some (eI (a3))]) (s2 := [eI (0), eI (a3)]) rfl rfl rfl ?_
          refine w_t (np := 3) (l2 := [some (eR a0), some (eI (a3))]) (s2 := [eR a0, eI (0), eI (a3)]) rfl (s_an rfl (pos_g hI gA0 (by decide))) rfl ?_
          refine w_gf (np := 6) (v := eI (v1)) rfl rfl (hI.kd gA0 (by decide) (n := 69) rfl) (by rw [e2]; rfl) ?_
          refine w_t (np := 7) (l2 := [some (eR a0), some (eI (a3))]) (s2 := [eI (1), eI (v1), eI (0), eI (a3)]) rfl rfl rfl ?_
          obtain ⟨v16, e17⟩ : ∃ zz : Int, zz = (v1) - (1) := ⟨_, rfl⟩
          have b18 : -1 ≤ v16 ∧ v16 ≤ 889 := by omega
          refine w_t (np := 8) (l2 := [some (eR a0), some (eI (a3))]) (s2 := [eI (v16), eI (0), eI (a3)]) rfl (b_isub (by rw [← e17]; exact ev_w_in (by omega) (by omega))) rfl ?_
          refine w_cu (np := 11) (as := [eI (a3), eI (0), eI (v16)]) (l2 := [some (eI (a3)), some (eI (0)), some (eI (v16))]) (rest := []) rfl rfl rfl (Nat.ble_eq.mp rfl) rfl rfl rfl rfl ?_
          refine w_t (np := 1) (l2 := [some (eI (a3)), some (eI (0)), some (eI (v16))]) (s2 := [eI (a3)]) rfl rfl rfl ?_
          refine w_t (np := 2) (l2 := [some (eI (a3)), some (eI (0)), some (eI (v16))]) (s2 := [eI (0), eI (a3)]) rfl rfl rfl ?_
          refine b_clt (t1 := 14) (t2 := 5) rfl rfl rfl (ev_w_in (by omega) (by omega)) rfl (fun g19 => ?_) (fun g19 => ?_)
          · have b20 : -2147483648 ≤ a3 ∧ a3 ≤ -1 := by omega
            refine w_t (np := 15) (l2 := [some (eI (a3)), some (eI (0)), some (eI (v16))]) (s2 := [eI (0)]) rfl rfl rfl ?_
            refine b_rz rfl rfl (Or.inl rfl) ?_
            show ex_q (dt_fg L ρ) rc (d + 3, (243, 11, [some (eR a0), some (eI (a3))], [eI (0)]), (274, 22, [some (eR a0), some (eI (a1)), some (eI (a2)), some (eI (a3)), some (eI (a4)), none, none, none, none], [eR a0]) :: f :: F, μ)
            refine b_rz rfl rfl (Or.inl rfl) ?_
            show ex_q (dt_fg L ρ) rc (d + 4, (274, 22, [some (eR a0), some (eI (a1)), some (eI (a2)), some (eI (a3)), some (eI (a4)), none, none, none, none], [eI (0), eR a0]), f :: F, μ)
            refine b_ieq (t1 := 38) (t2 := 25) rfl rfl rfl rfl (fun g20 => ?_) (fun g20 => absurd g20 (by decide))
            refine w_t (np := 39) (l2 := [some (eR a0), some (eI (a1)), some (eI (a2)), some (eI (a3)), some (eI (a4)), none, none, none, none]) (s2 := [eI (2), eR a0]) rfl rfl rfl ?_
            refine w_cw (np := 42) (as := [eI (2)]) (l2 := [some (eR a0), some (eI (2))]) (rest := []) rfl rfl rfl (Nat.ble_eq.mp rfl) rfl rfl rfl (hI.kd gA0 (by decide) (n := 69) rfl) rfl ?_
            refine w_t (np := 1) (l2 := [some (eR a0), some (eI (2))]) (s2 := [eR a0]) rfl (s_an rfl (pos_g hI gA0 (by decide))) rfl ?_
            refine w_t (np := 2) (l2 := [some (eR a0), some (eI (2))]) (s2 := [eI (0), eR a0]) rfl rfl rfl ?_
            refine j_pf (np := 5) (w := 0) rfl rfl hI gA0 (by decide) (n := 69) rfl rfl (hO_i (lo := -2147483648) (hi := 2147483647) rfl (by decide)) ?_
            intro m21 I22 W23
            have F24 : Fr l_274 0 0 g μ m21 := F0.w W23 gA0 rfl
            refine w_t (np := 6) (l2 := [some (eR a0), some (eI (2))]) (s2 := [eR a0]) rfl (s_an rfl (pos_g I22 gA0 (by decide))) rfl ?_
            refine w_t (np := 7) (l2 := [some (eR a0), some (eI (2))]) (s2 := [eI (2), eR a0]) rfl rfl rfl ?_
            refine j_pf (np := 10) (w := 2) rfl rfl I22 gA0 (by decide) (n := 69) rfl rfl (hO_i (lo := -2147483648) (hi := 2147483647) rfl (by decide)) ?_
            intro m25 I26 W27
            have F28 : Fr l_274 0 0 g μ m25 := F24.w W27 gA0 rfl
            refine w_t (np := 11) (l2 := [some (eR a0), some (eI (2))]) (s2 := [eI (2)]) rfl rfl rfl ?_
            refine b_ine (t1 := 18) (t2 := 14) rfl rfl rfl rfl (fun g29 => ?_) (fun g29 => absurd g29 (by decide))
            refine w_t (np := 19) (l2 := [some (eR a0), some (eI (2))]) (s2 := [eI (0)]) rfl rfl rfl ?_
            refine b_rz rfl rfl (Or.inl rfl) ?_
            show ex_q (dt_fg L ρ) rc (d + 4, (274, 42, [some (eR a0), some (eI (a1)), some (eI (a2)), some (eI (a3)), some (eI (a4)), none, none, none, none], [eI (0)]), f :: F, m25)
            refine b_ine (t1 := 47) (t2 := 45) rfl rfl rfl rfl (fun g30 => absurd g30 (by decide)) (fun g30 => ?_)
            refine w_t (np := 46) (l2 := [some (eR a0), some (eI (a1)), some (eI (a2)), some (eI (a3)), some (eI (a4)), none, none, none, none]) (s2 := [eI (-1)]) rfl rfl rfl ?_
            exact b_ri rfl rfl (K m25 (-1) I26 F28 (by decide))
          · have b20 : 0 ≤ a3 ∧ a3 ≤ 2147483647 := by omega
            refine w_t (np := 6) (l2 := [some (eI (a3)), some (eI (0)), some (eI (v16))]) (s2 := [eI (a3)]) rfl rfl rfl ?_
            refine w_t (np := 7) (l2 := [some (eI (a3)), some (eI (0)), some (eI (v16))]) (s2 := [eI (v16), eI (a3)]) rfl rfl rfl ?_
            refine b_cgt (t1 := 14) (t2 := 10) rfl rfl rfl (ev_w_in (by omega) (by omega)) (ev_w_in (by omega) (by omega)) (fun g20 => ?_) (fun g20 => ?_)
            · refine w_t (np := 15) (l2 := [some (eI (a3)), some (eI (0)), some (eI (v16))]) (s2 := [eI (0)]) rfl rfl rfl ?_
              refine b_rz rfl rfl (Or.inl rfl) ?_
              show ex_q (dt_fg L ρ) rc (d + 3, (243, 11, [some (eR a0), some (eI (a3))], [eI (0)]), (274, 22, [some (eR a0), some (eI (a1)), some (eI (a2)), some (eI (a3)), some (eI (a4)), none, none, none, none], [eR a0]) :: f :: F, μ)
              refine b_rz rfl rfl (Or.inl rfl) ?_
              show ex_q (dt_fg L ρ) rc (d + 4, (274, 22, [some (eR a0), some (eI (a1)), some (eI (a2)), some (eI (a3)), some (eI (a4)), none, none, none, none], [eI (0), eR a0]), f :: F, μ)
              refine b_ieq (t1 := 38) (t2 := 25) rfl rfl rfl rfl (fun g21 => ?_) (fun g21 => absurd g21 (by decide))
              refine w_t (np := 39) (l2 := [some (eR a0), some (eI (a1)), some (eI (a2)), some (eI (a3)), some (eI (a4)), none, none, none, none]) (s2 := [eI (2), eR a0]) rfl rfl rfl ?_
              refine w_cw (np := 42) (as := [eI (2)]) (l2 := [some (eR a0), some (eI (2))]) (rest := []) rfl rfl rfl (Nat.ble_eq.mp rfl) rfl rfl rfl (hI.kd gA0 (by decide) (n := 69) rfl) rfl ?_
              refine w_t (np := 1) (l2 := [some (eR a0), some (eI (2))]) (s2 := [eR a0]) rfl (s_an rfl (pos_g hI gA0 (by decide))) rfl ?_
              refine w_t (np := 2) (l2 := [some (eR a0), some (eI (2))]) (s2 := [eI (0), eR a0]) rfl rfl rfl ?_
              refine j_pf (np := 5) (w := 0) rfl rfl hI gA0 (by decide) (n := 69) rfl rfl (hO_i (lo := -2147483648) (hi := 2147483647) rfl (by decide)) ?_
              intro m22 I23 W24
              have F25 : Fr l_274 0 0 g μ m22 := F0.w W24 gA0 rfl
              refine w_t (np := 6) (l2 := [some (eR a0), some (eI (2))]) (s2 := [eR a0]) rfl (s_an rfl (pos_g I23 gA0 (by decide))) rfl ?_
              refine w_t (np := 7) (l2 := [some (eR a0), some (eI (2))]) (s2 := [eI (2), eR a0]) rfl rfl rfl ?_
              refine j_pf (np := 10) (w := 2) rfl rfl I23 gA0 (by decide) (n := 69) rfl rfl (hO_i (lo := -2147483648) (hi := 2147483647) rfl (by decide)) ?_
              intro m26 I27 W28
              have F29 : Fr l_274 0 0 g μ m26 := F25.w W28 gA0 rfl
              refine w_t (np := 11) (l2 := [some (eR a0), some (eI (2))]) (s2 := [eI (2)]) rfl rfl rfl ?_
              refine b_ine (t1 := 18) (t2 := 14) rfl rfl rfl rfl (fun g30 => ?_) (fun g30 => absurd g30 (by decide))
              refine w_t (np := 19) (l2 := [some (eR a0), some (eI (2))]) (s2 := [eI (0)]) rfl rfl rfl ?_
              refine b_rz rfl rfl (Or.inl rfl) ?_
              show ex_q (dt_fg L ρ) rc (d + 4, (274, 42, [some (eR a0), some (eI (a1)), some (eI (a2)), some (eI (a3)), some (eI (a4)), none, none, none, none], [eI (0)]), f :: F, m26)
              refine b_ine (t1 := 47) (t2 := 45) rfl rfl rfl rfl (fun g31 => absurd g31 (by decide)) (fun g31 => ?_)
              refine w_t (np := 46) (l2 := [some (eR a0), some (eI (a1)), some (eI (a2)), some (eI (a3)), some (eI (a4)), none, none, none, none]) (s2 := [eI (-1)]) rfl rfl rfl ?_
              exact b_ri rfl rfl (K m26 (-1) I27 F29 (by decide))
            · have b21 : 0 ≤ a3 ∧ a3 ≤ 889 := by omega
              have b22 : 0 ≤ v16 ∧ v16 ≤ 889 := by omega
              refine w_t (np := 11) (l2 := [some (eI (a3)), some (eI (0)), some (eI (v16))]) (s2 := [eI (1)]) rfl rfl rfl ?_
              refine w_go (t1 := 15) rfl rfl ?_
              refine b_rz rfl rfl (Or.inr rfl) ?_
              show ex_q (dt_fg L ρ) rc (d + 3, (243, 11, [some (eR a0), some (eI (a3))], [eI (1)]), (274, 22, [some (eR a0), some (eI (a1)), some (eI (a2)), some (eI (a3)), some (eI (a4)), none, none, none, none], [eR a0]) :: f :: F, μ)
              refine b_rz rfl rfl (Or.inr rfl) ?_
              show ex_q (dt_fg L ρ) rc (d + 4, (274, 22, [some (eR a0), some (eI (a1)), some (eI (a2)), some (eI (a3)), some (eI (a4)), none, none, none, none], [eI (1), eR a0]), f :: F, μ)
              refine b_ieq (t1 := 38) (t2 := 25) rfl rfl rfl rfl (fun g21 => absurd g21 (by decide)) (fun g21 => ?_)
              refine w_t (np := 26) (l2 := [some (eR a0), some (eI (a1)), some (eI (a2)), some (eI (a3)), some (eI (a4)), none, none, none, none]) (s2 := [eR a0, eR a0]) rfl (s_an rfl (pos_g hI gA0 (by decide))) rfl ?_
              refine w_t (np := 28) (l2 := [some (eR a0), some (eI (a1)), some (eI (a2)), some (eI (a3)), some (eI (a4)), none, none, none, none]) (s2 := [eI (a4), eR a0, eR a0]) rfl rfl rfl ?_
              refine w_cw (np := 31) (as := [eI (a4)]) (l2 := [some (eR a0), some (eI (a4))]) (rest := [eR a0]) rfl rfl rfl (Nat.ble_eq.mp rfl) rfl rfl rfl (hI.kd gA0 (by decide) (n := 69) rfl) rfl ?_
              refine w_t (np := 1) (l2 := [some (eR a0), some (eI (a4))]) (s2 := [eI (a4)]) rfl rfl rfl ?_
              refine w_t (np := 2) (l2 := [some (eR a0), some (eI (a4))]) (s2 := [eI (0), eI (a4)]) rfl rfl rfl ?_
              refine w_t (np := 3) (l2 := [some (eR a0), some (eI (a4))]) (s2 := [eR a0, eI (0), eI (a4)]) rfl (s_an rfl (pos_g hI gA0 (by decide))) rfl ?_
              refine w_gf (np := 6) (v := eI (v1)) rfl rfl (hI.kd gA0 (by decide) (n := 69) rfl) (by rw [e2]; rfl) ?_
              refine w_t (np := 7) (l2 := [some (eR a0), some (eI (a4))]) (s2 := [eI (1), eI (v1), eI (0), eI (a4)]) rfl rfl rfl ?_
              obtain ⟨v22, e23⟩ : ∃ zz : Int, zz = (v1) - (1) := ⟨_, rfl⟩
              have b24 : -1 ≤ v22 ∧ v22 ≤ 889 := by omega
              refine w_t (np := 8) (l2 := [some (eR a0), some (eI (a4))]) (s2 := [eI (v22), eI (0), eI (a4)]) rfl (b_isub (by rw [← e23]; exact ev_w_in (by omega) (by omega))) rfl ?_
              refine w_cu (np := 11) (as := [eI (a4), eI (0), eI (v22)]) (l2 := [some (eI (a4)), some (eI (0)), some (eI (v22))]) (rest := []) rfl rfl rfl (Nat.ble_eq.mp rfl) rfl rfl rfl rfl ?_
              refine w_t (np := 1) (l2 := [some (eI (a4)), some (eI (0)), some (eI (v22))]) (s2 := [eI (a4)]) rfl rfl rfl ?_
              refine w_t (np := 2) (l2 := [some (eI (a4)), some (eI (0)), some (eI (v22))]) (s2 := [eI (0), eI (a4)]) rfl rfl rfl ?_
              refine b_clt (t1 := 14) (t2 := 5) rfl rfl rfl (ev_w_in (by omega) (by omega)) rfl (fun g25 => ?_) (fun g25 => ?_)
              · have b26 : -2147483648 ≤ a4 ∧ a4 ≤ -1 := by omega
                refine w_t (np := 15) (l2 := [some (eI (a4)), some (eI (0)), some (eI (v22))]) (s2 := [eI (0)]) rfl rfl rfl ?_
                refine b_rz rfl rfl (Or.inl rfl) ?_
                show ex_q (dt_fg L ρ) rc (d + 3, (243, 11, [some (eR a0), some (eI (a4))], [eI (0)]), (274, 31, [some (eR a0), some (eI (a1)), some (eI (a2)), some (eI (a3)), some (eI (a4)), none, none, none, none], [eR a0]) :: f :: F, μ)
                refine b_rz rfl rfl (Or.inl rfl) ?_
                show ex_q (dt_fg L ρ) rc (d + 4, (274, 31, [some (eR a0), some (eI (a1)), some (eI (a2)), some (eI (a3)), some (eI (a4)), none, none, none, none], [eI (0), eR a0]), f :: F, μ)
                refine b_ieq (t1 := 38) (t2 := 34) rfl rfl rfl rfl (fun g26 => ?_) (fun g26 => absurd g26 (by decide))
                refine w_t (np := 39) (l2 := [some (eR a0), some (eI (a1)), some (eI (a2)), some (eI (a3)), some (eI (a4)), none, none, none, none]) (s2 := [eI (2), eR a0]) rfl rfl rfl ?_
                refine w_cw (np := 42) (as := [eI (2)]) (l2 := [some (eR a0), some (eI (2))]) (rest := []) rfl rfl rfl (Nat.ble_eq.mp rfl) rfl rfl rfl (hI.kd gA0 (by decide) (n := 69) rfl) rfl ?_
                refine w_t (np := 1) (l2 := [some (eR a0), some (eI (2))]) (s2 := [eR a0]) rfl (s_an rfl (pos_g hI gA0 (by decide))) rfl ?_
                refine w_t (np := 2) (l2 := [some (eR a0), some (eI (2))]) (s2 := [eI (0), eR a0]) rfl rfl rfl ?_
                refine j_pf (np := 5) (w := 0) rfl rfl hI gA0 (by decide) (n := 69) rfl rfl (hO_i (lo := -2147483648) (hi := 2147483647) rfl (by decide)) ?_
                intro m27 I28 W29
                have F30 : Fr l_274 0 0 g μ m27 := F0.w W29 gA0 rfl
                refine w_t (np := 6) (l2 := [some (eR a0), some (eI (2))]) (s2 := [eR a0]) rfl (s_an rfl (pos_g I28 gA0 (by decide))) rfl ?_
                refine w_t (np := 7) (l2 := [some (eR a0), some (eI (2))]) (s2 := [eI (2), eR a0]) rfl rfl rfl ?_
                refine j_pf (np := 10) (w := 2) rfl rfl I28 gA0 (by decide) (n := 69) rfl rfl (hO_i (lo := -2147483648) (hi := 2147483647) rfl (by decide)) ?_
                intro m31 I32 W33
                have F34 : Fr l_274 0 0 g μ m31 := F30.w W33 gA0 rfl
                refine w_t (np := 11) (l2 := [some (eR a0), some (eI (2))]) (s2 := [eI (2)]) rfl rfl rfl ?_
                refine b_ine (t1 := 18) (t2 := 14) rfl rfl rfl rfl (fun g35 => ?_) (fun g35 => absurd g35 (by decide))
                refine w_t (np := 19) (l2 := [some (eR a0), some (eI (2))]) (s2 := [eI (0)]) rfl rfl rfl ?_
                refine b_rz rfl rfl (Or.inl rfl) ?_
                show ex_q (dt_fg L ρ) rc (d + 4, (274, 42, [some (eR a0), some (eI (a1)), some (eI (a2)), some (eI (a3)), some (eI (a4)), none, none, none, none], [eI (0)]), f :: F, m31)
                refine b_ine (t1 := 47) (t2 := 45) rfl rfl rfl rfl (fun g36 => absurd g36 (by decide)) (fun g36 => ?_)
                refine w_t (np := 46) (l2 := [some (eR a0), some (eI (a1)), some (eI (a2)), some (eI (a3)), some (eI (a4)), none, none, none, none]) (s2 := [eI (-1)]) rfl rfl rfl ?_
                exact b_ri rfl rfl (K m31 (-1) I32 F34 (by decide))
              · have b26 : 0 ≤ a4 ∧ a4 ≤ 2147483647 := by omega
                refine w_t (np := 6) (l2 := [some (eI (a4)), some (eI (0)), some (eI (v22))]) (s2 := [eI (a4)]) rfl rfl rfl ?_
                refine w_t (np := 7) (l2 := [some (eI (a4)), some (eI (0)), some (eI (v22))]) (s2 := [eI (v22), eI (a4)]) rfl rfl rfl ?_
                refine b_cgt (t1 := 14) (t2 := 10) rfl rfl rfl (ev_w_in (by omega) (by omega)) (ev_w_in (by omega) (by omega)) (fun g26 => ?_) (fun g26 => ?_)
                · refine w_t (np := 15) (l2 := [some (eI (a4)), some (eI (0)), some (eI (v22))]) (s2 := [eI (0)]) rfl rfl rfl ?_
                  refine b_rz rfl rfl (Or.inl rfl) ?_
                  show ex_q (dt_fg L ρ) rc (d + 3, (243, 11, [some (eR a0), some (eI (a4))], [eI (0)]), (274, 31, [some (eR a0), some (eI (a1)), some (eI (a2)), some (eI (a3)), some (eI (a4)), none, none, none, none], [eR a0]) :: f :: F, μ)
                  refine b_rz rfl rfl (Or.inl rfl) ?_
                  show ex_q (dt_fg L ρ) rc (d + 4, (274, 31, [some (eR a0), some (eI (a1)), some (eI (a2)), some (eI (a3)), some (eI (a4)), none, none, none, none], [eI (0), eR a0]), f :: F, μ)
                  refine b_ieq (t1 := 38) (t2 := 34) rfl rfl rfl rfl (fun g27 => ?_) (fun g27 => absurd g27 (by decide))
                  refine w_t (np := 39) (l2 := [some (eR a0), some (eI (a1)), some (eI (a2)), some (eI (a3)), some (eI (a4)), none, none, none, none]) (s2 := [eI (2), eR a0]) rfl rfl rfl ?_
                  refine w_cw (np := 42) (as := [eI (2)]) (l2 := [some (eR a0), some (eI (2))]) (rest := []) rfl rfl rfl (Nat.ble_eq.mp rfl) rfl rfl rfl (hI.kd gA0 (by decide) (n := 69) rfl) rfl ?_
                  refine w_t (np := 1) (l2 := [some (eR a0), some (eI (2))]) (s2 := [eR a0]) rfl (s_an rfl (pos_g hI gA0 (by decide))) rfl ?_
                  refine w_t (np := 2) (l2 := [some (eR a0), some (eI (2))]) (s2 := [eI (0), eR a0]) rfl rfl rfl ?_
                  refine j_pf (np := 5) (w := 0) rfl rfl hI gA0 (by decide) (n := 69) rfl rfl (hO_i (lo := -2147483648) (hi := 2147483647) rfl (by decide)) ?_
                  intro m28 I29 W30
                  have F31 : Fr l_274 0 0 g μ m28 := F0.w W30 gA0 rfl
                  refine w_t (np := 6) (l2 := [some (eR a0), some (eI (2))]) (s2 := [eR a0]) rfl (s_an rfl (pos_g I29 gA0 (by decide))) rfl ?_
                  refine w_t (np := 7) (l2 := [some (eR a0), some (eI (2))]) (s2 := [eI (2), eR a0]) rfl rfl rfl ?_
                  refine j_pf (np := 10) (w := 2) rfl rfl I29 gA0 (by decide) (n := 69) rfl rfl (hO_i (lo := -2147483648) (hi := 2147483647) rfl (by decide)) ?_
                  intro m32 I33 W34
                  have F35 : Fr l_274 0 0 g μ m32 := F31.w W34 gA0 rfl
                  refine w_t (np := 11) (l2 := [some (eR a0), some (eI (2))]) (s2 := [eI (2)]) rfl rfl rfl ?_
                  refine b_ine (t1 := 18) (t2 := 14) rfl rfl rfl rfl (fun g36 => ?_) (fun g36 => absurd g36 (by decide))
                  refine w_t (np := 19) (l2 := [some (eR a0), some (eI (2))]) (s2 := [eI (0)]) rfl rfl rfl ?_
                  refine b_rz rfl rfl (Or.inl rfl) ?_
                  show ex_q (dt_fg L ρ) rc (d + 4, (274, 42, [some (eR a0), some (eI (a1)), some (eI (a2)), some (eI (a3)), some (eI (a4)), none, none, none, none], [eI (0)]), f :: F, m32)
                  refine b_ine (t1 := 47) (t2 := 45) rfl rfl rfl rfl (fun g37 => absurd g37 (by decide)) (fun g37 => ?_)
                  refine w_t (np := 46) (l2 := [some (eR a0), some (eI (a1)), some (eI (a2)), some (eI (a3)), some (eI (a4)), none, none, none, none]) (s2 := [eI (-1)]) rfl rfl rfl ?_
                  exact b_ri rfl rfl (K m32 (-1) I33 F35 (by decide))
                · have b27 : 0 ≤ a4 ∧ a4 ≤ 889 := by omega
                  have b28 : 0 ≤ v22 ∧ v22 ≤ 889 := by omega
                  refine w_t (np := 11) (l2 := [some (eI (a4)), some (eI (0)), some (eI (v22))]) (s2 := [eI (1)]) rfl rfl rfl ?_
                  refine w_go (t1 := 15) rfl rfl ?_
                  refine b_rz rfl rfl (Or.inr rfl) ?_
                  show ex_q (dt_fg L ρ) rc (d + 3, (243, 11, [some (eR a0), some (eI (a4))], [eI (1)]), (274, 31, [some (eR a0), some (eI (a1)), some (eI (a2)), some (eI (a3)), some (eI (a4)), none, none, none, none], [eR a0]) :: f :: F, μ)
                  refine b_rz rfl rfl (Or.inr rfl) ?_
                  show ex_q (dt_fg L ρ) rc (d + 4, (274, 31, [some (eR a0), some (eI (a1)), some (eI (a2)), some (eI (a3)), some (eI (a4)), none, none, none, none], [eI (1), eR a0]), f :: F, μ)
                  refine b_ieq (t1 := 38) (t2 := 34) rfl rfl rfl rfl (fun g27 => absurd g27 (by decide)) (fun g27 => ?_)
                  refine w_t (np := 35) (l2 := [some (eR a0), some (eI (a1)), some (eI (a2)), some (eI (a3)), some (eI (a4)), none, none, none, none]) (s2 := [eI (0), eR a0]) rfl rfl rfl ?_
                  refine w_go (t1 := 39) rfl rfl ?_
                  refine w_cw (np := 42) (as := [eI (0)]) (l2 := [some (eR a0), some (eI (0))]) (rest := []) rfl rfl rfl (Nat.ble_eq.mp rfl) rfl rfl rfl (hI.kd gA0 (by decide) (n := 69) rfl) rfl ?_
                  refine w_t (np := 1) (l2 := [some (eR a0), some (eI (0))]) (s2 := [eR a0]) rfl (s_an rfl (pos_g hI gA0 (by decide))) rfl ?_
                  refine w_t (np := 2) (l2 := [some (eR a0), some (eI (0))]) (s2 := [eI (0), eR a0]) rfl rfl rfl ?_
                  refine j_pf (np := 5) (w := 0) rfl rfl hI gA0 (by decide) (n := 69) rfl rfl (hO_i (lo := -2147483648) (hi := 2147483647) rfl (by decide)) ?_
                  intro m28 I29 W30
                  have F31 : Fr l_274 0 0 g μ m28 := F0.w W30 gA0 rfl
                  refine w_t (np := 6) (l2 := [some (eR a0), some (eI (0))]) (s2 := [eR a0]) rfl (s_an rfl (pos_g I29 gA0 (by decide))) rfl ?_
                  refine w_t (np := 7) (l2 := [some (eR a0), some (eI (0))]) (s2 := [eI (0), eR a0]) rfl rfl rfl ?_
                  refine j_pf (np := 10) (w := 0) rfl rfl I29 gA0 (by decide) (n := 69) rfl rfl (hO_i (lo := -2147483648) (hi := 2147483647) rfl (by decide)) ?_
                  intro m32 I33 W34
                  have F35 : Fr l_274 0 0 g μ m32 := F31.w W34 gA0 rfl
                  refine w_t (np := 11) (l2 := [some (eR a0), some (eI (0))]) (s2 := [eI (0)]) rfl rfl rfl ?_
                  refine b_ine (t1 := 18) (t2 := 14) rfl rfl rfl rfl (fun g36 => absurd g36 (by decide)) (fun g36 => ?_)
                  refine w_t (np := 15) (l2 := [some (eR a0), some (eI (0))]) (s2 := [eI (1)]) rfl rfl rfl ?_
                  refine w_go (t1 := 19) rfl rfl ?_
                  refine b_rz rfl rfl (Or.inr rfl) ?_
                  show ex_q (dt_fg L ρ) rc (d + 4, (274, 42, [some (eR a0), some (eI (a1)), some (eI (a2)), some (eI (a3)), some (eI (a4)), none, none, none, none], [eI (1)]), f :: F, m32)
                  refine b_ine (t1 := 47) (t2 := 45) rfl rfl rfl rfl (fun g37 => ?_) (fun g37 => absurd g37 (by decide))
                  refine w_t (np := 48) (l2 := [some (eR a0), some (eI (a1)), some (eI (a2)), some (eI (a3)), some (eI (a4)), none, none, none, none]) (s2 := [eR a0]) rfl (s_an rfl (pos_g I33 gA0 (by decide))) rfl ?_
                  refine w_t (np := 49) (l2 := [some (eR a0), some (eI (a1)), some (eI (a2)), some (eI (a3)), some (eI (a4)), none, none, none, none]) (s2 := [eI (a1), eR a0]) rfl rfl rfl ?_
                  refine w_t (np := 50) (l2 := [some (eR a0), some (eI (a1)), some (eI (a2)), some (eI (a3)), some (eI (a4)), none, none, none, none]) (s2 := [eI (a2), eI (a1), eR a0]) rfl rfl rfl ?_
                  refine w_cw (np := 53) (as := [eI (a1), eI (a2)]) (l2 := [some (eR a0), some (eI (a1)), some (eI (a2)), none, none, none, none, none, none, none, none, none, none]) (rest := []) rfl rfl rfl (Nat.ble_eq.mp rfl) rfl rfl rfl (I33.kd gA0 (by decide) (n := 69) rfl) rfl ?_
                  refine s_273 (a1 := a1) (a2 := a2) I33 gA0 (by omega) (by omega) ?_
                  intro m38 I39 F40
                  have F41 : Fr l_274 0 0 g μ m38 := F35.t F40 rfl
                  show ex_q (dt_fg L ρ) rc (d + 4, (274, 53, [some (eR a0), some (eI (a1)), some (eI (a2)), some (eI (a3)), some (eI (a4)), none, none, none, none], []), f :: F, m38)
                  refine w_t (np := 54) (l2 := [some (eR a0), some (eI (a1)), some (eI (a2)), some (eI (a3)), some (eI (a4)), none, none, none, none]) (s2 := [eR a0]) rfl (s_an rfl (pos_g I39 gA0 (by decide))) rfl ?_
                  refine j_gj (np := 57) rfl rfl I39 gA0 (by decide) (n := 69) rfl rfl (lo := -9223372036854775808) (hi := 9223372036854775807) rfl ?_
                  intro v42 e43 b44
                  refine w_t (np := 59) (l2 := [some (eR a0), some (eI (a1)), some (eI (a2)), some (eI (a3)), some (eI (a4)), some (eJ (v42)), none, none, none]) (s2 := []) rfl rfl rfl ?_
                  refine w_t (np := 60) (l2 := [some (eR a0), some (eI (a1)), some (eI (a2)), some (eI (a3)), some (eI (a4)), some (eJ (v42)), none, none, none]) (s2 := [eR a0]) rfl (s_an rfl (pos_g I39 gA0 (by decide))) rfl ?_
                  refine j_gj (np := 63) rfl rfl I39 gA0 (by decide) (n := 69) rfl rfl (lo := -9223372036854775808) (hi := 9223372036854775807) rfl ?_
                  intro v45 e46 b47
                  refine w_t (np := 65) (l2 := [some (eR a0), some (eI (a1)), some (eI (a2)), some (eI (a3)), some (eI (a4)), some (eJ (v42)), none, some (eJ (v45)), none]) (s2 := []) rfl rfl rfl ?_
                  refine w_t (np := 66) (l2 := [some (eR a0), some (eI (a1)), some (eI (a2)), some (eI (a3)), some (eI (a4)), some (eJ (v42)), none, some (eJ (v45)), none]) (s2 := [eR a0]) rfl (s_an rfl (pos_g I39 gA0 (by decide))) rfl ?_
                  refine w_t (np := 67) (l2 := [some (eR a0), some (eI (a1)), some (eI (a2)), some (eI (a3)), some (eI (a4)), some (eJ (v42)), none, some (eJ (v45)), none]) (s2 := [eI (a3), eR a0]) rfl rfl rfl ?_
                  refine w_t (np := 69) (l2 := [some (eR a0), some (eI (a1)), some (eI (a2)), some (eI (a3)), some (eI (a4)), some (eJ (v42)), none, some (eJ (v45)), none]) (s2 := [eI (a4), eI (a3), eR a0]) rfl rfl rfl ?_
                  refine w_cw (np := 72) (as := [eI (a3), eI (a4)]) (l2 := [some (eR a0), some (eI (a3)), some (eI (a4)), none, none, none, none, none, none, none, none, none, none]) (rest := []) rfl rfl rfl (Nat.ble_eq.mp rfl) rfl rfl rfl (I39.kd gA0 (by decide) (n := 69) rfl) rfl ?_
                  refine s_273 (a1 := a3) (a2 := a4) I39 gA0 (by omega) (by omega) ?_
                  intro m48 I49 F50
                  have F51 : Fr l_274 0 0 g μ m48 := F41.t F50 rfl
                  show ex_q (dt_fg L ρ) rc (d + 4, (274, 72, [some (eR a0), some (eI (a1)), some (eI (a2)), some (eI (a3)), some (eI (a4)), some (eJ (v42)), none, some (eJ (v45)), none], []), f :: F, m48)
                  refine w_t (np := 73) (l2 := [some (eR a0), some (eI (a1)), some (eI (a2)), some (eI (a3)), some (eI (a4)), some (eJ (v42)), none, some (eJ (v45)), none]) (s2 := [eR a0]) rfl (s_an rfl (pos_g I49 gA0 (by decide))) rfl ?_
                  refine j_gj (np := 76) rfl rfl I49 gA0 (by decide) (n := 69) rfl rfl (lo := -9223372036854775808) (hi := 9223372036854775807) rfl ?_
                  intro v52 e53 b54
                  refine w_t (np := 78) (l2 := [some (eR a0), some (eI (a1)), some (eI (a2)), some (eI (a3)), some (eI (a4)), some (eJ (v42)), none, some (eJ (v45)), none]) (s2 := [eJ (v42), eJ (v52)]) rfl rfl rfl ?_
                  obtain ⟨v55, e56, b57⟩ : ∃ zz : Int, ev_W ((v52) - (v42)) = zz ∧ (-9223372036854775808 ≤ zz ∧ zz ≤ 9223372036854775807) := ⟨_, rfl, hW_bd _⟩
                  refine w_t (np := 79) (l2 := [some (eR a0), some (eI (a1)), some (eI (a2)), some (eI (a3)), some (eI (a4)), some (eJ (v42)), none, some (eJ (v45)), none]) (s2 := [eJ (v55)]) rfl (b_lsub e56) rfl ?_
                  refine w_t (np := 80) (l2 := [some (eR a0), some (eI (a1)), some (eI (a2)), some (eI (a3)), some (eI (a4)), some (eJ (v42)), none, some (eJ (v45)), none]) (s2 := [eR a0, eJ (v55)]) rfl (s_an rfl (pos_g I49 gA0 (by decide))) rfl ?_
                  refine j_gj (np := 83) rfl rfl I49 gA0 (by decide) (n := 69) rfl rfl (lo := -9223372036854775808) (hi := 9223372036854775807) rfl ?_
                  intro v58 e59 b60
                  refine w_t (np := 85) (l2 := [some (eR a0), some (eI (a1)), some (eI (a2)), some (eI (a3)), some (eI (a4)), some (eJ (v42)), none, some (eJ (v45)), none]) (s2 := [eJ (v45), eJ (v58), eJ (v55)]) rfl rfl rfl ?_
                  obtain ⟨v61, e62, b63⟩ : ∃ zz : Int, ev_W ((v58) - (v45)) = zz ∧ (-9223372036854775808 ≤ zz ∧ zz ≤ 9223372036854775807) := ⟨_, rfl, hW_bd _⟩
                  refine w_t (np := 86) (l2 := [some (eR a0), some (eI (a1)), some (eI (a2)), some (eI (a3)), some (eI (a4)), some (eJ (v42)), none, some (eJ (v45)), none]) (s2 := [eJ (v61), eJ (v55)]) rfl (b_lsub e62) rfl ?_
                  refine w_cu (np := 89) (as := [eJ (v55), eJ (v61)]) (l2 := [some (eJ (v55)), none, some (eJ (v61)), none, none, none, none, none, none, none]) (rest := []) rfl rfl rfl (Nat.ble_eq.mp rfl) rfl rfl rfl rfl ?_
                  refine s_222 I49 b57 b63 ?_
                  intro v64 b65
                  show ex_q (dt_fg L ρ) rc (d + 4, (274, 89, [some (eR a0), some (eI (a1)), some (eI (a2)), some (eI (a3)), some (eI (a4)), some (eJ (v42)), none, some (eJ (v45)), none], [eI (v64)]), f :: F, m48)
                  refine b_ile (t1 := 96) (t2 := 92) rfl rfl rfl (ev_w_in (by omega) (by omega)) (fun g66 => ?_) (fun g66 => ?_)
                  · have b67 : -1 ≤ v64 ∧ v64 ≤ 0 := by omega
                    refine w_t (np := 97) (l2 := [some (eR a0), some (eI (a1)), some (eI (a2)), some (eI (a3)), some (eI (a4)), some (eJ (v42)), none, some (eJ (v45)), none]) (s2 := [eI (0)]) rfl rfl rfl ?_
                    exact b_ri rfl rfl (K m48 (0) I49 F51 (by decide))
                  · have b67 : 1 ≤ v64 ∧ v64 ≤ 1 := by omega
                    refine w_t (np := 93) (l2 := [some (eR a0), some (eI (a1)), some (eI (a2)), some (eI (a3)), some (eI (a4)), some (eJ (v42)), none, some (eJ (v45)), none]) (s2 := [eI (1)]) rfl rfl rfl ?_
                    refine w_go (t1 := 97) rfl rfl ?_
                    exact b_ri rfl rfl (K m48 (1) I49 F51 (by decide))
