/-! methods, walked -/
theorem s_153 {L : Nat} {ρ : Nat → Int} {rc : eQ} {d : Nat} {f : eFr} {F : List eFr} {μ : eM} {g : Nat → Nat} {a0 : Nat} {a1 : Int} {a2 : Int} {a3 : Int} (hI : SI g μ) (gA0 : g a0 = 29) (bA1 : 0 ≤ a1 ∧ a1 ≤ 23) (bA2 : 0 ≤ a2 ∧ a2 ≤ 3) (bA3 : 0 ≤ a3 ∧ a3 ≤ 1) (K : ∀ (v : Int), (0 ≤ v ∧ v ≤ 3) → ex_q (dt_fg L ρ) rc (d + 3, (f.1, f.2.1, f.2.2.1, eI v :: f.2.2.2), F, μ)) : ex_q (dt_fg L ρ) rc (d + 2, (153, 0, [some (eR a0), some (eI (a1)), some (eI (a2)), some (eI (a3)), none, none], []), f :: F, μ) := by
  refine w_t (np := 1) (l2 := [some (eR a0), some (eI (a1)), some (eI (a2)), some (eI (a3)), none, none]) (s2 := [eR a0]) rfl (s_an rfl (pos_g hI gA0 (by decide))) rfl ?_
  refine w_t (np := 2) (l2 := [some (eR a0), some (eI (a1)), some (eI (a2)), some (eI (a3)), none, none]) (s2 := [eI (a1), eR a0]) rfl rfl rfl ?_
  refine w_cw (np := 5) (as := [eI (a1)]) (l2 := [some (eR a0), some (eI (a1))]) (rest := []) rfl rfl rfl (Nat.ble_eq.mp rfl) rfl rfl rfl (hI.kd gA0 (by decide) (n := 7) rfl) rfl ?_
  refine s_130 (a1 := a1) hI gA0 (by omega) ?_
  intro v1 b2
  show ex_q (dt_fg L ρ) rc (d + 2, (153, 5, [some (eR a0), some (eI (a1)), some (eI (a2)), some (eI (a3)), none, none], [eI (v1)]), f :: F, μ)
  refine b_ine (t1 := 12) (t2 := 8) rfl rfl rfl (ev_w_in (by omega) (by omega)) (fun g3 => ?_) (fun g3 => ?_)
  · have b4 : 1 ≤ v1 ∧ v1 ≤ 1 := by omega
    refine w_t (np := 13) (l2 := [some (eR a0), some (eI (a1)), some (eI (a2)), some (eI (a3)), none, none]) (s2 := [eI (0)]) rfl rfl rfl ?_
    refine w_t (np := 14) (l2 := [some (eR a0), some (eI (a1)), some (eI (a2)), some (eI (a3)), none, none]) (s2 := [eI (a3), eI (0)]) rfl rfl rfl ?_
    refine b_ceq (t1 := 21) (t2 := 17) rfl rfl rfl rfl (ev_w_in (by omega) (by omega)) (fun g4 => ?_) (fun g4 => ?_)
    · have b5 : 0 ≤ a3 ∧ a3 ≤ 0 := by omega
      refine w_t (np := 22) (l2 := [some (eR a0), some (eI (a1)), some (eI (a2)), some (eI (a3)), none, none]) (s2 := [eI (0)]) rfl rfl rfl ?_
      refine w_t (np := 24) (l2 := [some (eR a0), some (eI (a1)), some (eI (a2)), some (eI (a3)), some (eI (0)), none]) (s2 := []) rfl rfl rfl ?_
      refine w_t (np := 26) (l2 := [some (eR a0), some (eI (a1)), some (eI (a2)), some (eI (a3)), some (eI (0)), none]) (s2 := [eI (0)]) rfl rfl rfl ?_
      refine b_ieq (t1 := 33) (t2 := 29) rfl rfl rfl rfl (fun g5 => ?_) (fun g5 => absurd g5 (by decide))
      refine w_t (np := 34) (l2 := [some (eR a0), some (eI (a1)), some (eI (a2)), some (eI (a3)), some (eI (0)), none]) (s2 := [eI (a2)]) rfl rfl rfl ?_
      refine w_t (np := 35) (l2 := [some (eR a0), some (eI (a1)), some (eI (a2)), some (eI (a3)), some (eI (0)), none]) (s2 := [eI (3), eI (a2)]) rfl rfl rfl ?_
      obtain ⟨v6, e7⟩ : ∃ zz : Int, zz = (a2) + (3) := ⟨_, rfl⟩
      have b8 : 3 ≤ v6 ∧ v6 ≤ 6 := by omega
      refine w_t (np := 36) (l2 := [some (eR a0), some (eI (a1)), some (eI (a2)), some (eI (a3)), some (eI (0)), none]) (s2 := [eI (v6)]) rfl (b_iadd (by rw [← e7]; exact ev_w_in (by omega) (by omega))) rfl ?_
      refine w_t (np := 37) (l2 := [some (eR a0), some (eI (a1)), some (eI (a2)), some (eI (a3)), some (eI (0)), none]) (s2 := [eI (4), eI (v6)]) rfl rfl rfl ?_
      obtain ⟨v9, e10, b11⟩ := h_irem (a := v6) (k := 4) (by decide) (by decide) (show (-2147483648 : Int) ≤ v6 ∧ (v6 : Int) ≤ 2147483647 by omega)
      have b12 : 0 ≤ v9 ∧ v9 ≤ 3 := by omega
      refine w_t (np := 38) (l2 := [some (eR a0), some (eI (a1)), some (eI (a2)), some (eI (a3)), some (eI (0)), none]) (s2 := [eI (v9)]) rfl (e10 _ _) rfl ?_
      refine w_t (np := 40) (l2 := [some (eR a0), some (eI (a1)), some (eI (a2)), some (eI (a3)), some (eI (0)), some (eI (v9))]) (s2 := []) rfl rfl rfl ?_
      refine w_t (np := 41) (l2 := [some (eR a0), some (eI (a1)), some (eI (a2)), some (eI (a3)), some (eI (0)), some (eI (v9))]) (s2 := [eI (2)]) rfl rfl rfl ?_
      refine w_t (np := 43) (l2 := [some (eR a0), some (eI (a1)), some (eI (a2)), some (eI (a3)), some (eI (0)), some (eI (v9))]) (s2 := [eI (v9), eI (2)]) rfl rfl rfl ?_
      refine w_cu (np := 46) (as := [eI (v9)]) (l2 := [some (eI (v9))]) (rest := [eI (2)]) rfl rfl rfl (Nat.ble_eq.mp rfl) rfl rfl rfl rfl ?_
      refine w_t (np := 1) (l2 := [some (eI (v9))]) (s2 := [eI (v9)]) rfl rfl rfl ?_
      refine w_t (np := 2) (l2 := [some (eI (v9))]) (s2 := [eI (2), eI (v9)]) rfl rfl rfl ?_
      refine b_cge (t1 := 9) (t2 := 5) rfl rfl rfl (ev_w_in (by omega) (by omega)) rfl (fun g13 => ?_) (fun g13 => ?_)
      · have b14 : 2 ≤ v9 ∧ v9 ≤ 3 := by omega
        refine w_t (np := 10) (l2 := [some (eI (v9))]) (s2 := [eI (1)]) rfl rfl rfl ?_
        refine b_ri rfl rfl ?_
        show ex_q (dt_fg L ρ) rc (d + 2, (153, 46, [some (eR a0), some (eI (a1)), some (eI (a2)), some (eI (a3)), some (eI (0)), some (eI (v9))], [eI (1), eI (2)]), f :: F, μ)
        refine w_t (np := 47) (l2 := [some (eR a0), some (eI (a1)), some (eI (a2)), some (eI (a3)), some (eI (0)), some (eI (v9))]) (s2 := [eI (2)]) rfl (b_imul rfl) rfl ?_
        refine w_t (np := 48) (l2 := [some (eR a0), some (eI (a1)), some (eI (a2)), some (eI (a3)), some (eI (0)), some (eI (v9))]) (s2 := [eR a0, eI (2)]) rfl (s_an rfl (pos_g hI gA0 (by decide))) rfl ?_
        refine w_t (np := 49) (l2 := [some (eR a0), some (eI (a1)), some (eI (a2)), some (eI (a3)), some (eI (0)), some (eI (v9))]) (s2 := [eI (a1), eR a0, eI (2)]) rfl rfl rfl ?_
        refine w_t (np := 51) (l2 := [some (eR a0), some (eI (a1)), some (eI (a2)), some (eI (a3)), some (eI (0)), some (eI (v9))]) (s2 := [eI (v9), eI (a1), eR a0, eI (2)]) rfl rfl rfl ?_
        refine w_cw (np := 54) (as := [eI (a1), eI (v9)]) (l2 := [some (eR a0), some (eI (a1)), some (eI (v9)), none]) (rest := [eI (2)]) rfl rfl rfl (Nat.ble_eq.mp rfl) rfl rfl rfl (hI.kd gA0 (by decide) (n := 7) rfl) rfl ?_
        refine s_149 (a1 := a1) (a2 := v9) hI gA0 (by omega) (by omega) ?_
        intro v14 b15
        show ex_q (dt_fg L ρ) rc (d + 2, (153, 54, [some (eR a0), some (eI (a1)), some (eI (a2)), some (eI (a3)), some (eI (0)), some (eI (v9))], [eI (v14), eI (2)]), f :: F, μ)
        refine w_t (np := 56) (l2 := [some (eR a0), some (eI (a1)), some (eI (a2)), some (eI (a3)), some (eI (0)), some (eI (v9))]) (s2 := [eI (0), eI (v14), eI (2)]) rfl rfl rfl ?_
        refine b_cne (t1 := 63) (t2 := 59) rfl rfl rfl (ev_w_in (by omega) (by omega)) rfl (fun g16 => ?_) (fun g16 => ?_)
        · have b17 : 1 ≤ v14 ∧ v14 ≤ 1 := by omega
          refine w_t (np := 64) (l2 := [some (eR a0), some (eI (a1)), some (eI (a2)), some (eI (a3)), some (eI (0)), some (eI (v9))]) (s2 := [eI (1), eI (2)]) rfl rfl rfl ?_
          refine w_t (np := 65) (l2 := [some (eR a0), some (eI (a1)), some (eI (a2)), some (eI (a3)), some (eI (0)), some (eI (v9))]) (s2 := [eI (3)]) rfl (b_iadd rfl) rfl ?_
          exact b_ri rfl rfl (K (3) (by decide))
        · have b17 : 0 ≤ v14 ∧ v14 ≤ 0 := by omega
          refine w_t (np := 60) (l2 := [some (eR a0), some (eI (a1)), some (eI (a2)), some (eI (a3)), some (eI (0)), some (eI (v9))]) (s2 := [eI (0), eI (2)]) rfl rfl rfl ?_
          refine w_go (t1 := 64) rfl rfl ?_
          refine w_t (np := 65) (l2 := [some (eR a0), some (eI (a1)), some (eI (a2)), some (eI (a3)), some (eI (0)), some (eI (v9))]) (s2 := [eI (2)]) rfl (b_iadd rfl) rfl ?_
          exact b_ri rfl rfl (K (2) (by decide))
      · have b14 : 0 ≤ v9 ∧ v9 ≤ 1 := by omega
        refine w_t (np := 6) (l2 := [some (eI (v9))]) (s2 := [eI (0)]) rfl rfl rfl ?_
        refine w_go (t1 := 10) rfl rfl ?_
        refine b_ri rfl rfl ?_
        show ex_q (dt_fg L ρ) rc (d + 2, (153, 46, [some (eR a0), some (eI (a1)), some (eI (a2)), some (eI (a3)), some (eI (0)), some (eI (v9))], [eI (0), eI (2)]), f :: F, μ)
        refine w_t (np := 47) (l2 := [some (eR a0), some (eI (a1)), some (eI (a2)), some (eI (a3)), some (eI (0)), some (eI (v9))]) (s2 := [eI (0)]) rfl (b_imul rfl) rfl ?_
        refine w_t (np := 48) (l2 := [some (eR a0), some (eI (a1)), some (eI (a2)), some (eI (a3)), some (eI (0)), some (eI (v9))]) (s2 := [eR a0, eI (0)]) rfl (s_an rfl (pos_g hI gA0 (by decide))) rfl ?_
        refine w_t (np := 49) (l2 := [some (eR a0), some (eI (a1)), some (eI (a2)), some (eI (a3)), some (eI (0)), some (eI (v9))]) (s2 := [eI (a1), eR a0, eI (0)]) rfl rfl rfl ?_
        refine w_t (np := 51) (l2 := [some (eR a0), some (eI (a1)), some (eI (a2)), some (eI (a3)), some (eI (0)), some (eI (v9))]) (s2 := [eI (v9), eI (a1), eR a0, eI (0)]) rfl rfl rfl ?_
        refine w_cw (np := 54) (as := [eI (a1), eI (v9)]) (l2 := [some (eR a0), some (eI (a1)), some (eI (v9)), none]) (rest := [eI (0)]) rfl rfl rfl (Nat.ble_eq.mp rfl) rfl rfl rfl (hI.kd gA0 (by decide) (n := 7) rfl) rfl ?_
        refine s_149 (a1 := a1) (a2 := v9) hI gA0 (by omega) (by omega) ?_
        intro v14 b15
        show ex_q (dt_fg L ρ) rc (d + 2, (153, 54, [some (eR a0), some (eI (a1)), some (eI (a2)), some (eI (a3)), some (eI (0)), some (eI (v9))], [eI (v14), eI (0)]), f :: F, μ)
        refine w_t (np := 56) (l2 := [some (eR a0), some (eI (a1)), some (eI (a2)), some (eI (a3)), some (eI (0)), some (eI (v9))]) (s2 := [eI (0), eI (v14), eI (0)]) rfl rfl rfl ?_
        refine b_cne (t1 := 63) (t2 := 59) rfl rfl rfl (ev_w_in (by omega) (by omega)) rfl (fun g16 => ?_) (fun g16 => ?_)
        · have b17 : 1 ≤ v14 ∧ v14 ≤ 1 := by omega
          refine w_t (np := 64) (l2 := [some (eR a0), some (eI (a1)), some (eI (a2)), some (eI (a3)), some (eI (0)), some (eI (v9))]) (s2 := [eI (1), eI (0)]) rfl rfl rfl ?_
          refine w_t (np := 65) (l2 := [some (eR a0), some (eI (a1)), some (eI (a2)), some (eI (a3)), some (eI (0)), some (eI (v9))]) (s2 := [eI (1)]) rfl (b_iadd rfl) rfl ?_
          exact b_ri rfl rfl (K (1) (by decide))
        · have b17 : 0 ≤ v14 ∧ v14 ≤ 0 := by omega
          refine w_t (np := 60) (l2 := [some (eR a0), some (eI (a1)), some (eI (a2)), some (eI (a3)), some (eI (0)), some (eI (v9))]) (s2 := [eI (0), eI (0)]) rfl rfl rfl ?_
          refine w_go (t1 := 64) rfl rfl ?_
          refine w_t (np := 65) (l2 := [some (eR a0), some (eI (a1)), some (eI (a2)), some (eI (a3)), some (eI (0)), some (eI (v9))]) (s2 := [eI (0)]) rfl (b_iadd rfl) rfl ?_
          exact b_ri rfl rfl (K (0) (by decide))
    · have b5 : 1 ≤ a3 ∧ a3 ≤ 1 := by omega
      refine w_t (np := 18) (l2 := [some (eR a0), some (eI (a1)), some (eI (a2)), some (eI (a3)), none, none]) (s2 := [eI (1)]) rfl rfl rfl ?_
      refine w_go (t1 := 22) rfl rfl ?_
      refine w_t (np := 24) (l2 := [some (eR a0), some (eI (a1)), some (eI (a2)), some (eI (a3)), some (eI (1)), none]) (s2 := []) rfl rfl rfl ?_
      refine w_t (np := 26) (l2 := [some (eR a0), some (eI (a1)), some (eI (a2)), some (eI (a3)), some (eI (1)), none]) (s2 := [eI (1)]) rfl rfl rfl ?_
      refine b_ieq (t1 := 33) (t2 := 29) rfl rfl rfl rfl (fun g5 => absurd g5 (by decide)) (fun g5 => ?_)
      refine w_t (np := 30) (l2 := [some (eR a0), some (eI (a1)), some (eI (a2)), some (eI (a3)), some (eI (1)), none]) (s2 := [eI (a2)]) rfl rfl rfl ?_
      refine w_go (t1 := 38) rfl rfl ?_
      refine w_t (np := 40) (l2 := [some (eR a0), some (eI (a1)), some (eI (a2)), some (eI (a3)), some (eI (1)), some (eI (a2))]) (s2 := []) rfl rfl rfl ?_
      refine w_t (np := 41) (l2 := [some (eR a0), some (eI (a1)), some (eI (a2)), some (eI (a3)), some (eI (1)), some (eI (a2))]) (s2 := [eI (2)]) rfl rfl rfl ?_
      refine w_t (np := 43) (l2 := [some (eR a0), some (eI (a1)), some (eI (a2)), some (eI (a3)), some (eI (1)), some (eI (a2))]) (s2 := [eI (a2), eI (2)]) rfl rfl rfl ?_
      refine w_cu (np := 46) (as := [eI (a2)]) (l2 := [some (eI (a2))]) (rest := [eI (2)]) rfl rfl rfl (Nat.ble_eq.mp rfl) rfl rfl rfl rfl ?_
      refine w_t (np := 1) (l2 := [some (eI (a2))]) (s2 := [eI (a2)]) rfl rfl rfl ?_
      refine w_t (np := 2) (l2 := [some (eI (a2))]) (s2 := [eI (2), eI (a2)]) rfl rfl rfl ?_
      refine b_cge (t1 := 9) (t2 := 5) rfl rfl rfl (ev_w_in (by omega) (by omega)) rfl (fun g6 => ?_) (fun g6 => ?_)
      · have b7 : 2 ≤ a2 ∧ a2 ≤ 3 := by omega
        refine w_t (np := 10) (l2 := [some (eI (a2))]) (s2 := [eI (1)]) rfl rfl rfl ?_
        refine b_ri rfl rfl ?_
        show ex_q (dt_fg L ρ) rc (d + 2, (153, 46, [some (eR a0), some (eI (a1)), some (eI (a2)), some (eI (a3)), some (eI (1)), some (eI (a2))], [eI (1), eI (2)]), f :: F, μ)
        refine w_t (np := 47) (l2 := [some (eR a0), some (eI (a1)), some (eI (a2)), some (eI (a3)), some (eI (1)), some (eI (a2))]) (s2 := [eI (2)]) rfl (b_imul rfl) rfl ?_
        refine w_t (np := 48) (l2 := [some (eR a0), some (eI (a1)), some (eI (a2)), some (eI (a3)), some (eI (1)), some (eI (a2))]) (s2 := [eR a0, eI (2)]) rfl (s_an rfl (pos_g hI gA0 (by decide))) rfl ?_
        refine w_t (np := 49) (l2 := [some (eR a0), some (eI (a1)), some (eI (a2)), some (eI (a3)), some (eI (1)), some (eI (a2))]) (s2 := [eI (a1), eR a0, eI (2)]) rfl rfl rfl ?_
        refine w_t (np := 51) (l2 := [some (eR a0), some (eI (a1)), some (eI (a2)), some (eI (a3)), some (eI (1)), some (eI (a2))]) (s2 := [eI (a2), eI (a1), eR a0, eI (2)]) rfl rfl rfl ?_
        refine w_cw (np := 54) (as := [eI (a1), eI (a2)]) (l2 := [some (eR a0), some (eI (a1)), some (eI (a2)), none]) (rest := [eI (2)]) rfl rfl rfl (Nat.ble_eq.mp rfl) rfl rfl rfl (hI.kd gA0 (by decide) (n := 7) rfl) rfl ?_
        refine s_149 (a1 := a1) (a2 := a2) hI gA0 (by omega) (by omega) ?_
        intro v7 b8
        show ex_q (dt_fg L ρ) rc (d + 2, (153, 54, [some (eR a0), some (eI (a1)), some (eI (a2)), some (eI (a3)), some (eI (1)), some (eI (a2))], [eI (v7), eI (2)]), f :: F, μ)
        refine w_t (np := 56) (l2 := [some (eR a0), some (eI (a1)), some (eI (a2)), some (eI (a3)), some (eI (1)), some (eI (a2))]) (s2 := [eI (1), eI (v7), eI (2)]) rfl rfl rfl ?_
        refine b_cne (t1 := 63) (t2 := 59) rfl rfl rfl (ev_w_in (by omega) (by omega)) rfl (fun g9 => ?_) (fun g9 => ?_)
        · have b10 : 0 ≤ v7 ∧ v7 ≤ 0 := by omega
          refine w_t (np := 64) (l2 := [some (eR a0), some (eI (a1)), some (eI (a2)), some (eI (a3)), some (eI (1)), some (eI (a2))]) (s2 := [eI (1), eI (2)]) rfl rfl rfl ?_
          refine w_t (np := 65) (l2 := [some (eR a0), some (eI (a1)), some (eI (a2)), some (eI (a3)), some (eI (1)), some (eI (a2))]) (s2 := [eI (3)]) rfl (b_iadd rfl) rfl ?_
          exact b_ri rfl rfl (K (3) (by decide))
        · have b10 : 1 ≤ v7 ∧ v7 ≤ 1 := by omega
          refine w_t (np := 60) (l2 := [some (eR a0), some (eI (a1)), some (eI (a2)), some (eI (a3)), some (eI (1)), some (eI (a2))]) (s2 := [eI (0), eI (2)]) rfl rfl rfl ?_
          refine w_go (t1 := 64) rfl rfl ?_
          refine w_t (np := 65) (l2 := [some (eR a0), some (eI (a1)), some (eI (a2)), some (eI (a3)), some (eI (1)), some (eI (a2))]) (s2 := [eI (2)]) rfl (b_iadd rfl) rfl ?_
          exact b_ri rfl rfl (K (2) (by decide))
      · have b7 : 0 ≤ a2 ∧ a2 ≤ 1 := by omega
        refine w_t (np := 6) (l2 := [some (eI (a2))]) (s2 := [eI (0)]) rfl rfl rfl ?_
        refine w_go (t1 := 10) rfl rfl ?_
        refine b_ri rfl rfl ?_
        show ex_q (dt_fg L ρ) rc (d + 2, (153, 46, [some (eR a0), some (eI (a1)), some (eI (a2)), some (eI (a3)), some (eI (1)), some (eI (a2))], [eI (0), eI (2)]), f :: F, μ)
        refine w_t (np := 47) (l2 := [some (eR a0), some (eI (a1)), some (eI (a2)), some (eI (a3)), some (eI (1)), some (eI (a2))]) (s2 := [eI (0)]) rfl (b_imul rfl) rfl ?_
        refine w_t (np := 48) (l2 := [some (eR a0), some (eI (a1)), some (eI (a2)), some (eI (a3)), some (eI (1)), some (eI (a2))]) (s2 := [eR a0, eI (0)]) rfl (s_an rfl (pos_g hI gA0 (by decide))) rfl ?_
        refine w_t (np := 49) (l2 := [some (eR a0), some (eI (a1)), some (eI (a2)), some (eI (a3)), some (eI (1)), some (eI (a2))]) (s2 := [eI (a1), eR a0, eI (0)]) rfl rfl rfl ?_
        refine w_t (np := 51) (l2 := [some (eR a0), some (eI (a1)), some (eI (a2)), some (eI (a3)), some (eI (1)), some (eI (a2))]) (s2 := [eI (a2), eI (a1), eR a0, eI (0)]) rfl rfl rfl ?_
        refine w_cw (np := 54) (as := [eI (a1), eI (a2)]) (l2 := [some (eR a0), some (eI (a1)), some (eI (a2)), none]) (rest := [eI (0)]) rfl rfl rfl (Nat.ble_eq.mp rfl) rfl rfl rfl (hI.kd gA0 (by decide) (n := 7) rfl) rfl ?_
        refine s_149 (a1 := a1) (a2 := a2) hI gA0 (by omega) (by omega) ?_
        intro v7 b8
        show ex_q (dt_fg L ρ) rc (d + 2, (153, 54, [some (eR a0), some (eI (a1)), some (eI (a2)), some (eI (a3)), some (eI (1)), some (eI (a2))], [eI (v7), eI (0)]), f :: F, μ)
        refine w_t (np := 56) (l2 := [some (eR a0), some (eI (a1)), some (eI (a2)), some (eI (a3)), some (eI (1)), some (eI (a2))]) (s2 := [eI (1), eI (v7), eI (0)]) rfl rfl rfl ?_
        refine b_cne (t1 := 63) (t2 := 59) rfl rfl rfl (ev_w_in (by omega) (by omega)) rfl (fun g9 => ?_) (fun g9 => ?_)
        · have b10 : 0 ≤ v7 ∧ v7 ≤ 0 := by omega
          refine w_t (np := 64) (l2 := [some (eR a0), some (eI (a1)), some (eI (a2)), some (eI (a3)), some (eI (1)), some (eI (a2))]) (s2 := [eI (1), eI (0)]) rfl rfl rfl ?_
          refine w_t (np := 65) (l2 := [some (eR a0), some (eI (a1)), some (eI (a2)), some (eI (a3)), some (eI (1)), some (eI (a2))]) (s2 := [eI (1)]) rfl (b_iadd rfl) rfl ?_
          exact b_ri rfl rfl (K (1) (by decide))
        · have b10 : 1 ≤ v7 ∧ v7 ≤ 1 := by omega
          refine w_t (np := 60) (l2 := [some (eR a0), some (eI (a1)), some (eI (a2)), some (eI (a3)), some (eI (1)), some (eI (a2))]) (s2 := [eI (0), eI (0)]) rfl rfl rfl ?_
          refine w_go (t1 := 64) rfl rfl ?_
          refine w_t (np := 65) (l2 := [some (eR a0), some (eI (a1)), some (eI (a2)), some (eI (a3)), some (eI (1)), some (eI (a2))]) (s2 := [eI (0)]) rfl (b_iadd rfl) rfl ?_
          exact b_ri rfl rfl (K (0) (by decide))
  · have b4 : 0 ≤ v1 ∧ v1 ≤ 0 := by omega
    refine w_t (np := 9) (l2 := [some (eR a0), some (eI (a1)), some (eI (a2)), some (eI (a3)), none, none]) (s2 := [eI (1)]) rfl rfl rfl ?_
    refine w_go (t1 := 13) rfl rfl ?_
    refine w_t (np := 14) (l2 := [some (eR a0), some (eI (a1)), some (eI (a2)), some (eI (a3)), none, none]) (s2 := [eI (a3), eI (1)]) rfl rfl rfl ?_
    refine b_ceq (t1 := 21) (t2 := 17) rfl rfl rfl rfl (ev_w_in (by omega) (by omega)) (fun g4 => ?_) (fun g4 => ?_)
    · have b5 : 1 ≤ a3 ∧ a3 ≤ 1 := by omega
      refine w_t (np := 22) (l2 := [some (eR a0), some (eI (a1)), some (eI (a2)), some (eI (a3)), none, none]) (s2 := [eI (0)]) rfl rfl rfl ?_
      refine w_t (np := 24) (l2 := [some (eR a0), some (eI (a1)), some (eI (a2)), some (eI (a3)), some (eI (0)), none]) (s2 := []) rfl rfl rfl ?_
      refine w_t (np := 26) (l2 := [some (eR a0), some (eI (a1)), some (eI (a2)), some (eI (a3)), some (eI (0)), none]) (s2 := [eI (0)]) rfl rfl rfl ?_
      refine b_ieq (t1 := 33) (t2 := 29) rfl rfl rfl rfl (fun g5 => ?_) (fun g5 => absurd g5 (by decide))
      refine w_t (np := 34) (l2 := [some (eR a0), some (eI (a1)), some (eI (a2)), some (eI (a3)), some (eI (0)), none]) (s2 := [eI (a2)]) rfl rfl rfl ?_
      refine w_t (np := 35) (l2 := [some (eR a0), some (eI (a1)), some (eI (a2)), some (eI (a3)), some (eI (0)), none]) (s2 := [eI (3), eI (a2)]) rfl rfl rfl ?_
      obtain ⟨v6, e7⟩ : ∃ zz : Int, zz = (a2) + (3) := ⟨_, rfl⟩
      have b8 : 3 ≤ v6 ∧ v6 ≤ 6 := by omega
      refine w_t (np := 36) (l2 := [some (eR a0), some (eI (a1)), some (eI (a2)), some (eI (a3)), some (eI (0)), none]) (s2 := [eI (v6)]) rfl (b_iadd (by rw [← e7]; exact ev_w_in (by omega) (by omega))) rfl ?_
      refine w_t (np := 37) (l2 := [some (eR a0), some (eI (a1)), some (eI (a2)), some (eI (a3)), some (eI (0)), none]) (s2 := [eI (4), eI (v6)]) rfl rfl rfl ?_
      obtain ⟨v9, e10, b11⟩ := h_irem (a := v6) (k := 4) (by decide) (by decide) (show (-2147483648 : Int) ≤ v6 ∧ (v6 : Int) ≤ 2147483647 by omega)
      have b12 : 0 ≤ v9 ∧ v9 ≤ 3 := by omega
      refine w_t (np := 38) (l2 := [some (eR a0), some (eI (a1)), some (eI (a2)), some (eI (a3)), some (eI (0)), none]) (s2 := [eI (v9)]) rfl (e10 _ _) rfl ?_
      refine w_t (np := 40) (l2 := [some (eR a0), some (eI (a1)), some (eI (a2)), some (eI (a3)), some (eI (0)), some (eI (v9))]) (s2 := []) rfl rfl rfl ?_
      refine w_t (np := 41) (l2 := [some (eR a0), some (eI (a1)), some (eI (a2)), some (eI (a3)), some (eI (0)), some (eI (v9))]) (s2 := [eI (2)]) rfl rfl rfl ?_
      refine w_t (np := 43) (l2 := [some (eR a0), some (eI (a1)), some (eI (a2)), some (eI (a3)), some (eI (0)), some (eI (v9))]) (s2 := [eI (v9), eI (2)]) rfl rfl rfl ?_
      refine w_cu (np := 46) (as := [eI (v9)]) (l2 := [some (eI (v9))]) (rest := [eI (2)]) rfl rfl rfl (Nat.ble_eq.mp rfl) rfl rfl rfl rfl ?_
      refine w_t (np := 1) (l2 := [some (eI (v9))]) (s2 := [eI (v9)]) rfl rfl rfl ?_
      refine w_t (np := 2) (l2 := [some (eI (v9))]) (s2 := [eI (2), eI (v9)]) rfl rfl rfl ?_
      refine b_cge (t1 := 9) (t2 := 5) rfl rfl rfl (ev_w_in (by omega) (by omega)) rfl (fun g13 => ?_) (fun g13 => ?_)
      · have b14 : 2 ≤ v9 ∧ v9 ≤ 3 := by omega
        refine w_t (np := 10) (l2 := [some (eI (v9))]) (s2 := [eI (1)]) rfl rfl rfl ?_
        refine b_ri rfl rfl ?_
        show ex_q (dt_fg L ρ) rc (d + 2, (153, 46, [some (eR a0), some (eI (a1)), some (eI (a2)), some (eI (a3)), some (eI (0)), some (eI (v9))], [eI (1), eI (2)]), f :: F, μ)
        refine w_t (np := 47) (l2 := [some (eR a0), some (eI (a1)), some (eI (a2)), some (eI (a3)), some (eI (0)), some (eI (v9))]) (s2 := [eI (2)]) rfl (b_imul rfl) rfl ?_
        refine w_t (np := 48) (l2 := [some (eR a0), some (eI (a1)), some (eI (a2)), some (eI (a3)), some (eI (0)), some (eI (v9))]) (s2 := [eR a0, eI (2)]) rfl (s_an rfl (pos_g hI gA0 (by decide))) rfl ?_
        refine w_t (np := 49) (l2 := [some (eR a0), some (eI (a1)), some (eI (a2)), some (eI (a3)), some (eI (0)), some (eI (v9))]) (s2 := [eI (a1), eR a0, eI (2)]) rfl rfl rfl ?_
        refine w_t (np := 51) (l2 := [some (eR a0), some (eI (a1)), some (eI (a2)), some (eI (a3)), some (eI (0)), some (eI (v9))]) (s2 := [eI (v9), eI (a1), eR a0, eI (2)]) rfl rfl rfl ?_
        refine w_cw (np := 54) (as := [eI (a1), eI (v9)]) (l2 := [some (eR a0), some (eI (a1)), some (eI (v9)), none]) (rest := [eI (2)]) rfl rfl rfl (Nat.ble_eq.mp rfl) rfl rfl rfl (hI.kd gA0 (by decide) (n := 7) rfl) rfl ?_
        refine s_149 (a1 := a1) (a2 := v9) hI gA0 (by omega) (by omega) ?_
        intro v14 b15
        show ex_q (dt_fg L ρ) rc (d + 2, (153, 54, [some (eR a0), some (eI (a1)), some (eI (a2)), some (eI (a3)), some (eI (0)), some (eI (v9))], [eI (v14), eI (2)]), f :: F, μ)
        refine w_t (np := 56) (l2 := [some (eR a0), some (eI (a1)), some (eI (a2)), some (eI (a3)), some (eI (0)), some (eI (v9))]) (s2 := [eI (0), eI (v14), eI (2)]) rfl rfl rfl ?_
        refine b_cne (t1 := 63) (t2 := 59) rfl rfl rfl (ev_w_in (by omega) (by omega)) rfl (fun g16 => ?_) (fun g16 => ?_)
        · have b17 : 1 ≤ v14 ∧ v14 ≤ 1 := by omega
          refine w_t (np := 64) (l2 := [some (eR a0), some (eI (a1)), some (eI (a2)), some (eI (a3)), some (eI (0)), some (eI (v9))]) (s2 := [eI (1), eI (2)]) rfl rfl rfl ?_
          refine w_t (np := 65) (l2 := [some (eR a0), some (eI (a1)), some (eI (a2)), some (eI (a3)), some (eI (0)), some (eI (v9))]) (s2 := [eI (3)]) rfl (b_iadd rfl) rfl ?_
          exact b_ri rfl rfl (K (3) (by decide))
        · have b17 : 0 ≤ v14 ∧ v14 ≤ 0 := by omega
          refine w_t (np := 60) (l2 := [some (eR a0), some (eI (a1)), some (eI (a2)), some (eI (a3)), some (eI (0)), some (eI (v9))]) (s2 := [eI (0), eI (2)]) rfl rfl rfl ?_
          refine w_go (t1 := 64) rfl rfl ?_
          refine w_t (np := 65) (l2 := [some (eR a0), some (eI (a1)), some (eI (a2)), some (eI (a3)), some (eI (0)), some (eI (v9))]) (s2 := [eI (2)]) rfl (b_iadd rfl) rfl ?_
          exact b_ri rfl rfl (K (2) (by decide))
      · have b14 : 0 ≤ v9 ∧ v9 ≤ 1 := by omega
        refine w_t (np := 6) (l2 := [some (eI (v9))]) (s2 := [eI (0)]) rfl rfl rfl ?_
        refine w_go (t1 := 10) rfl rfl ?_
        refine b_ri rfl rfl ?_
        show ex_q (dt_fg L ρ) rc (d + 2, (153, 46, [some (eR a0), some (eI (a1)), some (eI (a2)), some (eI (a3)), some (eI (0)), some (eI (v9))], [eI (0), eI (2)]), f :: F, μ)
        refine w_t (np := 47) (l2 := [some (eR a0), some (eI (a1)), some (eI (a2)), some (eI (a3)), some (eI (0)), some (eI (v9))]) (s2 := [eI (0)]) rfl (b_imul rfl) rfl ?_
        refine w_t (np := 48) (l2 := [some (eR a0), some (eI (a1)), some (eI (a2)), some (eI (a3)), some (eI (0)), some (eI (v9))]) (s2 := [eR a0, eI (0)]) rfl (s_an rfl (pos_g hI gA0 (by decide))) rfl ?_
        refine w_t (np := 49) (l2 := [some (eR a0), some (eI (a1)), some (eI (a2)), some (eI (a3)), some (eI (0)), some (eI (v9))]) (s2 := [eI (a1), eR a0, eI (0)]) rfl rfl rfl ?_
        refine w_t (np := 51) (l2 := [some (eR a0), some (eI (a1)), some (eI (a2)), some (eI (a3)), some (eI (0)), some (eI (v9))]) (s2 := [eI (v9), eI (a1), eR a0, eI (0)]) rfl rfl rfl ?_
        refine w_cw (np := 54) (as := [eI (a1), eI (v9)]) (l2 := [some (eR a0), some (eI (a1)), some (eI (v9)), none]) (rest := [eI (0)]) rfl rfl rfl (Nat.ble_eq.mp rfl) rfl rfl rfl (hI.kd gA0 (by decide) (n := 7) rfl) rfl ?_
        refine s_149 (a1 := a1) (a2 := v9) hI gA0 (by omega) (by omega) ?_
        intro v14 b15
        show ex_q (dt_fg L ρ) rc (d + 2, (153, 54, [some (eR a0), some (eI (a1)), some (eI (a2)), some (eI (a3)), some (eI (0)), some (eI (v9))], [eI (v14), eI (0)]), f :: F, μ)
        refine w_t (np := 56) (l2 := [some (eR a0), some (eI (a1)), some (eI (a2)), some (eI (a3)), some (eI (0)), some (eI (v9))]) (s2 := [eI (0), eI (v14), eI (0)]) rfl rfl rfl ?_
        refine b_cne (t1 := 63) (t2 := 59) rfl rfl rfl (ev_w_in (by omega) (by omega)) rfl (fun g16 => ?_) (fun g16 => ?_)
        · have b17 : 1 ≤ v14 ∧ v14 ≤ 1 := by omega
          refine w_t (np := 64) (l2 := [some (eR a0), some (eI (a1)), some (eI (a2)), some (eI (a3)), some (eI (0)), some (eI (v9))]) (s2 := [eI (1), eI (0)]) rfl rfl rfl ?_
          refine w_t (np := 65) (l2 := [some (eR a0), some (eI (a1)), some (eI (a2)), some (eI (a3)), some (eI (0)), some (eI (v9))]) (s2 := [eI (1)]) rfl (b_iadd rfl) rfl ?_
          exact b_ri rfl rfl (K (1) (by decide))
        · have b17 : 0 ≤ v14 ∧ v14 ≤ 0 := by omega
          refine w_t (np := 60) (l2 := [some (eR a0), some (eI (a1)), some (eI (a2)), some (eI (a3)), some (eI (0)), some (eI (v9))]) (s2 := [eI (0), eI (0)]) rfl rfl rfl ?_
          refine w_go (t1 := 64) rfl rfl ?_
          refine w_t (np := 65) (l2 := [some (eR a0), some (eI (a1)), some (eI (a2)), some (eI (a3)), some (eI (0)), some (eI (v9))]) (s2 := [eI (0)]) rfl (b_iadd rfl) rfl ?_
          exact b_ri rfl rfl (K (0) (by decide))
    · have b5 : 0 ≤ a3 ∧ a3 ≤ 0 := by omega
      refine w_t (np := 18) (l2 := [some (eR a0), some (eI (a1)), some (eI (a2)), some (eI (a3)), none, none]) (s2 := [eI (1)]) rfl rfl rfl ?_
      refine w_go (t1 := 22) rfl rfl ?_
      refine w_t (np := 24) (l2 := [some (eR a0), some (eI (a1)), some (eI (a2)), some (eI (a3)), some (eI (1)), none]) (s2 := []) rfl rfl rfl ?_
      refine w_t (np := 26) (l2 := [some (eR a0), some (eI (a1)), some (eI (a2)), some (eI (a3)), some (eI (1)), none]) (s2 := [eI (1)]) rfl rfl rfl ?_
      refine b_ieq (t1 := 33) (t2 := 29) rfl rfl rfl rfl (fun g5 => absurd g5 (by decide)) (fun g5 => ?_)
      refine w_t (np := 30) (l2 := [some (eR a0), some (eI (a1)), some (eI (a2)), some (eI (a3)), some (eI (1)), none]) (s2 := [eI (a2)]) rfl rfl rfl ?_
      refine w_go (t1 := 38) rfl rfl ?_
      refine w_t (np := 40) (l2 := [some (eR a0), some (eI (a1)), some (eI (a2)), some (eI (a3)), some (eI (1)), some (eI (a2))]) (s2 := []) rfl rfl rfl ?_
      refine w_t (np := 41) (l2 := [some (eR a0), some (eI (a1)), some (eI (a2)), some (eI (a3)), some (eI (1)), some (eI (a2))]) (s2 := [eI (2)]) rfl rfl rfl ?_
      refine w_t (np := 43) (l2 := [some (eR a0), some (eI (a1)), some (eI (a2)), some (eI (a3)), some (eI (1)), some (eI (a2))]) (s2 := [eI (a2), eI (2)]) rfl rfl rfl ?_
      refine w_cu (np := 46) (as := [eI (a2)]) (l2 := [some (eI (a2))]) (rest := [eI (2)]) rfl rfl rfl (Nat.ble_eq.mp rfl) rfl rfl rfl rfl ?_
      refine w_t (np := 1) (l2 := [some (eI (a2))]) (s2 := [eI (a2)]) rfl rfl rfl ?_
      refine w_t (np := 2) (l2 := [some (eI (a2))]) (s2 := [eI (2), eI (a2)]) rfl rfl rfl ?_
      refine b_cge (t1 := 9) (t2 := 5) rfl rfl rfl (ev_w_in (by omega) (by omega)) rfl (fun g6 => ?_) (fun g6 => ?_)
      · have b7 : 2 ≤ a2 ∧ a2 ≤ 3 := by omega
        refine w_t (np := 10) (l2 := [some (eI (a2))]) (s2 := [eI (1)]) rfl rfl rfl ?_
        refine b_ri rfl rfl ?_
        show ex_q (dt_fg L ρ) rc (d + 2, (153, 46, [some (eR a0), some (eI (a1)), some (eI (a2)), some (eI (a3)), some (eI (1)), some (eI (a2))], [eI (1), eI (2)]), f :: F, μ)
        refine w_t (np := 47) (l2 := [some (eR a0), some (eI (a1)), some (eI (a2)), some (eI (a3)), some (eI (1)), some (eI (a2))]) (s2 := [eI (2)]) rfl (b_imul rfl) rfl ?_
        refine w_t (np := 48) (l2 := [some (eR a0), some (eI (a1)), some (eI (a2)), some (eI (a3)), some (eI (1)), some (eI (a2))]) (s2 := [eR a0, eI (2)]) rfl (s_an rfl (pos_g hI gA0 (by decide))) rfl ?_
        refine w_t (np := 49) (l2 := [some (eR a0), some (eI (a1)), some (eI (a2)), some (eI (a3)), some (eI (1)), some (eI (a2))]) (s2 := [eI (a1), eR a0, eI (2)]) rfl rfl rfl ?_
        refine w_t (np := 51) (l2 := [some (eR a0), some (eI (a1)), some (eI (a2)), some (eI (a3)), some (eI (1)), some (eI (a2))]) (s2 := [eI (a2), eI (a1), eR a0, eI (2)]) rfl rfl rfl ?_
        refine w_cw (np := 54) (as := [eI (a1), eI (a2)]) (l2 := [some (eR a0), some (eI (a1)), some (eI (a2)), none]) (rest := [eI (2)]) rfl rfl rfl (Nat.ble_eq.mp rfl) rfl rfl rfl (hI.kd gA0 (by decide) (n := 7) rfl) rfl ?_
        refine s_149 (a1 := a1) (a2 := a2) hI gA0 (by omega) (by omega) ?_
        intro v7 b8
        show ex_q (dt_fg L ρ) rc (d + 2, (153, 54, [some (eR a0), some (eI (a1)), some (eI (a2)), some (eI (a3)), some (eI (1)), some (eI (a2))], [eI (v7), eI (2)]), f :: F, μ)
        refine w_t (np := 56) (l2 := [some (eR a0), some (eI (a1)), some (eI (a2)), some (eI (a3)), some (eI (1)), some (eI (a2))]) (s2 := [eI (1), eI (v7), eI (2)]) rfl rfl rfl ?_
        refine b_cne (t1 := 63) (t2 := 59) rfl rfl rfl (ev_w_in (by omega) (by omega)) rfl (fun g9 => ?_) (fun g9 => ?_)
        · have b10 : 0 ≤ v7 ∧ v7 ≤ 0 := by omega
          refine w_t (np := 64) (l2 := [some (eR a0), some (eI (a1)), some (eI (a2)), some (eI (a3)), some (eI (1)), some (eI (a2))]) (s2 := [eI (1), eI (2)]) rfl rfl rfl ?_
          refine w_t (np := 65) (l2 := [some (eR a0), some (eI (a1)), some (eI (a2)), some (eI (a3)), some (eI (1)), some (eI (a2))]) (s2 := [eI (3)]) rfl (b_iadd rfl) rfl ?_
          exact b_ri rfl rfl (K (3) (by decide))
        · have b10 : 1 ≤ v7 ∧ v7 ≤ 1 := by omega
          refine w_t (np := 60) (l2 := [some (eR a0), some (eI (a1)), some (eI (a2)), some (eI (a3)), some (eI (1)), some (eI (a2))]) (s2 := [eI (0), eI (2)]) rfl rfl rfl ?_
          refine w_go (t1 := 64) rfl rfl ?_
          refine w_t (np := 65) (l2 := [some (eR a0), some (eI (a1)), some (eI (a2)), some (eI (a3)), some (eI (1)), some (eI (a2))]) (s2 := [eI (2)]) rfl (b_iadd rfl) rfl ?_
          exact b_ri rfl rfl (K (2) (by decide))
      · have b7 : 0 ≤ a2 ∧ a2 ≤ 1 := by omega
        refine w_t (np := 6) (l2 := [some (eI (a2))]) (s2 := [eI (0)]) rfl rfl rfl ?_
        refine w_go (t1 := 10) rfl rfl ?_
        refine b_ri rfl rfl ?_
        show ex_q (dt_fg L ρ) rc (d + 2, (153, 46, [some (eR a0), some (eI (a1)), some (eI (a2)), some (eI (a3)), some (eI (1)), some (eI (a2))], [eI (0), eI (2)]), f :: F, μ)
        refine w_t (np := 47) (l2 := [some (eR a0), some (eI (a1)), some (eI (a2)), some (eI (a3)), some (eI (1)), some (eI (a2))]) (s2 := [eI (0)]) rfl (b_imul rfl) rfl ?_
        refine w_t (np := 48) (l2 := [some (eR a0), some (eI (a1)), some (eI (a2)), some (eI (a3)), some (eI (1)), some (eI (a2))]) (s2 := [eR a0, eI (0)]) rfl (s_an rfl (pos_g hI gA0 (by decide))) rfl ?_
        refine w_t (np := 49) (l2 := [some (eR a0), some (eI (a1)), some (eI (a2)), some (eI (a3)), some (eI (1)), some (eI (a2))]) (s2 := [eI (a1), eR a0, eI (0)]) rfl rfl rfl ?_
        refine w_t (np := 51) (l2 := [some (eR a0), some (eI (a1)), some (eI (a2)), some (eI (a3)), some (eI (1)), some (eI (a2))]) (s2 := [eI (a2), eI (a1), eR a0, eI (0)]) rfl rfl rfl ?_
        refine w_cw (np := 54) (as := [eI (a1), eI (a2)]) (l2 := [some (eR a0), some (eI (a1)), some (eI (a2)), none]) (rest := [eI (0)]) rfl rfl rfl (Nat.ble_eq.mp rfl) rfl rfl rfl (hI.kd gA0 (by decide) (n := 7) rfl) rfl ?_
        refine s_149 (a1 := a1) (a2 := a2) hI gA0 (by omega) (by omega) ?_
        intro v7 b8
        show ex_q (dt_fg L ρ) rc (d + 2, (153, 54, [some (eR a0), some (eI (a1)), some (eI (a2)), some (eI (a3)), some (eI (1)), some (eI (a2))], [eI (v7), eI (0)]), f :: F, μ)
        refine w_t (np := 56) (l2 := [some (eR a0), some (eI (a1)), some (eI (a2)), some (eI (a3)), some (eI (1)), some (eI (a2))]) (s2 := [eI (1), eI (v7), eI (0)]) rfl rfl rfl ?_
        refine b_cne (t1 := 63) (t2 := 59) rfl rfl rfl (ev_w_in (by omega) (by omega)) rfl (fun g9 => ?_) (fun g9 => ?_)
        · have b10 : 0 ≤ v7 ∧ v7 ≤ 0 := by omega
          refine w_t (np := 64) (l2 := [some (eR a0), some (eI (a1)), some (eI (a2)), some (eI (a3)), some (eI (1)), some (eI (a2))]) (s2 := [eI (1), eI (0)]) rfl rfl rfl ?_
          refine w_t (np := 65) (l2 := [some (eR a0), some (eI (a1)), some (eI (a2)), some (eI (a3)), some (eI (1)), some (eI (a2))]) (s2 := [eI (1)]) rfl (b_iadd rfl) rfl ?_
          exact b_ri rfl rfl (K (1) (by decide))
        · have b10 : 1 ≤ v7 ∧ v7 ≤ 1 := by omega
          refine w_t (np := 60) (l2 := [some (eR a0), some (eI (a1)), some (eI (a2)), some (eI (a3)), some (eI (1)), some (eI (a2))]) (s2 := [eI (0), eI (0)]) rfl rfl rfl ?_
          refine w_go (t1 := 64) rfl rfl ?_
          refine w_t (np := 65) (l2 := [some (eR a0), some (eI (a1)), some (eI (a2)), some (eI (a3)), some (eI (1)), some (eI (a2))]) (s2 := [eI (0)]) rfl (b_iadd rfl) rfl ?_
          exact b_ri rfl rfl (K (0) (by decide))
theorem s_155 {L : Nat} {ρ : Nat → Int} {rc : eQ} {d : Nat} {f : eFr} {F : List eFr} {μ : eM} {g : Nat → Nat} {a0 : Nat} (hI : SI g μ) (gA0 : g a0 = 1) (K : ∀ (v : Int), (-2147483648 ≤ v ∧ v ≤ 2147483647) → ex_q (dt_fg L ρ) rc (d + 1, (f.1, f.2.1, f.2.2.1, eI v :: f.2.2.2), F, μ)) : ex_q (dt_fg L ρ) rc (d, (155, 0, [some (eR a0)], []), f :: F, μ) := by
  refine w_t (np := 1) (l2 := [some (eR a0)]) (s2 := [eR a0]) rfl (s_an rfl (pos_g hI gA0 (by decide))) rfl ?_
  refine j_gi (np := 4) rfl rfl rfl hI gA0 (by decide) (n := 14) rfl rfl (lo := -2147483648) (hi := 2147483647) rfl ?_
  intro v1 e2 b3
  exact b_ri rfl rfl (K (v1) (by omega))
def l_164 : List Nat := [270]
theorem s_164 {L : Nat} {ρ : Nat → Int} {rc : eQ} {d : Nat} {f : eFr} {F : List eFr} {μ : eM} {g : Nat → Nat} {a0 : Nat} {a1 : Int} {a2 : Int} {a3 : Int} (hI : SI g μ) (gA0 : g a0 = 1) (bA1 : -2147483648 ≤ a1 ∧ a1 ≤ 2147483647) (bA2 : -2147483648 ≤ a2 ∧ a2 ≤ 2147483647) (bA3 : -2147483648 ≤ a3 ∧ a3 ≤ 2147483647) (K : ∀ (μ2 : eM) (v : Int), SI g μ2 → Fr l_164 0 0 g μ μ2 → (-9223372036854775808 ≤ v ∧ v ≤ 9223372036854775807) → ex_q (dt_fg L ρ) rc (d + 2, (f.1, f.2.1, f.2.2.1, eJ v :: f.2.2.2), F, μ2)) : ex_q (dt_fg L ρ) rc (d + 1, (164, 0, [some (eR a0), some (eI (a1)), some (eI (a2)), some (eI (a3)), none, none, none, none, none, none, none], []), f :: F, μ) := by
  have F0 : Fr l_164 0 0 g μ μ := Fr.r
  refine w_t (np := 1) (l2 := [some (eR a0), some (eI (a1)), some (eI (a2)), some (eI (a3)), none, none, none, none, none, none, none]) (s2 := [eI (a2)]) rfl rfl rfl ?_
  refine b_ilt (t1 := 19) (t2 := 4) rfl rfl rfl (ev_w_in (by omega) (by omega)) (fun g1 => ?_) (fun g1 => ?_)
  · have b2 : -2147483648 ≤ a2 ∧ a2 ≤ -1 := by omega
    refine w_t (np := 20) (l2 := [some (eR a0), some (eI (a1)), some (eI (a2)), some (eI (a3)), none, none, none, none, none, none, none]) (s2 := [eR a0]) rfl (s_an rfl (pos_g hI gA0 (by decide))) rfl ?_
    refine w_t (np := 21) (l2 := [some (eR a0), some (eI (a1)), some (eI (a2)), some (eI (a3)), none, none, none, none, none, none, none]) (s2 := [eI (1), eR a0]) rfl rfl rfl ?_
    refine w_cw (np := 24) (as := [eI (1)]) (l2 := [some (eR a0), some (eI (1))]) (rest := []) rfl rfl rfl (Nat.ble_eq.mp rfl) rfl rfl rfl (hI.kd gA0 (by decide) (n := 14) rfl) rfl ?_
    refine w_t (np := 1) (l2 := [some (eR a0), some (eI (1))]) (s2 := [eR a0]) rfl (s_an rfl (pos_g hI gA0 (by decide))) rfl ?_
    refine w_t (np := 2) (l2 := [some (eR a0), some (eI (1))]) (s2 := [eI (1), eR a0]) rfl rfl rfl ?_
    refine j_pf (np := 5) (w := 1) rfl rfl hI gA0 (by decide) (n := 14) rfl rfl (hO_i (lo := -2147483648) (hi := 2147483647) rfl (by decide)) ?_
    intro m2 I3 W4
    have F5 : Fr l_164 0 0 g μ m2 := F0.w W4 gA0 rfl
    refine w_t (np := 6) (l2 := [some (eR a0), some (eI (1))]) (s2 := [eI (-1)]) rfl rfl rfl ?_
    refine b_ri rfl rfl ?_
    show ex_q (dt_fg L ρ) rc (d + 1, (164, 24, [some (eR a0), some (eI (a1)), some (eI (a2)), some (eI (a3)), none, none, none, none, none, none, none], [eI (-1)]), f :: F, m2)
    refine w_t (np := 25) (l2 := [some (eR a0), some (eI (a1)), some (eI (a2)), some (eI (a3)), none, none, none, none, none, none, none]) (s2 := [eJ (-1)]) rfl (b_i2l rfl) rfl ?_
    exact b_rl rfl rfl (K m2 (-1) I3 F5 (by decide))
  · have b2 : 0 ≤ a2 ∧ a2 ≤ 2147483647 := by omega
    refine w_t (np := 5) (l2 := [some (eR a0), some (eI (a1)), some (eI (a2)), some (eI (a3)), none, none, none, none, none, none, none]) (s2 := [eI (a2)]) rfl rfl rfl ?_
    refine w_t (np := 6) (l2 := [some (eR a0), some (eI (a1)), some (eI (a2)), some (eI (a3)), none, none, none, none, none, none, none]) (s2 := [eI (1), eI (a2)]) rfl rfl rfl ?_
    refine b_cgt (t1 := 19) (t2 := 9) rfl rfl rfl (ev_w_in (by omega) (by omega)) rfl (fun g2 => ?_) (fun g2 => ?_)
    · have b3 : 2 ≤ a2 ∧ a2 ≤ 2147483647 := by omega
      refine w_t (np := 20) (l2 := [some (eR a0), some (eI (a1)), some (eI (a2)), some (eI (a3)), none, none, none, none, none, none, none]) (s2 := [eR a0]) rfl (s_an rfl (pos_g hI gA0 (by decide))) rfl ?_
      refine w_t (np := 21) (l2 := [some (eR a0), some (eI (a1)), some (eI (a2)), some (eI (a3)), none, none, none, none, none, none, none]) (s2 := [eI (1), eR a0]) rfl rfl rfl ?_
      refine w_cw (np := 24) (as := [eI (1)]) (l2 := [some (eR a0), some (eI (1))]) (rest := []) rfl rfl rfl (Nat.ble_eq.mp rfl) rfl rfl rfl (hI.kd gA0 (by decide) (n := 14) rfl) rfl ?_
      refine w_t (np := 1) (l2 := [some (eR a0), some (eI (1))]) (s2 := [eR a0]) rfl (s_an rfl (pos_g hI gA0 (by decide))) rfl ?_
      refine w_t (np := 2) (l2 := [some (eR a0), some (eI (1))]) (s2 := [eI (1), eR a0]) rfl rfl rfl ?_
      refine j_pf (np := 5) (w := 1) rfl rfl hI gA0 (by decide) (n := 14) rfl rfl (hO_i (lo := -2147483648) (hi := 2147483647) rfl (by decide)) ?_
      intro m3 I4 W5
      have F6 : Fr l_164 0 0 g μ m3 := F0.w W5 gA0 rfl
      refine w_t (np := 6) (l2 := [some (eR a0), some (eI (1))]) (s2 := [eI (-1)]) rfl rfl rfl ?_
      refine b_ri rfl rfl ?_
      show ex_q (dt_fg L ρ) rc (d + 1, (164, 24, [some (eR a0), some (eI (a1)), some (eI (a2)), some (eI (a3)), none, none, none, none, none, none, none], [eI (-1)]), f :: F, m3)
      refine w_t (np := 25) (l2 := [some (eR a0), some (eI (a1)), some (eI (a2)), some (eI (a3)), none, none, none, none, none, none, none]) (s2 := [eJ (-1)]) rfl (b_i2l rfl) rfl ?_
      exact b_rl rfl rfl (K m3 (-1) I4 F6 (by decide))
    · have b3 : 0 ≤ a2 ∧ a2 ≤ 1 := by omega
      refine w_t (np := 10) (l2 := [some (eR a0), some (eI (a1)), some (eI (a2)), some (eI (a3)), none, none, none, none, none, none, none]) (s2 := [eI (a3)]) rfl rfl rfl ?_
      refine b_ilt (t1 := 19) (t2 := 13) rfl rfl rfl (ev_w_in (by omega) (by omega)) (fun g3 => ?_) (fun g3 => ?_)
      · have b4 : -2147483648 ≤ a3 ∧ a3 ≤ -1 := by omega
        refine w_t (np := 20) (l2 := [some (eR a0), some (eI (a1)), some (eI (a2)), some (eI (a3)), none, none, none, none, none, none, none]) (s2 := [eR a0]) rfl (s_an rfl (pos_g hI gA0 (by decide))) rfl ?_
        refine w_t (np := 21) (l2 := [some (eR a0), some (eI (a1)), some (eI (a2)), some (eI (a3)), none, none, none, none, none, none, none]) (s2 := [eI (1), eR a0]) rfl rfl rfl ?_
        refine w_cw (np := 24) (as := [eI (1)]) (l2 := [some (eR a0), some (eI (1))]) (rest := []) rfl rfl rfl (Nat.ble_eq.mp rfl) rfl rfl rfl (hI.kd gA0 (by decide) (n := 14) rfl) rfl ?_
        refine w_t (np := 1) (l2 := [some (eR a0), some (eI (1))]) (s2 := [eR a0]) rfl (s_an rfl (pos_g hI gA0 (by decide))) rfl ?_
        refine w_t (np := 2) (l2 := [some (eR a0), some (eI (1))]) (s2 := [eI (1), eR a0]) rfl rfl rfl ?_
        refine j_pf (np := 5) (w := 1) rfl rfl hI gA0 (by decide) (n := 14) rfl rfl (hO_i (lo := -2147483648) (hi := 2147483647) rfl (by decide)) ?_
        intro m4 I5 W6
        have F7 : Fr l_164 0 0 g μ m4 := F0.w W6 gA0 rfl
        refine w_t (np := 6) (l2 := [some (eR a0), some (eI (1))]) (s2 := [eI (-1)]) rfl rfl rfl ?_
        refine b_ri rfl rfl ?_
        show ex_q (dt_fg L ρ) rc (d + 1, (164, 24, [some (eR a0), some (eI (a1)), some (eI (a2)), some (eI (a3)), none, none, none, none, none, none, none], [eI (-1)]), f :: F, m4)
        refine w_t (np := 25) (l2 := [some (eR a0), some (eI (a1)), some (eI (a2)), some (eI (a3)), none, none, none, none, none, none, none]) (s2 := [eJ (-1)]) rfl (b_i2l rfl) rfl ?_
        exact b_rl rfl rfl (K m4 (-1) I5 F7 (by decide))
      · have b4 : 0 ≤ a3 ∧ a3 ≤ 2147483647 := by omega
        refine w_t (np := 14) (l2 := [some (eR a0), some (eI (a1)), some (eI (a2)), some (eI (a3)), none, none, none, none, none, none, none]) (s2 := [eI (a3)]) rfl rfl rfl ?_
        refine w_t (np := 16) (l2 := [some (eR a0), some (eI (a1)), some (eI (a2)), some (eI (a3)), none, none, none, none, none, none, none]) (s2 := [eI (40), eI (a3)]) rfl rfl rfl ?_
        refine b_cle (t1 := 26) (t2 := 19) rfl rfl rfl (ev_w_in (by omega) (by omega)) rfl (fun g4 => ?_) (fun g4 => ?_)
        · have b5 : 0 ≤ a3 ∧ a3 ≤ 40 := by omega
          refine w_t (np := 27) (l2 := [some (eR a0), some (eI (a1)), some (eI (a2)), some (eI (a3)), none, none, none, none, none, none, none]) (s2 := [eR a0]) rfl (s_an rfl (pos_g hI gA0 (by decide))) rfl ?_
          refine j_gr (np := 30) rfl rfl hI gA0 (by decide) (n := 14) rfl rfl rfl ?_
          intro v5 e6 b7 z8
          rcases hor2 b7 with b7 | b7
          · refine w_t (np := 31) (l2 := [some (eR a0), some (eI (a1)), some (eI (a2)), some (eI (a3)), none, none, none, none, none, none, none]) (s2 := [eI (a1), eR v5]) rfl rfl rfl ?_
            refine w_cw (np := 34) (as := [eI (a1)]) (l2 := [some (eR v5), some (eI (a1))]) (rest := []) rfl rfl rfl (Nat.ble_eq.mp rfl) rfl rfl rfl (hI.kd b7 (by decide) (n := 8) rfl) rfl ?_
            refine w_t (np := 1) (l2 := [some (eR v5), some (eI (a1))]) (s2 := [eI (a1)]) rfl rfl rfl ?_
            refine b_ilt (t1 := 12) (t2 := 4) rfl rfl rfl (ev_w_in (by omega) (by omega)) (fun g9 => ?_) (fun g9 => ?_)
            · have b10 : -2147483648 ≤ a1 ∧ a1 ≤ -1 := by omega
              refine w_t (np := 13) (l2 := [some (eR v5), some (eI (a1))]) (s2 := [eI (1)]) rfl rfl rfl ?_
              refine w_go (t1 := 17) rfl rfl ?_
              refine b_rz rfl rfl (Or.inr rfl) ?_
              show ex_q (dt_fg L ρ) rc (d + 1, (164, 34, [some (eR a0), some (eI (a1)), some (eI (a2)), some (eI (a3)), none, none, none, none, none, none, none], [eI (1)]), f :: F, μ)
              refine b_ieq (t1 := 44) (t2 := 37) rfl rfl rfl rfl (fun g10 => absurd g10 (by decide)) (fun g10 => ?_)
              refine w_t (np := 38) (l2 := [some (eR a0), some (eI (a1)), some (eI (a2)), some (eI (a3)), none, none, none, none, none, none, none]) (s2 := [eR a0]) rfl (s_an rfl (pos_g hI gA0 (by decide))) rfl ?_
              refine w_t (np := 39) (l2 := [some (eR a0), some (eI (a1)), some (eI (a2)), some (eI (a3)), none, none, none, none, none, none, none]) (s2 := [eI (2), eR a0]) rfl rfl rfl ?_
              refine w_cw (np := 42) (as := [eI (2)]) (l2 := [some (eR a0), some (eI (2))]) (rest := []) rfl rfl rfl (Nat.ble_eq.mp rfl) rfl rfl rfl (hI.kd gA0 (by decide) (n := 14) rfl) rfl ?_
              refine w_t (np := 1) (l2 := [some (eR a0), some (eI (2))]) (s2 := [eR a0]) rfl (s_an rfl (pos_g hI gA0 (by decide))) rfl ?_
              refine w_t (np := 2) (l2 := [some (eR a0), some (eI (2))]) (s2 := [eI (2), eR a0]) rfl rfl rfl ?_
              refine j_pf (np := 5) (w := 2) rfl rfl hI gA0 (by decide) (n := 14) rfl rfl (hO_i (lo := -2147483648) (hi := 2147483647) rfl (by decide)) ?_
              intro m11 I12 W13
              have F14 : Fr l_164 0 0 g μ m11 := F0.w W13 gA0 rfl
              refine w_t (np := 6) (l2 := [some (eR a0), some (eI (2))]) (s2 := [eI (-1)]) rfl rfl rfl ?_
              refine b_ri rfl rfl ?_
              show ex_q (dt_fg L ρ) rc (d + 1, (164, 42, [some (eR a0), some (eI (a1)), some (eI (a2)), some (eI (a3)), none, none, none, none, none, none, none], [eI (-1)]), f :: F, m11)
              refine w_t (np := 43) (l2 := [some (eR a0), some (eI (a1)), some (eI (a2)), some (eI (a3)), none, none, none, none, none, none, none]) (s2 := [eJ (-1)]) rfl (b_i2l rfl) rfl ?_
              exact b_rl rfl rfl (K m11 (-1) I12 F14 (by decide))
            · have b10 : 0 ≤ a1 ∧ a1 ≤ 2147483647 := by omega
              refine w_t (np := 5) (l2 := [some (eR v5), some (eI (a1))]) (s2 := [eI (a1)]) rfl rfl rfl ?_
              refine w_t (np := 6) (l2 := [some (eR v5), some (eI (a1))]) (s2 := [eR v5, eI (a1)]) rfl (s_an rfl (pos_g hI b7 (by decide))) rfl ?_
              refine j_gi (np := 9) rfl rfl rfl hI b7 (by decide) (n := 8) rfl rfl (lo := 0) (hi := 50) rfl ?_
              intro v10 e11 b12
              refine b_clt (t1 := 16) (t2 := 12) rfl rfl rfl (ev_w_in (by omega) (by omega)) (ev_w_in (by omega) (by omega)) (fun g13 => ?_) (fun g13 => ?_)
              · have b14 : 0 ≤ a1 ∧ a1 ≤ 49 := by omega
                have b15 : 1 ≤ v10 ∧ v10 ≤ 50 := by omega
                refine w_t (np := 17) (l2 := [some (eR v5), some (eI (a1))]) (s2 := [eI (0)]) rfl rfl rfl ?_
                refine b_rz rfl rfl (Or.inl rfl) ?_
                show ex_q (dt_fg L ρ) rc (d + 1, (164, 34, [some (eR a0), some (eI (a1)), some (eI (a2)), some (eI (a3)), none, none, none, none, none, none, none], [eI (0)]), f :: F, μ)
                refine b_ieq (t1 := 44) (t2 := 37) rfl rfl rfl rfl (fun g14 => ?_) (fun g14 => absurd g14 (by decide))
                refine w_t (np := 45) (l2 := [some (eR a0), some (eI (a1)), some (eI (a2)), some (eI (a3)), none, none, none, none, none, none, none]) (s2 := [eI (1)]) rfl rfl rfl ?_
                refine w_t (np := 46) (l2 := [some (eR a0), some (eI (a1)), some (eI (a2)), some (eI (a3)), none, none, none, none, none, none, none]) (s2 := [eR a0, eI (1)]) rfl (s_an rfl (pos_g hI gA0 (by decide))) rfl ?_
                refine w_gf (np := 49) (v := eR v5) rfl rfl (hI.kd gA0 (by decide) (n := 14) rfl) (by rw [e6]; rfl) ?_
                refine w_t (np := 50) (l2 := [some (eR a0), some (eI (a1)), some (eI (a2)), some (eI (a3)), none, none, none, none, none, none, none]) (s2 := [eI (a1), eR v5, eI (1)]) rfl rfl rfl ?_
                refine w_cw (np := 53) (as := [eI (a1)]) (l2 := [some (eR v5), some (eI (a1))]) (rest := [eI (1)]) rfl rfl rfl (Nat.ble_eq.mp rfl) rfl rfl rfl (hI.kd b7 (by decide) (n := 8) rfl) rfl ?_
                refine s_19 (a1 := a1) hI b7 (by omega) ?_
                intro v15 b16
                show ex_q (dt_fg L ρ) rc (d + 1, (164, 53, [some (eR a0), some (eI (a1)), some (eI (a2)), some (eI (a3)), none, none, none, none, none, none, none], [eI (v15), eI (1)]), f :: F, μ)
                obtain ⟨v17, e18⟩ : ∃ zz : Int, zz = (1) - (v15) := ⟨_, rfl⟩
                have b19 : 0 ≤ v17 ∧ v17 ≤ 1 := by omega
                refine w_t (np := 54) (l2 := [some (eR a0), some (eI (a1)), some (eI (a2)), some (eI (a3)), none, none, none, none, none, none, none]) (s2 := [eI (v17)]) rfl (b_isub (by rw [← e18]; exact ev_w_in (by omega) (by omega))) rfl ?_
                refine w_t (np := 55) (l2 := [some (eR a0), some (eI (a1)), some (eI (a2)), some (eI (a3)), none, none, none, none, none, none, none]) (s2 := [eJ (v17)]) rfl (b_i2l (ev_w_in (by omega) (by omega))) rfl ?_
                refine w_t (np := 57) (l2 := [some (eR a0), some (eI (a1)), some (eI (a2)), some (eI (a3)), some (eJ (v17)), none, none, none, none, none, none]) (s2 := []) rfl rfl rfl ?_
                refine w_t (np := 58) (l2 := [some (eR a0), some (eI (a1)), some (eI (a2)), some (eI (a3)), some (eJ (v17)), none, none, none, none, none, none]) (s2 := [eR a0]) rfl (s_an rfl (pos_g hI gA0 (by decide))) rfl ?_
                refine w_gf (np := 61) (v := eR v5) rfl rfl (hI.kd gA0 (by decide) (n := 14) rfl) (by rw [e6]; rfl) ?_
                refine w_t (np := 62) (l2 := [some (eR a0), some (eI (a1)), some (eI (a2)), some (eI (a3)), some (eJ (v17)), none, none, none, none, none, none]) (s2 := [eI (a1), eR v5]) rfl rfl rfl ?_
                refine w_cw (np := 65) (as := [eI (a1)]) (l2 := [some (eR v5), some (eI (a1))]) (rest := []) rfl rfl rfl (Nat.ble_eq.mp rfl) rfl rfl rfl (hI.kd b7 (by decide) (n := 8) rfl) rfl ?_
                refine s_19 (a1 := a1) hI b7 (by omega) ?_
                intro v20 b21
                show ex_q (dt_fg L ρ) rc (d + 1, (164, 65, [some (eR a0), some (eI (a1)), some (eI (a2)), some (eI (a3)), some (eJ (v17)), none, none, none, none, none, none], [eI (v20)]), f :: F, μ)
                refine w_t (np := 66) (l2 := [some (eR a0), some (eI (a1)), some (eI (a2)), some (eI (a3)), some (eJ (v17)), none, none, none, none, none, none]) (s2 := [eJ (v20)]) rfl (b_i2l (ev_w_in (by omega) (by omega))) rfl ?_
                refine w_t (np := 68) (l2 := [some (eR a0), some (eI (a1)), some (eI (a2)), some (eI (a3)), some (eJ (v17)), none, some (eJ (v20)), none, none, none, none]) (s2 := []) rfl rfl rfl ?_
                refine w_t (np := 69) (l2 := [some (eR a0), some (eI (a1)), some (eI (a2)), some (eI (a3)), some (eJ (v17)), none, some (eJ (v20)), none, none, none, none]) (s2 := [eI (0)]) rfl rfl rfl ?_
                refine w_t (np := 71) (l2 := [some (eR a0), some (eI (a1)), some (eI (a2)), some (eI (a3)), some (eJ (v17)), none, some (eJ (v20)), none, some (eI (0)), none, none]) (s2 := []) rfl rfl rfl ?_
                have hL71 : ∀ (n22 : Nat) (m31 : eM) (i24 : Int) (i26 : Int) (i28 : Int) (o30 : Option eV), SI g m31 → Fr l_164 0 0 g μ m31 → (-9223372036854775808 ≤ i24 ∧ i24 ≤ 9223372036854775807) → (-9223372036854775808 ≤ i26 ∧ i26 ≤ 9223372036854775807) → (0 ≤ i28 ∧ i28 ≤ 63) → m31.1 a0 0 = ((v5 : Nat) : Int) → m31.1 v5 7 = v10 → n22 = (63 - i28).toNat → ex_q (dt_fg L ρ) rc (d + 1, (164, 71, [some (eR a0), some (eI (a1)), some (eI (a2)), some (eI (a3)), some (eJ (i24)), none, some (eJ (i26)), none, some (eI (i28)), o30, none], []), f :: F, m31) := by
                  intro n22
                  induction n22 using Nat.strongRecOn with
                  | _ n22 ih23 =>
                  intro m31 i24 i26 i28 o30 I32 F33 b25 b27 b29 k34 k35 hn36
                  refine w_t (np := 73) (l2 := [some (eR a0), some (eI (a1)), some (eI (a2)), some (eI (a3)), some (eJ (i24)), none, some (eJ (i26)), none, some (eI (i28)), o30, none]) (s2 := [eI (i28)]) rfl rfl rfl ?_
                  refine w_t (np := 74) (l2 := [some (eR a0), some (eI (a1)), some (eI (a2)), some (eI (a3)), some (eJ (i24)), none, some (eJ (i26)), none, some (eI (i28)), o30, none]) (s2 := [eI (a3), eI (i28)]) rfl rfl rfl ?_
                  refine b_cge (t1 := 101) (t2 := 77) rfl rfl rfl (ev_w_in (by omega) (by omega)) (ev_w_in (by omega) (by omega)) (fun g37 => ?_) (fun g37 => ?_)
                  · refine w_t (np := 102) (l2 := [some (eR a0), some (eI (a1)), some (eI (a2)), some (eI (a3)), some (eJ (i24)), none, some (eJ (i26)), none, some (eI (i28)), o30, none]) (s2 := [eR a0]) rfl (s_an rfl (pos_g I32 gA0 (by decide))) rfl ?_
                    refine w_t (np := 103) (l2 := [some (eR a0), some (eI (a1)), some (eI (a2)), some (eI (a3)), some (eJ (i24)), none, some (eJ (i26)), none, some (eI (i28)), o30, none]) (s2 := [eI (0), eR a0]) rfl rfl rfl ?_
                    refine j_pf (np := 106) (w := 0) rfl rfl I32 gA0 (by decide) (n := 14) rfl rfl (hO_i (lo := -2147483648) (hi := 2147483647) rfl (by decide)) ?_
                    intro m38 I39 W40
                    have F41 : Fr l_164 0 0 g μ m38 := F33.w W40 gA0 rfl
                    refine w_t (np := 107) (l2 := [some (eR a0), some (eI (a1)), some (eI (a2)), some (eI (a3)), some (eJ (i24)), none, some (eJ (i26)), none, some (eI (i28)), o30, none]) (s2 := [eI (a2)]) rfl rfl rfl ?_
                    refine b_ine (t1 := 115) (t2 := 110) rfl rfl rfl (ev_w_in (by omega) (by omega)) (fun g42 => ?_) (fun g42 => ?_)
                    · have b43 : 1 ≤ a2 ∧ a2 ≤ 1 := by omega
                      refine w_t (np := 117) (l2 := [some (eR a0), some (eI (a1)), some (eI (a2)), some (eI (a3)), some (eJ (i24)), none, some (eJ (i26)), none, some (eI (i28)), o30, none]) (s2 := [eJ (i26)]) rfl rfl rfl ?_
                      exact b_rl rfl rfl (K m38 (i26) I39 F41 (by omega))
                    · have b43 : 0 ≤ a2 ∧ a2 ≤ 0 := by omega
                      refine w_t (np := 112) (l2 := [some (eR a0), some (eI (a1)), some (eI (a2)), some (eI (a3)), some (eJ (i24)), none, some (eJ (i26)), none, some (eI (i28)), o30, none]) (s2 := [eJ (i24)]) rfl rfl rfl ?_
                      refine w_go (t1 := 117) rfl rfl ?_
                      exact b_rl rfl rfl (K m38 (i24) I39 F41 (by omega))
                  · have b38 : 0 ≤ i28 ∧ i28 ≤ 39 := by omega
                    have b39 : 1 ≤ a3 ∧ a3 ≤ 40 := by omega
                    refine w_t (np := 79) (l2 := [some (eR a0), some (eI (a1)), some (eI (a2)), some (eI (a3)), some (eJ (i24)), none, some (eJ (i26)), none, some (eI (i28)), o30, none]) (s2 := [eJ (i24)]) rfl rfl rfl ?_
                    refine w_t (np := 81) (l2 := [some (eR a0), some (eI (a1)), some (eI (a2)), some (eI (a3)), some (eJ (i24)), none, some (eJ (i26)), none, some (eI (i28)), o30, none]) (s2 := [eJ (i26), eJ (i24)]) rfl rfl rfl ?_
                    obtain ⟨v38, e39, b40⟩ : ∃ zz : Int, ev_W ((i24) + (i26)) = zz ∧ (-9223372036854775808 ≤ zz ∧ zz ≤ 9223372036854775807) := ⟨_, rfl, hW_bd _⟩
                    refine w_t (np := 82) (l2 := [some (eR a0), some (eI (a1)), some (eI (a2)), some (eI (a3)), some (eJ (i24)), none, some (eJ (i26)), none, some (eI (i28)), o30, none]) (s2 := [eJ (v38)]) rfl (b_ladd e39) rfl ?_
                    refine w_t (np := 84) (l2 := [some (eR a0), some (eI (a1)), some (eI (a2)), some (eI (a3)), some (eJ (i24)), none, some (eJ (i26)), none, some (eI (i28)), some (eJ (v38)), none]) (s2 := []) rfl rfl rfl ?_
                    refine w_t (np := 86) (l2 := [some (eR a0), some (eI (a1)), some (eI (a2)), some (eI (a3)), some (eJ (i24)), none, some (eJ (i26)), none, some (eI (i28)), some (eJ (v38)), none]) (s2 := [eJ (v38)]) rfl rfl rfl ?_
                    refine w_t (np := 88) (l2 := [some (eR a0), some (eI (a1)), some (eI (a2)), some (eI (a3)), some (eJ (i24)), none, some (eJ (i26)), none, some (eI (i28)), some (eJ (v38)), none]) (s2 := [eJ (i26), eJ (v38)]) rfl rfl rfl ?_
                    obtain ⟨v41, e42, b43⟩ : ∃ zz : Int, ev_W ((v38) + (i26)) = zz ∧ (-9223372036854775808 ≤ zz ∧ zz ≤ 9223372036854775807) := ⟨_, rfl, hW_bd _⟩
                    refine w_t (np := 89) (l2 := [some (eR a0), some (eI (a1)), some (eI (a2)), some (eI (a3)), some (eJ (i24)), none, some (eJ (i26)), none, some (eI (i28)), some (eJ (v38)), none]) (s2 := [eJ (v41)]) rfl (b_ladd e42) rfl ?_
                    refine w_t (np := 91) (l2 := [some (eR a0), some (eI (a1)), some (eI (a2)), some (eI (a3)), some (eJ (i24)), none, some (eJ (v41)), none, some (eI (i28)), some (eJ (v38)), none]) (s2 := []) rfl rfl rfl ?_
                    refine w_t (np := 93) (l2 := [some (eR a0), some (eI (a1)), some (eI (a2)), some (eI (a3)), some (eJ (i24)), none, some (eJ (v41)), none, some (eI (i28)), some (eJ (v38)), none]) (s2 := [eJ (v38)]) rfl rfl rfl ?_
                    refine w_t (np := 95) (l2 := [some (eR a0), some (eI (a1)), some (eI (a2)), some (eI (a3)), some (eJ (v38)), none, some (eJ (v41)), none, some (eI (i28)), some (eJ (v38)), none]) (s2 := []) rfl rfl rfl ?_
                    obtain ⟨v44, e45⟩ : ∃ zz : Int, zz = (i28) + (1) := ⟨_, rfl⟩
                    have b46 : 1 ≤ v44 ∧ v44 ≤ 40 := by omega
                    refine w_t (np := 98) (l2 := [some (eR a0), some (eI (a1)), some (eI (a2)), some (eI (a3)), some (eJ (v38)), none, some (eJ (v41)), none, some (eI (v44)), some (eJ (v38)), none]) (s2 := []) rfl (b_iinc rfl (by rw [← e45]; exact ev_w_in (by omega) (by omega)) rfl) rfl ?_
                    refine w_go (t1 := 71) rfl rfl ?_
                    exact ih23 (63 - (v44)).toNat (by omega) m31 (v38) (v41) (v44) (some (eJ (v38))) I32 F33 (by omega) (by omega) (by omega) k34 k35    rfl
                exact hL71 _ μ (v17) (v20) (0) (none) hI F0 (by omega) (by omega) (by decide) e6 e11    rfl
              · refine w_t (np := 13) (l2 := [some (eR v5), some (eI (a1))]) (s2 := [eI (1)]) rfl rfl rfl ?_
                refine w_go (t1 := 17) rfl rfl ?_
                refine b_rz rfl rfl (Or.inr rfl) ?_
                show ex_q (dt_fg L ρ) rc (d + 1, (164, 34, [some (eR a0), some (eI (a1)), some (eI (a2)), some (eI (a3)), none, none, none, none, none, none, none], [eI (1)]), f :: F, μ)
                refine b_ieq (t1 := 44) (t2 := 37) rfl rfl rfl rfl (fun g14 => absurd g14 (by decide)) (fun g14 => ?_)
                refine w_t (np := 38) (l2 := [some (eR a0), some (eI (a1)), some (eI (a2)), some (eI (a3)), none, none, none, none, none, none, none]) (s2 := [eR a0]) rfl (s_an rfl (pos_g hI gA0 (by decide))) rfl ?_
                refine w_t (np := 39) (l2 := [some (eR a0), some (eI (a1)), some (eI (a2)), some (eI (a3)), none, none, none, none, none, none, none]) (s2 := [eI (2), eR a0]) rfl rfl rfl ?_
                refine w_cw (np := 42) (as := [eI (2)]) (l2 := [some (eR a0), some (eI (2))]) (rest := []) rfl rfl rfl (Nat.ble_eq.mp rfl) rfl rfl rfl (hI.kd gA0 (by decide) (n := 14) rfl) rfl ?_
                refine w_t (np := 1) (l2 := [some (eR a0), some (eI (2))]) (s2 := [eR a0]) rfl (s_an rfl (pos_g hI gA0 (by decide))) rfl ?_
                refine w_t (np := 2) (l2 := [some (eR a0), some (eI (2))]) (s2 := [eI (2), eR a0]) rfl rfl rfl ?_
                refine j_pf (np := 5) (w := 2) rfl rfl hI gA0 (by decide) (n := 14) rfl rfl (hO_i (lo := -2147483648) (hi := 2147483647) rfl (by decide)) ?_
                intro m15 I16 W17
                have F18 : Fr l_164 0 0 g μ m15 := F0.w W17 gA0 rfl
                refine w_t (np := 6) (l2 := [some (eR a0), some (eI (2))]) (s2 := [eI (-1)]) rfl rfl rfl ?_
                refine b_ri rfl rfl ?_
                show ex_q (dt_fg L ρ) rc (d + 1, (164, 42, [some (eR a0), some (eI (a1)), some (eI (a2)), some (eI (a3)), none, none, none, none, none, none, none], [eI (-1)]), f :: F, m15)
                refine w_t (np := 43) (l2 := [some (eR a0), some (eI (a1)), some (eI (a2)), some (eI (a3)), none, none, none, none, none, none, none]) (s2 := [eJ (-1)]) rfl (b_i2l rfl) rfl ?_
                exact b_rl rfl rfl (K m15 (-1) I16 F18 (by decide))
          · refine w_t (np := 31) (l2 := [some (eR a0), some (eI (a1)), some (eI (a2)), some (eI (a3)), none, none, none, none, none, none, none]) (s2 := [eI (a1), eR v5]) rfl rfl rfl ?_
            refine w_cw (np := 34) (as := [eI (a1)]) (l2 := [some (eR v5), some (eI (a1))]) (rest := []) rfl rfl rfl (Nat.ble_eq.mp rfl) rfl rfl rfl (hI.kd b7 (by decide) (n := 8) rfl) rfl ?_
            refine w_t (np := 1) (l2 := [some (eR v5), some (eI (a1))]) (s2 := [eI (a1)]) rfl rfl rfl ?_
            refine b_ilt (t1 := 12) (t2 := 4) rfl rfl rfl (ev_w_in (by omega) (by omega)) (fun g9 => ?_) (fun g9 => ?_)
            · have b10 : -2147483648 ≤ a1 ∧ a1 ≤ -1 := by omega
              refine w_t (np := 13) (l2 := [some (eR v5), some (eI (a1))]) (s2 := [eI (1)]) rfl rfl rfl ?_
              refine w_go (t1 := 17) rfl rfl ?_
              refine b_rz rfl rfl (Or.inr rfl) ?_
              show ex_q (dt_fg L ρ) rc (d + 1, (164, 34, [some (eR a0), some (eI (a1)), some (eI (a2)), some (eI (a3)), none, none, none, none, none, none, none], [eI (1)]), f :: F, μ)
              refine b_ieq (t1 := 44) (t2 := 37) rfl rfl rfl rfl (fun g10 => absurd g10 (by decide)) (fun g10 => ?_)
              refine w_t (np := 38) (l2 := [some (eR a0), some (eI (a1)), some (eI (a2)), some (eI (a3)), none, none, none, none, none, none, none]) (s2 := [eR a0]) rfl (s_an rfl (pos_g hI gA0 (by decide))) rfl ?_
              refine w_t (np := 39) (l2 := [some (eR a0), some (eI (a1)), some (eI (a2)), some (eI (a3)), none, none, none, none, none, none, none]) (s2 := [eI (2), eR a0]) rfl rfl rfl ?_
              refine w_cw (np := 42) (as := [eI (2)]) (l2 := [some (eR a0), some (eI (2))]) (rest := []) rfl rfl rfl (Nat.ble_eq.mp rfl) rfl rfl rfl (hI.kd gA0 (by decide) (n := 14) rfl) rfl ?_
              refine w_t (np := 1) (l2 := [some (eR a0), some (eI (2))]) (s2 := [eR a0]) rfl (s_an rfl (pos_g hI gA0 (by decide))) rfl ?_
              refine w_t (np := 2) (l2 := [some (eR a0), some (eI (2))]) (s2 := [eI (2), eR a0]) rfl rfl rfl ?_
              refine j_pf (np := 5) (w := 2) rfl rfl hI gA0 (by decide) (n := 14) rfl rfl (hO_i (lo := -2147483648) (hi := 2147483647) rfl (by decide)) ?_
              intro m11 I12 W13
              have F14 : Fr l_164 0 0 g μ m11 := F0.w W13 gA0 rfl
              refine w_t (np := 6) (l2 := [some (eR a0), some (eI (2))]) (s2 := [eI (-1)]) rfl rfl rfl ?_
              refine b_ri rfl rfl ?_
              show ex_q (dt_fg L ρ) rc (d + 1, (164, 42, [some (eR a0), some (eI (a1)), some (eI (a2)), some (eI (a3)), none, none, none, none, none, none, none], [eI (-1)]), f :: F, m11)
              refine w_t (np := 43) (l2 := [some (eR a0), some (eI (a1)), some (eI (a2)), some (eI (a3)), none, none, none, none, none, none, none]) (s2 := [eJ (-1)]) rfl (b_i2l rfl) rfl ?_
              exact b_rl rfl rfl (K m11 (-1) I12 F14 (by decide))
            · have b10 : 0 ≤ a1 ∧ a1 ≤ 2147483647 := by omega
              refine w_t (np := 5) (l2 := [some (eR v5), some (eI (a1))]) (s2 := [eI (a1)]) rfl rfl rfl ?_
              refine w_t (np := 6) (l2 := [some (eR v5), some (eI (a1))]) (s2 := [eR v5, eI (a1)]) rfl (s_an rfl (pos_g hI b7 (by decide))) rfl ?_
              refine j_gi (np := 9) rfl rfl rfl hI b7 (by decide) (n := 8) rfl rfl (lo := 0) (hi := 890) rfl ?_
              intro v10 e11 b12
              refine b_clt (t1 := 16) (t2 := 12) rfl rfl rfl (ev_w_in (by omega) (by omega)) (ev_w_in (by omega) (by omega)) (fun g13 => ?_) (fun g13 => ?_)
              · have b14 : 0 ≤ a1 ∧ a1 ≤ 889 := by omega
                have b15 : 1 ≤ v10 ∧ v10 ≤ 890 := by omega
                refine w_t (np := 17) (l2 := [some (eR v5), some (eI (a1))]) (s2 := [eI (0)]) rfl rfl rfl ?_
                refine b_rz rfl rfl (Or.inl rfl) ?_
                show ex_q (dt_fg L ρ) rc (d + 1, (164, 34, [some (eR a0), some (eI (a1)), some (eI (a2)), some (eI (a3)), none, none, none, none, none, none, none], [eI (0)]), f :: F, μ)
                refine b_ieq (t1 := 44) (t2 := 37) rfl rfl rfl rfl (fun g14 => ?_) (fun g14 => absurd g14 (by decide))
                refine w_t (np := 45) (l2 := [some (eR a0), some (eI (a1)), some (eI (a2)), some (eI (a3)), none, none, none, none, none, none, none]) (s2 := [eI (1)]) rfl rfl rfl ?_
                refine w_t (np := 46) (l2 := [some (eR a0), some (eI (a1)), some (eI (a2)), some (eI (a3)), none, none, none, none, none, none, none]) (s2 := [eR a0, eI (1)]) rfl (s_an rfl (pos_g hI gA0 (by decide))) rfl ?_
                refine w_gf (np := 49) (v := eR v5) rfl rfl (hI.kd gA0 (by decide) (n := 14) rfl) (by rw [e6]; rfl) ?_
                refine w_t (np := 50) (l2 := [some (eR a0), some (eI (a1)), some (eI (a2)), some (eI (a3)), none, none, none, none, none, none, none]) (s2 := [eI (a1), eR v5, eI (1)]) rfl rfl rfl ?_
                refine w_cw (np := 53) (as := [eI (a1)]) (l2 := [some (eR v5), some (eI (a1))]) (rest := [eI (1)]) rfl rfl rfl (Nat.ble_eq.mp rfl) rfl rfl rfl (hI.kd b7 (by decide) (n := 8) rfl) rfl ?_
                refine s_19_2 (a1 := a1) hI b7 (by omega) ?_
                intro v15 b16
                show ex_q (dt_fg L ρ) rc (d + 1, (164, 53, [some (eR a0), some (eI (a1)), some (eI (a2)), some (eI (a3)), none, none, none, none, none, none, none], [eI (v15), eI (1)]), f :: F, μ)
                obtain ⟨v17, e18⟩ : ∃ zz : Int, zz = (1) - (v15) := ⟨_, rfl⟩
                have b19 : 0 ≤ v17 ∧ v17 ≤ 1 := by omega
                refine w_t (np := 54) (l2 := [some (eR a0), some (eI (a1)), some (eI (a2)), some (eI (a3)), none, none, none, none, none, none, none]) (s2 := [eI (v17)]) rfl (b_isub (by rw [← e18]; exact ev_w_in (by omega) (by omega))) rfl ?_
                refine w_t (np := 55) (l2 := [some (eR a0), some (eI (a1)), some (eI (a2)), some (eI (a3)), none, none, none, none, none, none, none]) (s2 := [eJ (v17)]) rfl (b_i2l (ev_w_in (by omega) (by omega))) rfl ?_
                refine w_t (np := 57) (l2 := [some (eR a0), some (eI (a1)), some (eI (a2)), some (eI (a3)), some (eJ (v17)), none, none, none, none, none, none]) (s2 := []) rfl rfl rfl ?_
                refine w_t (np := 58) (l2 := [some (eR a0), some (eI (a1)), some (eI (a2)), some (eI (a3)), some (eJ (v17)), none, none, none, none, none, none]) (s2 := [eR a0]) rfl (s_an rfl (pos_g hI gA0 (by decide))) rfl ?_
                refine w_gf (np := 61) (v := eR v5) rfl rfl (hI.kd gA0 (by decide) (n := 14) rfl) (by rw [e6]; rfl) ?_
                refine w_t (np := 62) (l2 := [some (eR a0), some (eI (a1)), some (eI (a2)), some (eI (a3)), some (eJ (v17)), none, none, none, none, none, none]) (s2 := [eI (a1), eR v5]) rfl rfl rfl ?_
                refine w_cw (np := 65) (as := [eI (a1)]) (l2 := [some (eR v5), some (eI (a1))]) (rest := []) rfl rfl rfl (Nat.ble_eq.mp rfl) rfl rfl rfl (hI.kd b7 (by decide) (n := 8) rfl) rfl ?_
                refine s_19_2 (a1 := a1) hI b7 (by omega) ?_
                intro v20 b21
                show ex_q (dt_fg L ρ) rc (d + 1, (164, 65, [some (eR a0), some (eI (a1)), some (eI (a2)), some (eI (a3)), some (eJ (v17)), none, none, none, none, none, none], [eI (v20)]), f :: F, μ)
                refine w_t (np := 66) (l2 := [some (eR a0), some (eI (a1)), some (eI (a2)), some (eI (a3)), some (eJ (v17)), none, none, none, none, none, none]) (s2 := [eJ (v20)]) rfl (b_i2l (ev_w_in (by omega) (by omega))) rfl ?_
                refine w_t (np := 68) (l2 := [some (eR a0), some (eI (a1)), some (eI (a2)), some (eI (a3)), some (eJ (v17)), none, some (eJ (v20)), none, none, none, none]) (s2 := []) rfl rfl rfl ?_
                refine w_t (np := 69) (l2 := [some (eR a0), some (eI (a1)), some (eI (a2)), some (eI (a3)), some (eJ (v17)), none, some (eJ (v20)), none, none, none, none]) (s2 := [eI (0)]) rfl rfl rfl ?_
                refine w_t (np := 71) (l2 := [some (eR a0), some (eI (a1)), some (eI (a2)), some (eI (a3)), some (eJ (v17)), none, some (eJ (v20)), none, some (eI (0)), none, none]) (s2 := []) rfl rfl rfl ?_
                have hL71 : ∀ (n22 : Nat) (m31 : eM) (i24 : Int) (i26 : Int) (i28 : Int) (o30 : Option eV), SI g m31 → Fr l_164 0 0 g μ m31 → (-9223372036854775808 ≤ i24 ∧ i24 ≤ 9223372036854775807) → (-9223372036854775808 ≤ i26 ∧ i26 ≤ 9223372036854775807) → (0 ≤ i28 ∧ i28 ≤ 63) → m31.1 a0 0 = ((v5 : Nat) : Int) → m31.1 v5 7 = v10 → n22 = (63 - i28).toNat → ex_q (dt_fg L ρ) rc (d + 1, (164, 71, [some (eR a0), some (eI (a1)), some (eI (a2)), some (eI (a3)), some (eJ (i24)), none, some (eJ (i26)), none, some (eI (i28)), o30, none], []), f :: F, m31) := by
                  intro n22
                  induction n22 using Nat.strongRecOn with
                  | _ n22 ih23 =>
                  intro m31 i24 i26 i28 o30 I32 F33 b25 b27 b29 k34 k35 hn36
                  refine w_t (np := 73) (l2 := [some (eR a0), some (eI (a1)), some (eI (a2)), some (eI (a3)), some (eJ (i24)), none, some (eJ (i26)), none, some (eI (i28)), o30, none]) (s2 := [eI (i28)]) rfl rfl rfl ?_
                  refine w_t (np := 74) (l2 := [some (eR a0), some (eI (a1)), some (eI (a2)), some (eI (a3)), some (eJ (i24)), none, some (eJ (i26)), none, some (eI (i28)), o30, none]) (s2 := [eI (a3), eI (i28)]) rfl rfl rfl ?_
                  refine b_cge (t1 := 101) (t2 := 77) rfl rfl rfl (ev_w_in (by omega) (by omega)) (ev_w_in (by omega) (by omega)) (fun g37 => ?_) (fun g37 => ?_)
                  · refine w_t (np := 102) (l2 := [some (eR a0), some (eI (a1)), some (eI (a2)), some (eI (a3)), some (eJ (i24)), none, some (eJ (i26)), none, some (eI (i28)), o30, none]) (s2 := [eR a0]) rfl (s_an rfl (pos_g I32 gA0 (by decide))) rfl ?_
                    refine w_t (np := 103) (l2 := [some (eR a0), some (eI (a1)), some (eI (a2)), some (eI (a3)), some (eJ (i24)), none, some (eJ (i26)), none, some (eI (i28)), o30, none]) (s2 := [eI (0), eR a0]) rfl rfl rfl ?_
                    refine j_pf (np := 106) (w := 0) rfl rfl I32 gA0 (by decide) (n := 14) rfl rfl (hO_i (lo := -2147483648) (hi := 2147483647) rfl (by decide)) ?_
                    intro m38 I39 W40
                    have F41 : Fr l_164 0 0 g μ m38 := F33.w W40 gA0 rfl
                    refine w_t (np := 107) (l2 := [some (eR a0), some (eI (a1)), some (eI (a2)), some (eI (a3)), some (eJ (i24)), none, some (eJ (i26)), none, some (eI (i28)), o30, none]) (s2 := [eI (a2)]) rfl rfl rfl ?_
                    refine b_ine (t1 := 115) (t2 := 110) rfl rfl rfl (ev_w_in (by omega) (by omega)) (fun g42 => ?_) (fun g42 => ?_)
                    · have b43 : 1 ≤ a2 ∧ a2 ≤ 1 := by omega
                      refine w_t (np := 117) (l2 := [some (eR a0), some (eI (a1)), some (eI (a2)), some (eI (a3)), some (eJ (i24)), none, some (eJ (i26)), none, some (eI (i28)), o30, none]) (s2 := [eJ (i26)]) rfl rfl rfl ?_
                      exact b_rl rfl rfl (K m38 (i26) I39 F41 (by omega))
                    · have b43 : 0 ≤ a2 ∧ a2 ≤ 0 := by omega
                      refine w_t (np := 112) (l2 := [some (eR a0), some (eI (a1)), some (eI (a2)), some (eI (a3)), some (eJ (i24)), none, some (eJ (i26)), none, some (eI (i28)), o30, none]) (s2 := [eJ (i24)]) rfl rfl rfl ?_
                      refine w_go (t1 := 117) rfl rfl ?_
                      exact b_rl rfl rfl (K m38 (i24) I39 F41 (by omega))
                  · have b38 : 0 ≤ i28 ∧ i28 ≤ 39 := by omega
                    have b39 : 1 ≤ a3 ∧ a3 ≤ 40 := by omega
                    refine w_t (np := 79) (l2 := [some (eR a0), some (eI (a1)), some (eI (a2)), some (eI (a3)), some (eJ (i24)), none, some (eJ (i26)), none, some (eI (i28)), o30, none]) (s2 := [eJ (i24)]) rfl rfl rfl ?_
                    refine w_t (np := 81) (l2 := [some (eR a0), some (eI (a1)), some (eI (a2)), some (eI (a3)), some (eJ (i24)), none, some (eJ (i26)), none, some (eI (i28)), o30, none]) (s2 := [eJ (i26), eJ (i24)]) rfl rfl rfl ?_
                    obtain ⟨v38, e39, b40⟩ : ∃ zz : Int, ev_W ((i24) + (i26)) = zz ∧ (-9223372036854775808 ≤ zz ∧ zz ≤ 9223372036854775807) := ⟨_, rfl, hW_bd _⟩
                    refine w_t (np := 82) (l2 := [some (eR a0), some (eI (a1)), some (eI (a2)), some (eI (a3)), some (eJ (i24)), none, some (eJ (i26)), none, some (eI (i28)), o30, none]) (s2 := [eJ (v38)]) rfl (b_ladd e39) rfl ?_
                    refine w_t (np := 84) (l2 := [some (eR a0), some (eI (a1)), some (eI (a2)), some (eI (a3)), some (eJ (i24)), none, some (eJ (i26)), none, some (eI (i28)), some (eJ (v38)), none]) (s2 := []) rfl rfl rfl ?_
                    refine w_t (np := 86) (l2 := [some (eR a0), some (eI (a1)), some (eI (a2)), some (eI (a3)), some (eJ (i24)), none, some (eJ (i26)), none, some (eI (i28)), some (eJ (v38)), none]) (s2 := [eJ (v38)]) rfl rfl rfl ?_
                    refine w_t (np := 88) (l2 := [some (eR a0), some (eI (a1)), some (eI (a2)), some (eI (a3)), some (eJ (i24)), none, some (eJ (i26)), none, some (eI (i28)), some (eJ (v38)), none]) (s2 := [eJ (i26), eJ (v38)]) rfl rfl rfl ?_
                    obtain ⟨v41, e42, b43⟩ : ∃ zz : Int, ev_W ((v38) + (i26)) = zz ∧ (-9223372036854775808 ≤ zz ∧ zz ≤ 9223372036854775807) := ⟨_, rfl, hW_bd _⟩
                    refine w_t (np := 89) (l2 := [some (eR a0), some (eI (a1)), some (eI (a2)), some (eI (a3)), some (eJ (i24)), none, some (eJ (i26)), none, some (eI (i28)), some (eJ (v38)), none]) (s2 := [eJ (v41)]) rfl (b_ladd e42) rfl ?_
                    refine w_t (np := 91) (l2 := [some (eR a0), some (eI (a1)), some (eI (a2)), some (eI (a3)), some (eJ (i24)), none, some (eJ (v41)), none, some (eI (i28)), some (eJ (v38)), none]) (s2 := []) rfl rfl rfl ?_
                    refine w_t (np := 93) (l2 := [some (eR a0), some (eI (a1)), some (eI (a2)), some (eI (a3)), some (eJ (i24)), none, some (eJ (v41)), none, some (eI (i28)), some (eJ (v38)), none]) (s2 := [eJ (v38)]) rfl rfl rfl ?_
                    refine w_t (np := 95) (l2 := [some (eR a0), some (eI (a1)), some (eI (a2)), some (eI (a3)), some (eJ (v38)), none, some (eJ (v41)), none, some (eI (i28)), some (eJ (v38)), none]) (s2 := []) rfl rfl rfl ?_
                    obtain ⟨v44, e45⟩ : ∃ zz : Int, zz = (i28) + (1) := ⟨_, rfl⟩
                    have b46 : 1 ≤ v44 ∧ v44 ≤ 40 := by omega
                    refine w_t (np := 98) (l2 := [some (eR a0), some (eI (a1)), some (eI (a2)), some (eI (a3)), some (eJ (v38)), none, some (eJ (v41)), none, some (eI (v44)), some (eJ (v38)), none]) (s2 := []) rfl (b_iinc rfl (by rw [← e45]; exact ev_w_in (by omega) (by omega)) rfl) rfl ?_
                    refine w_go (t1 := 71) rfl rfl ?_
                    exact ih23 (63 - (v44)).toNat (by omega) m31 (v38) (v41) (v44) (some (eJ (v38))) I32 F33 (by omega) (by omega) (by omega) k34 k35    rfl
                exact hL71 _ μ (v17) (v20) (0) (none) hI F0 (by omega) (by omega) (by decide) e6 e11    rfl
              · refine w_t (np := 13) (l2 := [some (eR v5), some (eI (a1))]) (s2 := [eI (1)]) rfl rfl rfl ?_
                refine w_go (t1 := 17) rfl rfl ?_
                refine b_rz rfl rfl (Or.inr rfl) ?_
                show ex_q (dt_fg L ρ) rc (d + 1, (164, 34, [some (eR a0), some (eI (a1)), some (eI (a2)), some (eI (a3)), none, none, none, none, none, none, none], [eI (1)]), f :: F, μ)
                refine b_ieq (t1 := 44) (t2 := 37) rfl rfl rfl rfl (fun g14 => absurd g14 (by decide)) (fun g14 => ?_)
                refine w_t (np := 38) (l2 := [some (eR a0), some (eI (a1)), some (eI (a2)), some (eI (a3)), none, none, none, none, none, none, none]) (s2 := [eR a0]) rfl (s_an rfl (pos_g hI gA0 (by decide))) rfl ?_
                refine w_t (np := 39) (l2 := [some (eR a0), some (eI (a1)), some (eI (a2)), some (eI (a3)), none, none, none, none, none, none, none]) (s2 := [eI (2), eR a0]) rfl rfl rfl ?_
                refine w_cw (np := 42) (as := [eI (2)]) (l2 := [some (eR a0), some (eI (2))]) (rest := []) rfl rfl rfl (Nat.ble_eq.mp rfl) rfl rfl rfl (hI.kd gA0 (by decide) (n := 14) rfl) rfl ?_
                refine w_t (np := 1) (l2 := [some (eR a0), some (eI (2))]) (s2 := [eR a0]) rfl (s_an rfl (pos_g hI gA0 (by decide))) rfl ?_
                refine w_t (np := 2) (l2 := [some (eR a0), some (eI (2))]) (s2 := [eI (2), eR a0]) rfl rfl rfl ?_
                refine j_pf (np := 5) (w := 2) rfl rfl hI gA0 (by decide) (n := 14) rfl rfl (hO_i (lo := -2147483648) (hi := 2147483647) rfl (by decide)) ?_
                intro m15 I16 W17
                have F18 : Fr l_164 0 0 g μ m15 := F0.w W17 gA0 rfl
                refine w_t (np := 6) (l2 := [some (eR a0), some (eI (2))]) (s2 := [eI (-1)]) rfl rfl rfl ?_
                refine b_ri rfl rfl ?_
                show ex_q (dt_fg L ρ) rc (d + 1, (164, 42, [some (eR a0), some (eI (a1)), some (eI (a2)), some (eI (a3)), none, none, none, none, none, none, none], [eI (-1)]), f :: F, m15)
                refine w_t (np := 43) (l2 := [some (eR a0), some (eI (a1)), some (eI (a2)), some (eI (a3)), none, none, none, none, none, none, none]) (s2 := [eJ (-1)]) rfl (b_i2l rfl) rfl ?_
                exact b_rl rfl rfl (K m15 (-1) I16 F18 (by decide))
        · have b5 : 41 ≤ a3 ∧ a3 ≤ 2147483647 := by omega
          refine w_t (np := 20) (l2 := [some (eR a0), some (eI (a1)), some (eI (a2)), some (eI (a3)), none, none, none, none, none, none, none]) (s2 := [eR a0]) rfl (s_an rfl (pos_g hI gA0 (by decide))) rfl ?_
          refine w_t (np := 21) (l2 := [some (eR a0), some (eI (a1)), some (eI (a2)), some (eI (a3)), none, none, none, none, none, none, none]) (s2 := [eI (1), eR a0]) rfl rfl rfl ?_
          refine w_cw (np := 24) (as := [eI (1)]) (l2 := [some (eR a0), some (eI (1))]) (rest := []) rfl rfl rfl (Nat.ble_eq.mp rfl) rfl rfl rfl (hI.kd gA0 (by decide) (n := 14) rfl) rfl ?_
          refine w_t (np := 1) (l2 := [some (eR a0), some (eI (1))]) (s2 := [eR a0]) rfl (s_an rfl (pos_g hI gA0 (by decide))) rfl ?_
          refine w_t (np := 2) (l2 := [some (eR a0), some (eI (1))]) (s2 := [eI (1), eR a0]) rfl rfl rfl ?_
          refine j_pf (np := 5) (w := 1) rfl rfl hI gA0 (by decide) (n := 14) rfl rfl (hO_i (lo := -2147483648) (hi := 2147483647) rfl (by decide)) ?_
          intro m5 I6 W7
          have F8 : Fr l_164 0 0 g μ m5 := F0.w W7 gA0 rfl
          refine w_t (np := 6) (l2 := [some (eR a0), some (eI (1))]) (s2 := [eI (-1)]) rfl rfl rfl ?_
          refine b_ri rfl rfl ?_
          show ex_q (dt_fg L ρ) rc (d + 1, (164, 24, [some (eR a0), some (eI (a1)), some (eI (a2)), some (eI (a3)), none, none, none, none, none, none, none], [eI (-1)]), f :: F, m5)
          refine w_t (np := 25) (l2 := [some (eR a0), some (eI (a1)), some (eI (a2)), some (eI (a3)), none, none, none, none, none, none, none]) (s2 := [eJ (-1)]) rfl (b_i2l rfl) rfl ?_
          exact b_rl rfl rfl (K m5 (-1) I6 F8 (by decide))
def l_165 : List Nat := [270]
theorem s_165 {L : Nat} {ρ : Nat → Int} {rc : eQ} {d : Nat} {f : eFr} {F : List eFr} {μ : eM} {g : Nat → Nat} {a0 : Nat} {a1 : Int} (hI : SI g μ) (gA0 : g a0 = 1) (bA1 : -2147483648 ≤ a1 ∧ a1 ≤ 2147483647) (K : ∀ (μ2 : eM) (v : Int), SI g μ2 → Fr l_165 0 0 g μ μ2 → (-2147483648 ≤ v ∧ v ≤ 2147483647) → ex_q (dt_fg L ρ) rc (d + 2, (f.1, f.2.1, f.2.2.1, eI v :: f.2.2.2), F, μ2)) : ex_q (dt_fg L ρ) rc (d + 1, (165, 0, [some (eR a0), some (eI (a1))], []), f :: F, μ) := by
  have F0 : Fr l_165 0 0 g μ μ := Fr.r
  refine w_t (np := 1) (l2 := [some (eR a0), some (eI (a1))]) (s2 := [eI (a1)]) rfl rfl rfl ?_
  refine b_ilt (t1 := 9) (t2 := 4) rfl rfl rfl (ev_w_in (by omega) (by omega)) (fun g1 => ?_) (fun g1 => ?_)
  · have b2 : -2147483648 ≤ a1 ∧ a1 ≤ -1 := by omega
    refine w_t (np := 10) (l2 := [some (eR a0), some (eI (a1))]) (s2 := [eR a0]) rfl (s_an rfl (pos_g hI gA0 (by decide))) rfl ?_
    refine w_t (np := 11) (l2 := [some (eR a0), some (eI (a1))]) (s2 := [eI (1), eR a0]) rfl rfl rfl ?_
    refine w_cw (np := 14) (as := [eI (1)]) (l2 := [some (eR a0), some (eI (1))]) (rest := []) rfl rfl rfl (Nat.ble_eq.mp rfl) rfl rfl rfl (hI.kd gA0 (by decide) (n := 14) rfl) rfl ?_
    refine w_t (np := 1) (l2 := [some (eR a0), some (eI (1))]) (s2 := [eR a0]) rfl (s_an rfl (pos_g hI gA0 (by decide))) rfl ?_
    refine w_t (np := 2) (l2 := [some (eR a0), some (eI (1))]) (s2 := [eI (1), eR a0]) rfl rfl rfl ?_
    refine j_pf (np := 5) (w := 1) rfl rfl hI gA0 (by decide) (n := 14) rfl rfl (hO_i (lo := -2147483648) (hi := 2147483647) rfl (by decide)) ?_
    intro m2 I3 W4
    have F5 : Fr l_165 0 0 g μ m2 := F0.w W4 gA0 rfl
    refine w_t (np := 6) (l2 := [some (eR a0), some (eI (1))]) (s2 := [eI (-1)]) rfl rfl rfl ?_
    refine b_ri rfl rfl ?_
    show ex_q (dt_fg L ρ) rc (d + 1, (165, 14, [some (eR a0), some (eI (a1))], [eI (-1)]), f :: F, m2)
    exact b_ri rfl rfl (K m2 (-1) I3 F5 (by decide))
  · have b2 : 0 ≤ a1 ∧ a1 ≤ 2147483647 := by omega
    refine w_t (np := 5) (l2 := [some (eR a0), some (eI (a1))]) (s2 := [eI (a1)]) rfl rfl rfl ?_
    refine w_t (np := 6) (l2 := [some (eR a0), some (eI (a1))]) (s2 := [eI (1), eI (a1)]) rfl rfl rfl ?_
    refine b_cle (t1 := 15) (t2 := 9) rfl rfl rfl (ev_w_in (by omega) (by omega)) rfl (fun g2 => ?_) (fun g2 => ?_)
    · have b3 : 0 ≤ a1 ∧ a1 ≤ 1 := by omega
      refine w_t (np := 16) (l2 := [some (eR a0), some (eI (a1))]) (s2 := [eR a0]) rfl (s_an rfl (pos_g hI gA0 (by decide))) rfl ?_
      refine w_t (np := 17) (l2 := [some (eR a0), some (eI (a1))]) (s2 := [eR a0, eR a0]) rfl (s_an rfl (pos_g hI gA0 (by decide))) rfl ?_
      refine j_gr (np := 20) rfl rfl hI gA0 (by decide) (n := 14) rfl rfl rfl ?_
      intro v3 e4 b5 z6
      rcases hor2 b5 with b5 | b5
      · refine w_t (np := 21) (l2 := [some (eR a0), some (eI (a1))]) (s2 := [eI (a1), eR v3, eR a0]) rfl rfl rfl ?_
        refine w_cw (np := 24) (as := [eI (a1)]) (l2 := [some (eR v3), some (eI (a1)), none, none]) (rest := [eR a0]) rfl rfl rfl (Nat.ble_eq.mp rfl) rfl rfl rfl (hI.kd b5 (by decide) (n := 8) rfl) rfl ?_
        refine s_25 (a1 := a1) hI b5 (by omega) ?_
        intro v7 b8
        show ex_q (dt_fg L ρ) rc (d + 1, (165, 24, [some (eR a0), some (eI (a1))], [eI (v7), eR a0]), f :: F, μ)
        refine w_cw (np := 27) (as := [eI (v7)]) (l2 := [some (eR a0), some (eI (v7))]) (rest := []) rfl rfl rfl (Nat.ble_eq.mp rfl) rfl rfl rfl (hI.kd gA0 (by decide) (n := 14) rfl) rfl ?_
        refine w_t (np := 1) (l2 := [some (eR a0), some (eI (v7))]) (s2 := [eR a0]) rfl (s_an rfl (pos_g hI gA0 (by decide))) rfl ?_
        refine w_t (np := 2) (l2 := [some (eR a0), some (eI (v7))]) (s2 := [eI (0), eR a0]) rfl rfl rfl ?_
        refine j_pf (np := 5) (w := 0) rfl rfl hI gA0 (by decide) (n := 14) rfl rfl (hO_i (lo := -2147483648) (hi := 2147483647) rfl (by decide)) ?_
        intro m9 I10 W11
        have F12 : Fr l_165 0 0 g μ m9 := F0.w W11 gA0 rfl
        refine w_t (np := 6) (l2 := [some (eR a0), some (eI (v7))]) (s2 := [eI (v7)]) rfl rfl rfl ?_
        refine b_ri rfl rfl ?_
        show ex_q (dt_fg L ρ) rc (d + 1, (165, 27, [some (eR a0), some (eI (a1))], [eI (v7)]), f :: F, m9)
        exact b_ri rfl rfl (K m9 (v7) I10 F12 (by omega))
      · refine w_t (np := 21) (l2 := [some (eR a0), some (eI (a1))]) (s2 := [eI (a1), eR v3, eR a0]) rfl rfl rfl ?_
        refine w_cw (np := 24) (as := [eI (a1)]) (l2 := [some (eR v3), some (eI (a1)), none, none]) (rest := [eR a0]) rfl rfl rfl (Nat.ble_eq.mp rfl) rfl rfl rfl (hI.kd b5 (by decide) (n := 8) rfl) rfl ?_
        refine s_25_2 (a1 := a1) hI b5 (by omega) ?_
        intro v7 b8
        show ex_q (dt_fg L ρ) rc (d + 1, (165, 24, [some (eR a0), some (eI (a1))], [eI (v7), eR a0]), f :: F, μ)
        refine w_cw (np := 27) (as := [eI (v7)]) (l2 := [some (eR a0), some (eI (v7))]) (rest := []) rfl rfl rfl (Nat.ble_eq.mp rfl) rfl rfl rfl (hI.kd gA0 (by decide) (n := 14) rfl) rfl ?_
        refine w_t (np := 1) (l2 := [some (eR a0), some (eI (v7))]) (s2 := [eR a0]) rfl (s_an rfl (pos_g hI gA0 (by decide))) rfl ?_
        refine w_t (np := 2) (l2 := [some (eR a0), some (eI (v7))]) (s2 := [eI (0), eR a0]) rfl rfl rfl ?_
        refine j_pf (np := 5) (w := 0) rfl rfl hI gA0 (by decide) (n := 14) rfl rfl (hO_i (lo := -2147483648) (hi := 2147483647) rfl (by decide)) ?_
        intro m9 I10 W11
        have F12 : Fr l_165 0 0 g μ m9 := F0.w W11 gA0 rfl
        refine w_t (np := 6) (l2 := [some (eR a0), some (eI (v7))]) (s2 := [eI (v7)]) rfl rfl rfl ?_
        refine b_ri rfl rfl ?_
        show ex_q (dt_fg L ρ) rc (d + 1, (165, 27, [some (eR a0), some (eI (a1))], [eI (v7)]), f :: F, m9)
        exact b_ri rfl rfl (K m9 (v7) I10 F12 (by omega))
    · have b3 : 2 ≤ a1 ∧ a1 ≤ 2147483647 := by omega
      refine w_t (np := 10) (l2 := [some (eR a0), some (eI (a1))]) (s2 := [eR a0]) rfl (s_an rfl (pos_g hI gA0 (by decide))) rfl ?_
      refine w_t (np := 11) (l2 := [some (eR a0), some (eI (a1))]) (s2 := [eI (1), eR a0]) rfl rfl rfl ?_
      refine w_cw (np := 14) (as := [eI (1)]) (l2 := [some (eR a0), some (eI (1))]) (rest := []) rfl rfl rfl (Nat.ble_eq.mp rfl) rfl rfl rfl (hI.kd gA0 (by decide) (n := 14) rfl) rfl ?_
      refine w_t (np := 1) (l2 := [some (eR a0), some (eI (1))]) (s2 := [eR a0]) rfl (s_an rfl (pos_g hI gA0 (by decide))) rfl ?_
      refine w_t (np := 2) (l2 := [some (eR a0), some (eI (1))]) (s2 := [eI (1), eR a0]) rfl rfl rfl ?_
      refine j_pf (np := 5) (w := 1) rfl rfl hI gA0 (by decide) (n := 14) rfl rfl (hO_i (lo := -2147483648) (hi := 2147483647) rfl (by decide)) ?_
      intro m3 I4 W5
      have F6 : Fr l_165 0 0 g μ m3 := F0.w W5 gA0 rfl
      refine w_t (np := 6) (l2 := [some (eR a0), some (eI (1))]) (s2 := [eI (-1)]) rfl rfl rfl ?_
      refine b_ri rfl rfl ?_
      show ex_q (dt_fg L ρ) rc (d + 1, (165, 14, [some (eR a0), some (eI (a1))], [eI (-1)]), f :: F, m3)
      exact b_ri rfl rfl (K m3 (-1) I4 F6 (by decide))
def l_169 : List Nat := [270, 4610, 4611, 4612]
theorem s_169 {L : Nat} {ρ : Nat → Int} {rc : eQ} {d : Nat} {f : eFr} {F : List eFr} {μ : eM} {g : Nat → Nat} {a0 : Nat} {a1 : Int} (hI : SI g μ) (gA0 : g a0 = 1) (bA1 : -2147483648 ≤ a1 ∧ a1 ≤ 2147483647) (K : ∀ (μ2 : eM) (v : Int), SI g μ2 → Fr l_169 0 0 g μ μ2 → (-2147483648 ≤ v ∧ v ≤ 2147483647) → ex_q (dt_fg L ρ) rc (d + 2, (f.1, f.2.1, f.2.2.1, eI v :: f.2.2.2), F, μ2)) : ex_q (dt_fg L ρ) rc (d + 1, (169, 0, [some (eR a0), some (eI (a1)), none], []), f :: F, μ) := by
  have F0 : Fr l_169 0 0 g μ μ := Fr.r
  refine w_t (np := 1) (l2 := [some (eR a0), some (eI (a1)), none]) (s2 := [eI (a1)]) rfl rfl rfl ?_
  refine b_ilt (t1 := 9) (t2 := 4) rfl rfl rfl (ev_w_in (by omega) (by omega)) (fun g1 => ?_) (fun g1 => ?_)
  · have b2 : -2147483648 ≤ a1 ∧ a1 ≤ -1 := by omega
    refine w_t (np := 10) (l2 := [some (eR a0), some (eI (a1)), none]) (s2 := [eR a0]) rfl (s_an rfl (pos_g hI gA0 (by decide))) rfl ?_
    refine w_t (np := 11) (l2 := [some (eR a0), some (eI (a1)), none]) (s2 := [eI (1), eR a0]) rfl rfl rfl ?_
    refine w_cw (np := 14) (as := [eI (1)]) (l2 := [some (eR a0), some (eI (1))]) (rest := []) rfl rfl rfl (Nat.ble_eq.mp rfl) rfl rfl rfl (hI.kd gA0 (by decide) (n := 14) rfl) rfl ?_
    refine w_t (np := 1) (l2 := [some (eR a0), some (eI (1))]) (s2 := [eR a0]) rfl (s_an rfl (pos_g hI gA0 (by decide))) rfl ?_
    refine w_t (np := 2) (l2 := [some (eR a0), some (eI (1))]) (s2 := [eI (1), eR a0]) rfl rfl rfl ?_
    refine j_pf (np := 5) (w := 1) rfl rfl hI gA0 (by decide) (n := 14) rfl rfl (hO_i (lo := -2147483648) (hi := 2147483647) rfl (by decide)) ?_
    intro m2 I3 W4
    have F5 : Fr l_169 0 0 g μ m2 := F0.w W4 gA0 rfl
    refine w_t (np := 6) (l2 := [some (eR a0), some (eI (1))]) (s2 := [eI (-1)]) rfl rfl rfl ?_
    refine b_ri rfl rfl ?_
    show ex_q (dt_fg L ρ) rc (d + 1, (169, 14, [some (eR a0), some (eI (a1)), none], [eI (-1)]), f :: F, m2)
    exact b_ri rfl rfl (K m2 (-1) I3 F5 (by decide))
  · have b2 : 0 ≤ a1 ∧ a1 ≤ 2147483647 := by omega
    refine w_t (np := 5) (l2 := [some (eR a0), some (eI (a1)), none]) (s2 := [eI (a1)]) rfl rfl rfl ?_
    refine w_t (np := 6) (l2 := [some (eR a0), some (eI (a1)), none]) (s2 := [eI (1), eI (a1)]) rfl rfl rfl ?_
    refine b_cle (t1 := 15) (t2 := 9) rfl rfl rfl (ev_w_in (by omega) (by omega)) rfl (fun g2 => ?_) (fun g2 => ?_)
    · have b3 : 0 ≤ a1 ∧ a1 ≤ 1 := by omega
      refine w_t (np := 16) (l2 := [some (eR a0), some (eI (a1)), none]) (s2 := [eR a0]) rfl (s_an rfl (pos_g hI gA0 (by decide))) rfl ?_
      refine j_gr (np := 19) rfl rfl hI gA0 (by decide) (n := 14) rfl rfl rfl ?_
      intro v3 e4 b5 z6
      have b5 : g v3 = 18 := Nat.eq_of_beq_eq_true b5
      refine j_gi (np := 22) rfl rfl rfl hI b5 (by decide) (n := 4) rfl rfl (lo := 0) (hi := 12) rfl ?_
      intro v7 e8 b9
      refine w_t (np := 23) (l2 := [some (eR a0), some (eI (a1)), some (eI (v7))]) (s2 := []) rfl rfl rfl ?_
      refine w_t (np := 24) (l2 := [some (eR a0), some (eI (a1)), some (eI (v7))]) (s2 := [eR a0]) rfl (s_an rfl (pos_g hI gA0 (by decide))) rfl ?_
      refine w_gf (np := 27) (v := eR v3) rfl rfl (hI.kd gA0 (by decide) (n := 14) rfl) (by rw [e4]; rfl) ?_
      refine w_t (np := 28) (l2 := [some (eR a0), some (eI (a1)), some (eI (v7))]) (s2 := [eI (a1), eR v3]) rfl rfl rfl ?_
      refine w_cw (np := 31) (as := [eI (a1)]) (l2 := [some (eR v3), some (eI (a1))]) (rest := []) rfl rfl rfl (Nat.ble_eq.mp rfl) rfl rfl rfl (hI.kd b5 (by decide) (n := 4) rfl) rfl ?_
      refine w_t (np := 1) (l2 := [some (eR v3), some (eI (a1))]) (s2 := [eR v3]) rfl (s_an rfl (pos_g hI b5 (by decide))) rfl ?_
      refine w_t (np := 2) (l2 := [some (eR v3), some (eI (a1))]) (s2 := [eI (1), eR v3]) rfl rfl rfl ?_
      refine j_pf (np := 5) (w := 1) rfl rfl hI b5 (by decide) (n := 4) rfl rfl (hO_i (lo := 0) (hi := 1) rfl (by decide)) ?_
      intro m10 I11 W12
      have F13 : Fr l_169 0 0 g μ m10 := F0.w W12 b5 rfl
      refine w_t (np := 6) (l2 := [some (eR v3), some (eI (a1))]) (s2 := [eR v3]) rfl (s_an rfl (pos_g I11 b5 (by decide))) rfl ?_
      refine w_t (np := 7) (l2 := [some (eR v3), some (eI (a1))]) (s2 := [eI (a1), eR v3]) rfl rfl rfl ?_
      refine j_pf (np := 10) (w := a1) rfl rfl I11 b5 (by decide) (n := 4) rfl rfl (hO_i (lo := -2147483648) (hi := 2147483647) rfl (by omega)) ?_
      intro m14 I15 W16
      have F17 : Fr l_169 0 0 g μ m14 := F13.w W16 b5 rfl
      refine w_t (np := 11) (l2 := [some (eR v3), some (eI (a1))]) (s2 := [eR v3]) rfl (s_an rfl (pos_g I15 b5 (by decide))) rfl ?_
      refine w_t (np := 12) (l2 := [some (eR v3), some (eI (a1))]) (s2 := [eI (0), eR v3]) rfl rfl rfl ?_
      refine j_pf (np := 15) (w := 0) rfl rfl I15 b5 (by decide) (n := 4) rfl rfl (hO_i (lo := 0) (hi := 12) rfl (by decide)) ?_
      intro m18 I19 W20
      have F21 : Fr l_169 0 0 g μ m18 := F17.w W20 b5 rfl
      refine v_rv rfl rfl ?_
      show ex_q (dt_fg L ρ) rc (d + 1, (169, 31, [some (eR a0), some (eI (a1)), some (eI (v7))], []), f :: F, m18)
      refine w_t (np := 32) (l2 := [some (eR a0), some (eI (a1)), some (eI (v7))]) (s2 := [eR a0]) rfl (s_an rfl (pos_g I19 gA0 (by decide))) rfl ?_
      refine w_t (np := 33) (l2 := [some (eR a0), some (eI (a1)), some (eI (v7))]) (s2 := [eI (v7), eR a0]) rfl rfl rfl ?_
      refine w_cw (np := 36) (as := [eI (v7)]) (l2 := [some (eR a0), some (eI (v7))]) (rest := []) rfl rfl rfl (Nat.ble_eq.mp rfl) rfl rfl rfl (I19.kd gA0 (by decide) (n := 14) rfl) rfl ?_
      refine w_t (np := 1) (l2 := [some (eR a0), some (eI (v7))]) (s2 := [eR a0]) rfl (s_an rfl (pos_g I19 gA0 (by decide))) rfl ?_
      refine w_t (np := 2) (l2 := [some (eR a0), some (eI (v7))]) (s2 := [eI (0), eR a0]) rfl rfl rfl ?_
      refine j_pf (np := 5) (w := 0) rfl rfl I19 gA0 (by decide) (n := 14) rfl rfl (hO_i (lo := -2147483648) (hi := 2147483647) rfl (by decide)) ?_
      intro m22 I23 W24
      have F25 : Fr l_169 0 0 g μ m22 := F21.w W24 gA0 rfl
      refine w_t (np := 6) (l2 := [some (eR a0), some (eI (v7))]) (s2 := [eI (v7)]) rfl rfl rfl ?_
      refine b_ri rfl rfl ?_
      show ex_q (dt_fg L ρ) rc (d + 1, (169, 36, [some (eR a0), some (eI (a1)), some (eI (v7))], [eI (v7)]), f :: F, m22)
      exact b_ri rfl rfl (K m22 (v7) I23 F25 (by omega))
    · have b3 : 2 ≤ a1 ∧ a1 ≤ 2147483647 := by omega
      refine w_t (np := 10) (l2 := [some (eR a0), some (eI (a1)), none]) (s2 := [eR a0]) rfl (s_an rfl (pos_g hI gA0 (by decide))) rfl ?_
      refine w_t (np := 11) (l2 := [some (eR a0), some (eI (a1)), none]) (s2 := [eI (1), eR a0]) rfl rfl rfl ?_
      refine w_cw (np := 14) (as := [eI (1)]) (l2 := [some (eR a0), some (eI (1))]) (rest := []) rfl rfl rfl (Nat.ble_eq.mp rfl) rfl rfl rfl (hI.kd gA0 (by decide) (n := 14) rfl) rfl ?_
      refine w_t (np := 1) (l2 := [some (eR a0), some (eI (1))]) (s2 := [eR a0]) rfl (s_an rfl (pos_g hI gA0 (by decide))) rfl ?_
      refine w_t (np := 2) (l2 := [some (eR a0), some (eI (1))]) (s2 := [eI (1), eR a0]) rfl rfl rfl ?_
      refine j_pf (np := 5) (w := 1) rfl rfl hI gA0 (by decide) (n := 14) rfl rfl (hO_i (lo := -2147483648) (hi := 2147483647) rfl (by decide)) ?_
      intro m3 I4 W5
      have F6 : Fr l_169 0 0 g μ m3 := F0.w W5 gA0 rfl
      refine w_t (np := 6) (l2 := [some (eR a0), some (eI (1))]) (s2 := [eI (-1)]) rfl rfl rfl ?_
      refine b_ri rfl rfl ?_
      show ex_q (dt_fg L ρ) rc (d + 1, (169, 14, [some (eR a0), some (eI (a1)), none], [eI (-1)]), f :: F, m3)
      exact b_ri rfl rfl (K m3 (-1) I4 F6 (by decide))
def l_171 : List Nat := [270, 4610, 4611, 4612, 4864]
theorem s_171 {L : Nat} {ρ : Nat → Int} {rc : eQ} {d : Nat} {f : eFr} {F : List eFr} {μ : eM} {g : Nat → Nat} {a0 : Nat} (hI : SI g μ) (gA0 : g a0 = 1) (K : ∀ (μ2 : eM) (v : Int), SI g μ2 → Fr l_171 0 0 g μ μ2 → (-2147483648 ≤ v ∧ v ≤ 2147483647) → ex_q (dt_fg L ρ) rc (d + 3, (f.1, f.2.1, f.2.2.1, eI v :: f.2.2.2), F, μ2)) : ex_q (dt_fg L ρ) rc (d + 2, (171, 0, [some (eR a0)], []), f :: F, μ) := by
  have F0 : Fr l_171 0 0 g μ μ := Fr.r
  refine w_t (np := 1) (l2 := [some (eR a0)]) (s2 := [eR a0]) rfl (s_an rfl (pos_g hI gA0 (by decide))) rfl ?_
  refine j_gr (np := 4) rfl rfl hI gA0 (by decide) (n := 14) rfl rfl rfl ?_
  intro v1 e2 b3 z4
  have b3 : g v1 = 18 := Nat.eq_of_beq_eq_true b3
  refine j_gi (np := 7) rfl rfl rfl hI b3 (by decide) (n := 4) rfl rfl (lo := 0) (hi := 1) rfl ?_
  intro v5 e6 b7
  refine b_ine (t1 := 16) (t2 := 10) rfl rfl rfl (ev_w_in (by omega) (by omega)) (fun g8 => ?_) (fun g8 => ?_)
  · have b9 : 1 ≤ v5 ∧ v5 ≤ 1 := by omega
    refine w_t (np := 17) (l2 := [some (eR a0)]) (s2 := [eR a0]) rfl (s_an rfl (pos_g hI gA0 (by decide))) rfl ?_
    refine j_gr (np := 20) rfl rfl hI gA0 (by decide) (n := 14) rfl rfl rfl ?_
    intro v9 e10 b11 z12
    have b11 : g v9 = 18 := Nat.eq_of_beq_eq_true b11
    refine w_t (np := 21) (l2 := [some (eR a0)]) (s2 := [eR a0, eR v9]) rfl (s_an rfl (pos_g hI gA0 (by decide))) rfl ?_
    refine w_gf (np := 24) (v := eR v1) rfl rfl (hI.kd gA0 (by decide) (n := 14) rfl) (by rw [e2]; rfl) ?_
    refine w_cw (np := 27) (as := [eR v1]) (l2 := [some (eR v9), some (eR v1), none]) (rest := []) rfl rfl rfl (Nat.ble_eq.mp rfl) rfl rfl rfl (hI.kd b11 (by decide) (n := 4) rfl) rfl ?_
    refine s_104 hI b11 b3 ?_
    intro m13 I14 F15
    have F16 : Fr l_171 0 0 g μ m13 := F0.t F15 rfl
    show ex_q (dt_fg L ρ) rc (d + 2, (171, 27, [some (eR a0)], []), f :: F, m13)
    refine w_t (np := 28) (l2 := [some (eR a0)]) (s2 := [eR a0]) rfl (s_an rfl (pos_g I14 gA0 (by decide))) rfl ?_
    refine w_t (np := 29) (l2 := [some (eR a0)]) (s2 := [eR a0, eR a0]) rfl (s_an rfl (pos_g I14 gA0 (by decide))) rfl ?_
    refine w_gf (np := 32) (v := eR v9) rfl rfl (I14.kd gA0 (by decide) (n := 14) rfl) (by rw [(F15.k e10 gA0 (by decide) rfl)]; rfl) ?_
    refine j_gi (np := 35) rfl rfl rfl I14 b11 (by decide) (n := 4) rfl rfl (lo := 0) (hi := 12) rfl ?_
    intro v17 e18 b19
    refine w_cw (np := 38) (as := [eI (v17)]) (l2 := [some (eR a0), some (eI (v17))]) (rest := []) rfl rfl rfl (Nat.ble_eq.mp rfl) rfl rfl rfl (I14.kd gA0 (by decide) (n := 14) rfl) rfl ?_
    refine w_t (np := 1) (l2 := [some (eR a0), some (eI (v17))]) (s2 := [eR a0]) rfl (s_an rfl (pos_g I14 gA0 (by decide))) rfl ?_
    refine w_t (np := 2) (l2 := [some (eR a0), some (eI (v17))]) (s2 := [eI (0), eR a0]) rfl rfl rfl ?_
    refine j_pf (np := 5) (w := 0) rfl rfl I14 gA0 (by decide) (n := 14) rfl rfl (hO_i (lo := -2147483648) (hi := 2147483647) rfl (by decide)) ?_
    intro m20 I21 W22
    have F23 : Fr l_171 0 0 g μ m20 := F16.w W22 gA0 rfl
    refine w_t (np := 6) (l2 := [some (eR a0), some (eI (v17))]) (s2 := [eI (v17)]) rfl rfl rfl ?_
    refine b_ri rfl rfl ?_
    show ex_q (dt_fg L ρ) rc (d + 2, (171, 38, [some (eR a0)], [eI (v17)]), f :: F, m20)
    exact b_ri rfl rfl (K m20 (v17) I21 F23 (by omega))
  · have b9 : 0 ≤ v5 ∧ v5 ≤ 0 := by omega
    refine w_t (np := 11) (l2 := [some (eR a0)]) (s2 := [eR a0]) rfl (s_an rfl (pos_g hI gA0 (by decide))) rfl ?_
    refine w_t (np := 12) (l2 := [some (eR a0)]) (s2 := [eI (5), eR a0]) rfl rfl rfl ?_
    refine w_cw (np := 15) (as := [eI (5)]) (l2 := [some (eR a0), some (eI (5))]) (rest := []) rfl rfl rfl (Nat.ble_eq.mp rfl) rfl rfl rfl (hI.kd gA0 (by decide) (n := 14) rfl) rfl ?_
    refine w_t (np := 1) (l2 := [some (eR a0), some (eI (5))]) (s2 := [eR a0]) rfl (s_an rfl (pos_g hI gA0 (by decide))) rfl ?_
    refine w_t (np := 2) (l2 := [some (eR a0), some (eI (5))]) (s2 := [eI (5), eR a0]) rfl rfl rfl ?_
    refine j_pf (np := 5) (w := 5) rfl rfl hI gA0 (by decide) (n := 14) rfl rfl (hO_i (lo := -2147483648) (hi := 2147483647) rfl (by decide)) ?_
    intro m9 I10 W11
    have F12 : Fr l_171 0 0 g μ m9 := F0.w W11 gA0 rfl
    refine w_t (np := 6) (l2 := [some (eR a0), some (eI (5))]) (s2 := [eI (-1)]) rfl rfl rfl ?_
    refine b_ri rfl rfl ?_
    show ex_q (dt_fg L ρ) rc (d + 2, (171, 15, [some (eR a0)], [eI (-1)]), f :: F, m9)
    exact b_ri rfl rfl (K m9 (-1) I10 F12 (by decide))
def l_172 : List Nat := [270]
theorem s_172 {L : Nat} {ρ : Nat → Int} {rc : eQ} {d : Nat} {f : eFr} {F : List eFr} {μ : eM} {g : Nat → Nat} {a0 : Nat} {a1 : Int} {a2 : Int} {a3 : Int} (hI : SI g μ) (gA0 : g a0 = 1) (bA1 : -2147483648 ≤ a1 ∧ a1 ≤ 2147483647) (bA2 : -2147483648 ≤ a2 ∧ a2 ≤ 2147483647) (bA3 : -2147483648 ≤ a3 ∧ a3 ≤ 2147483647) (K : ∀ (μ2 : eM) (v : Int), SI g μ2 → Fr l_172 0 0 g μ μ2 → (-2147483648 ≤ v ∧ v ≤ 2147483647) → ex_q (dt_fg L ρ) rc (d + 2, (f.1, f.2.1, f.2.2.1, eI v :: f.2.2.2), F, μ2)) : ex_q (dt_fg L ρ) rc (d + 1, (172, 0, [some (eR a0), some (eI (a1)), some (eI (a2)), some (eI (a3)), none], []), f :: F, μ) := by
  have F0 : Fr l_172 0 0 g μ μ := Fr.r
  refine w_t (np := 1) (l2 := [some (eR a0), some (eI (a1)), some (eI (a2)), some (eI (a3)), none]) (s2 := [eI (a1)]) rfl rfl rfl ?_
  refine b_ilt (t1 := 22) (t2 := 4) rfl rfl rfl (ev_w_in (by omega) (by omega)) (fun g1 => ?_) (fun g1 => ?_)
  · have b2 : -2147483648 ≤ a1 ∧ a1 ≤ -1 := by omega
    refine w_t (np := 23) (l2 := [some (eR a0), some (eI (a1)), some (eI (a2)), some (eI (a3)), none]) (s2 := [eR a0]) rfl (s_an rfl (pos_g hI gA0 (by decide))) rfl ?_
    refine w_t (np := 24) (l2 := [some (eR a0), some (eI (a1)), some (eI (a2)), some (eI (a3)), none]) (s2 := [eI (1), eR a0]) rfl rfl rfl ?_
    refine w_cw (np := 27) (as := [eI (1)]) (l2 := [some (eR a0), some (eI (1))]) (rest := []) rfl rfl rfl (Nat.ble_eq.mp rfl) rfl rfl rfl (hI.kd gA0 (by decide) (n := 14) rfl) rfl ?_
    refine w_t (np := 1) (l2 := [some (eR a0), some (eI (1))]) (s2 := [eR a0]) rfl (s_an rfl (pos_g hI gA0 (by decide))) rfl ?_
    refine w_t (np := 2) (l2 := [some (eR a0), some (eI (1))]) (s2 := [eI (1), eR a0]) rfl rfl rfl ?_
    refine j_pf (np := 5) (w := 1) rfl rfl hI gA0 (by decide) (n := 14) rfl rfl (hO_i (lo := -2147483648) (hi := 2147483647) rfl (by decide)) ?_
    intro m2 I3 W4
    have F5 : Fr l_172 0 0 g μ m2 := F0.w W4 gA0 rfl
    refine w_t (np := 6) (l2 := [some (eR a0), some (eI (1))]) (s2 := [eI (-1)]) rfl rfl rfl ?_
    refine b_ri rfl rfl ?_
    show ex_q (dt_fg L ρ) rc (d + 1, (172, 27, [some (eR a0), some (eI (a1)), some (eI (a2)), some (eI (a3)), none], [eI (-1)]), f :: F, m2)
    exact b_ri rfl rfl (K m2 (-1) I3 F5 (by decide))
  · have b2 : 0 ≤ a1 ∧ a1 ≤ 2147483647 := by omega
    refine w_t (np := 5) (l2 := [some (eR a0), some (eI (a1)), some (eI (a2)), some (eI (a3)), none]) (s2 := [eI (a1)]) rfl rfl rfl ?_
    refine w_t (np := 6) (l2 := [some (eR a0), some (eI (a1)), some (eI (a2)), some (eI (a3)), none]) (s2 := [eI (1), eI (a1)]) rfl rfl rfl ?_
    refine b_cgt (t1 := 22) (t2 := 9) rfl rfl rfl (ev_w_in (by omega) (by omega)) rfl (fun g2 => ?_) (fun g2 => ?_)
    · have b3 : 2 ≤ a1 ∧ a1 ≤ 2147483647 := by omega
      refine w_t (np := 23) (l2 := [some (eR a0), some (eI (a1)), some (eI (a2)), some (eI (a3)), none]) (s2 := [eR a0]) rfl (s_an rfl (pos_g hI gA0 (by decide))) rfl ?_
      refine w_t (np := 24) (l2 := [some (eR a0), some (eI (a1)), some (eI (a2)), some (eI (a3)), none]) (s2 := [eI (1), eR a0]) rfl rfl rfl ?_
      refine w_cw (np := 27) (as := [eI (1)]) (l2 := [some (eR a0), some (eI (1))]) (rest := []) rfl rfl rfl (Nat.ble_eq.mp rfl) rfl rfl rfl (hI.kd gA0 (by decide) (n := 14) rfl) rfl ?_
      refine w_t (np := 1) (l2 := [some (eR a0), some (eI (1))]) (s2 := [eR a0]) rfl (s_an rfl (pos_g hI gA0 (by decide))) rfl ?_
      refine w_t (np := 2) (l2 := [some (eR a0), some (eI (1))]) (s2 := [eI (1), eR a0]) rfl rfl rfl ?_
      refine j_pf (np := 5) (w := 1) rfl rfl hI gA0 (by decide) (n := 14) rfl rfl (hO_i (lo := -2147483648) (hi := 2147483647) rfl (by decide)) ?_
      intro m3 I4 W5
      have F6 : Fr l_172 0 0 g μ m3 := F0.w W5 gA0 rfl
      refine w_t (np := 6) (l2 := [some (eR a0), some (eI (1))]) (s2 := [eI (-1)]) rfl rfl rfl ?_
      refine b_ri rfl rfl ?_
      show ex_q (dt_fg L ρ) rc (d + 1, (172, 27, [some (eR a0), some (eI (a1)), some (eI (a2)), some (eI (a3)), none], [eI (-1)]), f :: F, m3)
      exact b_ri rfl rfl (K m3 (-1) I4 F6 (by decide))
    · have b3 : 0 ≤ a1 ∧ a1 ≤ 1 := by omega
      refine w_t (np := 10) (l2 := [some (eR a0), some (eI (a1)), some (eI (a2)), some (eI (a3)), none]) (s2 := [eI (a2)]) rfl rfl rfl ?_
      refine b_ilt (t1 := 22) (t2 := 13) rfl rfl rfl (ev_w_in (by omega) (by omega)) (fun g3 => ?_) (fun g3 => ?_)
      · have b4 : -2147483648 ≤ a2 ∧ a2 ≤ -1 := by omega
        refine w_t (np := 23) (l2 := [some (eR a0), some (eI (a1)), some (eI (a2)), some (eI (a3)), none]) (s2 := [eR a0]) rfl (s_an rfl (pos_g hI gA0 (by decide))) rfl ?_
        refine w_t (np := 24) (l2 := [some (eR a0), some (eI (a1)), some (eI (a2)), some (eI (a3)), none]) (s2 := [eI (1), eR a0]) rfl rfl rfl ?_
        refine w_cw (np := 27) (as := [eI (1)]) (l2 := [some (eR a0), some (eI (1))]) (rest := []) rfl rfl rfl (Nat.ble_eq.mp rfl) rfl rfl rfl (hI.kd gA0 (by decide) (n := 14) rfl) rfl ?_
        refine w_t (np := 1) (l2 := [some (eR a0), some (eI (1))]) (s2 := [eR a0]) rfl (s_an rfl (pos_g hI gA0 (by decide))) rfl ?_
        refine w_t (np := 2) (l2 := [some (eR a0), some (eI (1))]) (s2 := [eI (1), eR a0]) rfl rfl rfl ?_
        refine j_pf (np := 5) (w := 1) rfl rfl hI gA0 (by decide) (n := 14) rfl rfl (hO_i (lo := -2147483648) (hi := 2147483647) rfl (by decide)) ?_
        intro m4 I5 W6
        have F7 : Fr l_172 0 0 g μ m4 := F0.w W6 gA0 rfl
        refine w_t (np := 6) (l2 := [some (eR a0), some (eI (1))]) (s2 := [eI (-1)]) rfl rfl rfl ?_
        refine b_ri rfl rfl ?_
        show ex_q (dt_fg L ρ) rc (d + 1, (172, 27, [some (eR a0), some (eI (a1)), some (eI (a2)), some (eI (a3)), none], [eI (-1)]), f :: F, m4)
        exact b_ri rfl rfl (K m4 (-1) I5 F7 (by decide))
      · have b4 : 0 ≤ a2 ∧ a2 ≤ 2147483647 := by omega
        refine w_t (np := 14) (l2 := [some (eR a0), some (eI (a1)), some (eI (a2)), some (eI (a3)), none]) (s2 := [eI (a3)]) rfl rfl rfl ?_
        refine b_ilt (t1 := 22) (t2 := 17) rfl rfl rfl (ev_w_in (by omega) (by omega)) (fun g4 => ?_) (fun g4 => ?_)
        · have b5 : -2147483648 ≤ a3 ∧ a3 ≤ -1 := by omega
          refine w_t (np := 23) (l2 := [some (eR a0), some (eI (a1)), some (eI (a2)), some (eI (a3)), none]) (s2 := [eR a0]) rfl (s_an rfl (pos_g hI gA0 (by decide))) rfl ?_
          refine w_t (np := 24) (l2 := [some (eR a0), some (eI (a1)), some (eI (a2)), some (eI (a3)), none]) (s2 := [eI (1), eR a0]) rfl rfl rfl ?_
          refine w_cw (np := 27) (as := [eI (1)]) (l2 := [some (eR a0), some (eI (1))]) (rest := []) rfl rfl rfl (Nat.ble_eq.mp rfl) rfl rfl rfl (hI.kd gA0 (by decide) (n := 14) rfl) rfl ?_
          refine w_t (np := 1) (l2 := [some (eR a0), some (eI (1))]) (s2 := [eR a0]) rfl (s_an rfl (pos_g hI gA0 (by decide))) rfl ?_
          refine w_t (np := 2) (l2 := [some (eR a0), some (eI (1))]) (s2 := [eI (1), eR a0]) rfl rfl rfl ?_
          refine j_pf (np := 5) (w := 1) rfl rfl hI gA0 (by decide) (n := 14) rfl rfl (hO_i (lo := -2147483648) (hi := 2147483647) rfl (by decide)) ?_
          intro m5 I6 W7
          have F8 : Fr l_172 0 0 g μ m5 := F0.w W7 gA0 rfl
          refine w_t (np := 6) (l2 := [some (eR a0), some (eI (1))]) (s2 := [eI (-1)]) rfl rfl rfl ?_
          refine b_ri rfl rfl ?_
          show ex_q (dt_fg L ρ) rc (d + 1, (172, 27, [some (eR a0), some (eI (a1)), some (eI (a2)), some (eI (a3)), none], [eI (-1)]), f :: F, m5)
          exact b_ri rfl rfl (K m5 (-1) I6 F8 (by decide))
        · have b5 : 0 ≤ a3 ∧ a3 ≤ 2147483647 := by omega
          refine w_t (np := 18) (l2 := [some (eR a0), some (eI (a1)), some (eI (a2)), some (eI (a3)), none]) (s2 := [eI (a3)]) rfl rfl rfl ?_
          refine w_t (np := 19) (l2 := [some (eR a0), some (eI (a1)), some (eI (a2)), some (eI (a3)), none]) (s2 := [eI (3), eI (a3)]) rfl rfl rfl ?_
          refine b_cle (t1 := 28) (t2 := 22) rfl rfl rfl (ev_w_in (by omega) (by omega)) rfl (fun g5 => ?_) (fun g5 => ?_)
          · have b6 : 0 ≤ a3 ∧ a3 ≤ 3 := by omega
            refine w_t (np := 29) (l2 := [some (eR a0), some (eI (a1)), some (eI (a2)), some (eI (a3)), none]) (s2 := [eI (a1)]) rfl rfl rfl ?_
            refine b_ine (t1 := 39) (t2 := 32) rfl rfl rfl (ev_w_in (by omega) (by omega)) (fun g6 => ?_) (fun g6 => ?_)
            · have b7 : 1 ≤ a1 ∧ a1 ≤ 1 := by omega
              refine w_t (np := 40) (l2 := [some (eR a0), some (eI (a1)), some (eI (a2)), some (eI (a3)), none]) (s2 := [eR a0]) rfl (s_an rfl (pos_g hI gA0 (by decide))) rfl ?_
              refine j_gr (np := 43) rfl rfl hI gA0 (by decide) (n := 14) rfl rfl rfl ?_
              intro v7 e8 b9 z10
              have b9 : g v7 = 18 := Nat.eq_of_beq_eq_true b9
              refine w_t (np := 45) (l2 := [some (eR a0), some (eI (a1)), some (eI (a2)), some (eI (a3)), some (eR v7)]) (s2 := []) rfl (s_so (Nat.ble_eq.mp rfl) (pos_g hI b9 (by decide)) rfl) rfl ?_
              refine w_t (np := 46) (l2 := [some (eR a0), some (eI (a1)), some (eI (a2)), some (eI (a3)), some (eR v7)]) (s2 := [eI (a2)]) rfl rfl rfl ?_
              refine w_t (np := 48) (l2 := [some (eR a0), some (eI (a1)), some (eI (a2)), some (eI (a3)), some (eR v7)]) (s2 := [eR v7, eI (a2)]) rfl (s_ao rfl (pos_g hI b9 (by decide))) rfl ?_
              refine j_gi (np := 51) rfl rfl rfl hI b9 (by decide) (n := 4) rfl rfl (lo := 0) (hi := 12) rfl ?_
              intro v11 e12 b13
              refine b_clt (t1 := 60) (t2 := 54) rfl rfl rfl (ev_w_in (by omega) (by omega)) (ev_w_in (by omega) (by omega)) (fun g14 => ?_) (fun g14 => ?_)
              · have b15 : 0 ≤ a2 ∧ a2 ≤ 11 := by omega
                have b16 : 1 ≤ v11 ∧ v11 ≤ 12 := by omega
                refine w_t (np := 61) (l2 := [some (eR a0), some (eI (a1)), some (eI (a2)), some (eI (a3)), some (eR v7)]) (s2 := [eR a0]) rfl (s_an rfl (pos_g hI gA0 (by decide))) rfl ?_
                refine w_t (np := 63) (l2 := [some (eR a0), some (eI (a1)), some (eI (a2)), some (eI (a3)), some (eR v7)]) (s2 := [eR v7, eR a0]) rfl (s_ao rfl (pos_g hI b9 (by decide))) rfl ?_
                refine w_t (np := 64) (l2 := [some (eR a0), some (eI (a1)), some (eI (a2)), some (eI (a3)), some (eR v7)]) (s2 := [eI (a2), eR v7, eR a0]) rfl rfl rfl ?_
                refine w_cw (np := 67) (as := [eI (a2)]) (l2 := [some (eR v7), some (eI (a2))]) (rest := [eR a0]) rfl rfl rfl (Nat.ble_eq.mp rfl) rfl rfl rfl (hI.kd b9 (by decide) (n := 4) rfl) rfl ?_
                refine s_105 (a1 := a2) hI b9 (by omega) ?_
                intro v15 b16
                show ex_q (dt_fg L ρ) rc (d + 1, (172, 67, [some (eR a0), some (eI (a1)), some (eI (a2)), some (eI (a3)), some (eR v7)], [eJ (v15), eR a0]), f :: F, μ)
                refine w_t (np := 68) (l2 := [some (eR a0), some (eI (a1)), some (eI (a2)), some (eI (a3)), some (eR v7)]) (s2 := [eI (a3), eJ (v15), eR a0]) rfl rfl rfl ?_
                refine w_cu (np := 71) (as := [eJ (v15), eI (a3)]) (l2 := [some (eJ (v15)), none, some (eI (a3))]) (rest := [eR a0]) rfl rfl rfl (Nat.ble_eq.mp rfl) rfl rfl rfl rfl ?_
                refine s_73 (a2 := a3) hI b16 (by omega) ?_
                intro v17 b18
                show ex_q (dt_fg L ρ) rc (d + 1, (172, 71, [some (eR a0), some (eI (a1)), some (eI (a2)), some (eI (a3)), some (eR v7)], [eI (v17), eR a0]), f :: F, μ)
                refine w_cw (np := 74) (as := [eI (v17)]) (l2 := [some (eR a0), some (eI (v17))]) (rest := []) rfl rfl rfl (Nat.ble_eq.mp rfl) rfl rfl rfl (hI.kd gA0 (by decide) (n := 14) rfl) rfl ?_
                refine w_t (np := 1) (l2 := [some (eR a0), some (eI (v17))]) (s2 := [eR a0]) rfl (s_an rfl (pos_g hI gA0 (by decide))) rfl ?_
                refine w_t (np := 2) (l2 := [some (eR a0), some (eI (v17))]) (s2 := [eI (0), eR a0]) rfl rfl rfl ?_
                refine j_pf (np := 5) (w := 0) rfl rfl hI gA0 (by decide) (n := 14) rfl rfl (hO_i (lo := -2147483648) (hi := 2147483647) rfl (by decide)) ?_
                intro m19 I20 W21
                have F22 : Fr l_172 0 0 g μ m19 := F0.w W21 gA0 rfl
                refine w_t (np := 6) (l2 := [some (eR a0), some (eI (v17))]) (s2 := [eI (v17)]) rfl rfl rfl ?_
                refine b_ri rfl rfl ?_
                show ex_q (dt_fg L ρ) rc (d + 1, (172, 74, [some (eR a0), some (eI (a1)), some (eI (a2)), some (eI (a3)), some (eR v7)], [eI (v17)]), f :: F, m19)
                exact b_ri rfl rfl (K m19 (v17) I20 F22 (by omega))
              · refine w_t (np := 55) (l2 := [some (eR a0), some (eI (a1)), some (eI (a2)), some (eI (a3)), some (eR v7)]) (s2 := [eR a0]) rfl (s_an rfl (pos_g hI gA0 (by decide))) rfl ?_
                refine w_t (np := 56) (l2 := [some (eR a0), some (eI (a1)), some (eI (a2)), some (eI (a3)), some (eR v7)]) (s2 := [eI (5), eR a0]) rfl rfl rfl ?_
                refine w_cw (np := 59) (as := [eI (5)]) (l2 := [some (eR a0), some (eI (5))]) (rest := []) rfl rfl rfl (Nat.ble_eq.mp rfl) rfl rfl rfl (hI.kd gA0 (by decide) (n := 14) rfl) rfl ?_
                refine w_t (np := 1) (l2 := [some (eR a0), some (eI (5))]) (s2 := [eR a0]) rfl (s_an rfl (pos_g hI gA0 (by decide))) rfl ?_
                refine w_t (np := 2) (l2 := [some (eR a0), some (eI (5))]) (s2 := [eI (5), eR a0]) rfl rfl rfl ?_
                refine j_pf (np := 5) (w := 5) rfl rfl hI gA0 (by decide) (n := 14) rfl rfl (hO_i (lo := -2147483648) (hi := 2147483647) rfl (by decide)) ?_
                intro m15 I16 W17
                have F18 : Fr l_172 0 0 g μ m15 := F0.w W17 gA0 rfl
                refine w_t (np := 6) (l2 := [some (eR a0), some (eI (5))]) (s2 := [eI (-1)]) rfl rfl rfl ?_
                refine b_ri rfl rfl ?_
                show ex_q (dt_fg L ρ) rc (d + 1, (172, 59, [some (eR a0), some (eI (a1)), some (eI (a2)), some (eI (a3)), some (eR v7)], [eI (-1)]), f :: F, m15)
                exact b_ri rfl rfl (K m15 (-1) I16 F18 (by decide))
            · have b7 : 0 ≤ a1 ∧ a1 ≤ 0 := by omega
              refine w_t (np := 33) (l2 := [some (eR a0), some (eI (a1)), some (eI (a2)), some (eI (a3)), none]) (s2 := [eR a0]) rfl (s_an rfl (pos_g hI gA0 (by decide))) rfl ?_
              refine j_gr (np := 36) rfl rfl hI gA0 (by decide) (n := 14) rfl rfl rfl ?_
              intro v7 e8 b9 z10
              have b9 : g v7 = 18 := Nat.eq_of_beq_eq_true b9
              refine w_go (t1 := 43) rfl rfl ?_
              refine w_t (np := 45) (l2 := [some (eR a0), some (eI (a1)), some (eI (a2)), some (eI (a3)), some (eR v7)]) (s2 := []) rfl (s_so (Nat.ble_eq.mp rfl) (pos_g hI b9 (by decide)) rfl) rfl ?_
              refine w_t (np := 46) (l2 := [some (eR a0), some (eI (a1)), some (eI (a2)), some (eI (a3)), some (eR v7)]) (s2 := [eI (a2)]) rfl rfl rfl ?_
              refine w_t (np := 48) (l2 := [some (eR a0), some (eI (a1)), some (eI (a2)), some (eI (a3)), some (eR v7)]) (s2 := [eR v7, eI (a2)]) rfl (s_ao rfl (pos_g hI b9 (by decide))) rfl ?_
              refine j_gi (np := 51) rfl rfl rfl hI b9 (by decide) (n := 4) rfl rfl (lo := 0) (hi := 12) rfl ?_
              intro v11 e12 b13
              refine b_clt (t1 := 60) (t2 := 54) rfl rfl rfl (ev_w_in (by omega) (by omega)) (ev_w_in (by omega) (by omega)) (fun g14 => ?_) (fun g14 => ?_)
              · have b15 : 0 ≤ a2 ∧ a2 ≤ 11 := by omega
                have b16 : 1 ≤ v11 ∧ v11 ≤ 12 := by omega
                refine w_t (np := 61) (l2 := [some (eR a0), some (eI (a1)), some (eI (a2)), some (eI (a3)), some (eR v7)]) (s2 := [eR a0]) rfl (s_an rfl (pos_g hI gA0 (by decide))) rfl ?_
                refine w_t (np := 63) (l2 := [some (eR a0), some (eI (a1)), some (eI (a2)), some (eI (a3)), some (eR v7)]) (s2 := [eR v7, eR a0]) rfl (s_ao rfl (pos_g hI b9 (by decide))) rfl ?_
                refine w_t (np := 64) (l2 := [some (eR a0), some (eI (a1)), some (eI (a2)), some (eI (a3)), some (eR v7)]) (s2 := [eI (a2), eR v7, eR a0]) rfl rfl rfl ?_
                refine w_cw (np := 67) (as := [eI (a2)]) (l2 := [some (eR v7), some (eI (a2))]) (rest := [eR a0]) rfl rfl rfl (Nat.ble_eq.mp rfl) rfl rfl rfl (hI.kd b9 (by decide) (n := 4) rfl) rfl ?_
                refine s_105 (a1 := a2) hI b9 (by omega) ?_
                intro v15 b16
                show ex_q (dt_fg L ρ) rc (d + 1, (172, 67, [some (eR a0), some (eI (a1)), some (eI (a2)), some (eI (a3)), some (eR v7)], [eJ (v15), eR a0]), f :: F, μ)
                refine w_t (np := 68) (l2 := [some (eR a0), some (eI (a1)), some (eI (a2)), some (eI (a3)), some (eR v7)]) (s2 := [eI (a3), eJ (v15), eR a0]) rfl rfl rfl ?_
                refine w_cu (np := 71) (as := [eJ (v15), eI (a3)]) (l2 := [some (eJ (v15)), none, some (eI (a3))]) (rest := [eR a0]) rfl rfl rfl (Nat.ble_eq.mp rfl) rfl rfl rfl rfl ?_
                refine s_73 (a2 := a3) hI b16 (by omega) ?_
                intro v17 b18
                show ex_q (dt_fg L ρ) rc (d + 1, (172, 71, [some (eR a0), some (eI (a1)), some (eI (a2)), some (eI (a3)), some (eR v7)], [eI (v17), eR a0]), f :: F, μ)
                refine w_cw (np := 74) (as := [eI (v17)]) (l2 := [some (eR a0), some (eI (v17))]) (rest := []) rfl rfl rfl (Nat.ble_eq.mp rfl) rfl rfl rfl (hI.kd gA0 (by decide) (n := 14) rfl) rfl ?_
                refine w_t (np := 1) (l2 := [some (eR a0), some (eI (v17))]) (s2 := [eR a0]) rfl (s_an rfl (pos_g hI gA0 (by decide))) rfl ?_
                refine w_t (np := 2) (l2 := [some (eR a0), some (eI (v17))]) (s2 := [eI (0), eR a0]) rfl rfl rfl ?_
                refine j_pf (np := 5) (w := 0) rfl rfl hI gA0 (by decide) (n := 14) rfl rfl (hO_i (lo := -2147483648) (hi := 2147483647) rfl (by decide)) ?_
                intro m19 I20 W21
                have F22 : Fr l_172 0 0 g μ m19 := F0.w W21 gA0 rfl
                refine w_t (np := 6) (l2 := [some (eR a0), some (eI (v17))]) (s2 := [eI (v17)]) rfl rfl rfl ?_
                refine b_ri rfl rfl ?_
                show ex_q (dt_fg L ρ) rc (d + 1, (172, 74, [some (eR a0), some (eI (a1)), some (eI (a2)), some (eI (a3)), some (eR v7)], [eI (v17)]), f :: F, m19)
                exact b_ri rfl rfl (K m19 (v17) I20 F22 (by omega))
              · refine w_t (np := 55) (l2 := [some (eR a0), some (eI (a1)), some (eI (a2)), some (eI (a3)), some (eR v7)]) (s2 := [eR a0]) rfl (s_an rfl (pos_g hI gA0 (by decide))) rfl ?_
                refine w_t (np := 56) (l2 := [some (eR a0), some (eI (a1)), some (eI (a2)), some (eI (a3)), some (eR v7)]) (s2 := [eI (5), eR a0]) rfl rfl rfl ?_
                refine w_cw (np := 59) (as := [eI (5)]) (l2 := [some (eR a0), some (eI (5))]) (rest := []) rfl rfl rfl (Nat.ble_eq.mp rfl) rfl rfl rfl (hI.kd gA0 (by decide) (n := 14) rfl) rfl ?_
                refine w_t (np := 1) (l2 := [some (eR a0), some (eI (5))]) (s2 := [eR a0]) rfl (s_an rfl (pos_g hI gA0 (by decide))) rfl ?_
                refine w_t (np := 2) (l2 := [some (eR a0), some (eI (5))]) (s2 := [eI (5), eR a0]) rfl rfl rfl ?_
                refine j_pf (np := 5) (w := 5) rfl rfl hI gA0 (by decide) (n := 14) rfl rfl (hO_i (lo := -2147483648) (hi := 2147483647) rfl (by decide)) ?_
                intro m15 I16 W17
                have F18 : Fr l_172 0 0 g μ m15 := F0.w W17 gA0 rfl
                refine w_t (np := 6) (l2 := [some (eR a0), some (eI (5))]) (s2 := [eI (-1)]) rfl rfl rfl ?_
                refine b_ri rfl rfl ?_
                show ex_q (dt_fg L ρ) rc (d + 1, (172, 59, [some (eR a0), some (eI (a1)), some (eI (a2)), some (eI (a3)), some (eR v7)], [eI (-1)]), f :: F, m15)
                exact b_ri rfl rfl (K m15 (-1) I16 F18 (by decide))
          · have b6 : 4 ≤ a3 ∧ a3 ≤ 2147483647 := by omega
            refine w_t (np := 23) (l2 := [some (eR a0), some (eI (a1)), some (eI (a2)), some (eI (a3)), none]) (s2 := [eR a0]) rfl (s_an rfl (pos_g hI gA0 (by decide))) rfl ?_
            refine w_t (np := 24) (l2 := [some (eR a0), some (eI (a1)), some (eI (a2)), some (eI (a3)), none]) (s2 := [eI (1), eR a0]) rfl rfl rfl ?_
            refine w_cw (np := 27) (as := [eI (1)]) (l2 := [some (eR a0), some (eI (1))]) (rest := []) rfl rfl rfl (Nat.ble_eq.mp rfl) rfl rfl rfl (hI.kd gA0 (by decide) (n := 14) rfl) rfl ?_
            refine w_t (np := 1) (l2 := [some (eR a0), some (eI (1))]) (s2 := [eR a0]) rfl (s_an rfl (pos_g hI gA0 (by decide))) rfl ?_
            refine w_t (np := 2) (l2 := [some (eR a0), some (eI (1))]) (s2 := [eI (1), eR a0]) rfl rfl rfl ?_
            refine j_pf (np := 5) (w := 1) rfl rfl hI gA0 (by decide) (n := 14) rfl rfl (hO_i (lo := -2147483648) (hi := 2147483647) rfl (by decide)) ?_
            intro m6 I7 W8
            have F9 : Fr l_172 0 0 g μ m6 := F0.w W8 gA0 rfl
            refine w_t (np := 6) (l2 := [some (eR a0), some (eI (1))]) (s2 := [eI (-1)]) rfl rfl rfl ?_
            refine b_ri rfl rfl ?_
            show ex_q (dt_fg L ρ) rc (d + 1, (172, 27, [some (eR a0), some (eI (a1)), some (eI (a2)), some (eI (a3)), none], [eI (-1)]), f :: F, m6)
            exact b_ri rfl rfl (K m6 (-1) I7 F9 (by decide))
def l_173 : List Nat := [270]
theorem s_173 {L : Nat} {ρ : Nat → Int} {rc : eQ} {d : Nat} {f : eFr} {F : List eFr} {μ : eM} {g : Nat → Nat} {a0 : Nat} {a1 : Int} {a2 : Int} (hI : SI g μ) (gA0 : g a0 = 1) (bA1 : -2147483648 ≤ a1 ∧ a1 ≤ 2147483647) (bA2 : -2147483648 ≤ a2 ∧ a2 ≤ 2147483647) (K : ∀ (μ2 : eM) (v : Int), SI g μ2 → Fr l_173 0 0 g μ μ2 → (-2147483648 ≤ v ∧ v ≤ 2147483647) → ex_q (dt_fg L ρ) rc (d + 3, (f.1, f.2.1, f.2.2.1, eI v :: f.2.2.2), F, μ2)) : ex_q (dt_fg L ρ) rc (d + 2, (173, 0, [some (eR a0), some (eI (a1)), some (eI (a2))], []), f :: F, μ) := by
  have F0 : Fr l_173 0 0 g μ μ := Fr.r
  refine w_t (np := 1) (l2 := [some (eR a0), some (eI (a1)), some (eI (a2))]) (s2 := [eR a0]) rfl (s_an rfl (pos_g hI gA0 (by decide))) rfl ?_
  refine j_gr (np := 4) rfl rfl hI gA0 (by decide) (n := 14) rfl rfl rfl ?_
  intro v1 e2 b3 z4
  rcases hor2 b3 with b3 | b3
  · refine w_t (np := 5) (l2 := [some (eR a0), some (eI (a1)), some (eI (a2))]) (s2 := [eI (a1), eR v1]) rfl rfl rfl ?_
    refine w_cw (np := 8) (as := [eI (a1)]) (l2 := [some (eR v1), some (eI (a1))]) (rest := []) rfl rfl rfl (Nat.ble_eq.mp rfl) rfl rfl rfl (hI.kd b3 (by decide) (n := 8) rfl) rfl ?_
    refine w_t (np := 1) (l2 := [some (eR v1), some (eI (a1))]) (s2 := [eI (a1)]) rfl rfl rfl ?_
    refine b_ilt (t1 := 12) (t2 := 4) rfl rfl rfl (ev_w_in (by omega) (by omega)) (fun g5 => ?_) (fun g5 => ?_)
    · have b6 : -2147483648 ≤ a1 ∧ a1 ≤ -1 := by omega
      refine w_t (np := 13) (l2 := [some (eR v1), some (eI (a1))]) (s2 := [eI (1)]) rfl rfl rfl ?_
      refine w_go (t1 := 17) rfl rfl ?_
      refine b_rz rfl rfl (Or.inr rfl) ?_
      show ex_q (dt_fg L ρ) rc (d + 2, (173, 8, [some (eR a0), some (eI (a1)), some (eI (a2))], [eI (1)]), f :: F, μ)
      refine b_ine (t1 := 22) (t2 := 11) rfl rfl rfl rfl (fun g6 => ?_) (fun g6 => absurd g6 (by decide))
      refine w_t (np := 23) (l2 := [some (eR a0), some (eI (a1)), some (eI (a2))]) (s2 := [eR a0]) rfl (s_an rfl (pos_g hI gA0 (by decide))) rfl ?_
      refine w_t (np := 24) (l2 := [some (eR a0), some (eI (a1)), some (eI (a2))]) (s2 := [eI (2), eR a0]) rfl rfl rfl ?_
      refine w_cw (np := 27) (as := [eI (2)]) (l2 := [some (eR a0), some (eI (2))]) (rest := []) rfl rfl rfl (Nat.ble_eq.mp rfl) rfl rfl rfl (hI.kd gA0 (by decide) (n := 14) rfl) rfl ?_
      refine w_t (np := 1) (l2 := [some (eR a0), some (eI (2))]) (s2 := [eR a0]) rfl (s_an rfl (pos_g hI gA0 (by decide))) rfl ?_
      refine w_t (np := 2) (l2 := [some (eR a0), some (eI (2))]) (s2 := [eI (2), eR a0]) rfl rfl rfl ?_
      refine j_pf (np := 5) (w := 2) rfl rfl hI gA0 (by decide) (n := 14) rfl rfl (hO_i (lo := -2147483648) (hi := 2147483647) rfl (by decide)) ?_
      intro m7 I8 W9
      have F10 : Fr l_173 0 0 g μ m7 := F0.w W9 gA0 rfl
      refine w_t (np := 6) (l2 := [some (eR a0), some (eI (2))]) (s2 := [eI (-1)]) rfl rfl rfl ?_
      refine b_ri rfl rfl ?_
      show ex_q (dt_fg L ρ) rc (d + 2, (173, 27, [some (eR a0), some (eI (a1)), some (eI (a2))], [eI (-1)]), f :: F, m7)
      exact b_ri rfl rfl (K m7 (-1) I8 F10 (by decide))
    · have b6 : 0 ≤ a1 ∧ a1 ≤ 2147483647 := by omega
      refine w_t (np := 5) (l2 := [some (eR v1), some (eI (a1))]) (s2 := [eI (a1)]) rfl rfl rfl ?_
      refine w_t (np := 6) (l2 := [some (eR v1), some (eI (a1))]) (s2 := [eR v1, eI (a1)]) rfl (s_an rfl (pos_g hI b3 (by decide))) rfl ?_
      refine j_gi (np := 9) rfl rfl rfl hI b3 (by decide) (n := 8) rfl rfl (lo := 0) (hi := 50) rfl ?_
      intro v6 e7 b8
      refine b_clt (t1 := 16) (t2 := 12) rfl rfl rfl (ev_w_in (by omega) (by omega)) (ev_w_in (by omega) (by omega)) (fun g9 => ?_) (fun g9 => ?_)
      · have b10 : 0 ≤ a1 ∧ a1 ≤ 49 := by omega
        have b11 : 1 ≤ v6 ∧ v6 ≤ 50 := by omega
        refine w_t (np := 17) (l2 := [some (eR v1), some (eI (a1))]) (s2 := [eI (0)]) rfl rfl rfl ?_
        refine b_rz rfl rfl (Or.inl rfl) ?_
        show ex_q (dt_fg L ρ) rc (d + 2, (173, 8, [some (eR a0), some (eI (a1)), some (eI (a2))], [eI (0)]), f :: F, μ)
        refine b_ine (t1 := 22) (t2 := 11) rfl rfl rfl rfl (fun g10 => absurd g10 (by decide)) (fun g10 => ?_)
        refine w_t (np := 12) (l2 := [some (eR a0), some (eI (a1)), some (eI (a2))]) (s2 := [eR a0]) rfl (s_an rfl (pos_g hI gA0 (by decide))) rfl ?_
        refine w_gf (np := 15) (v := eR v1) rfl rfl (hI.kd gA0 (by decide) (n := 14) rfl) (by rw [e2]; rfl) ?_
        refine w_t (np := 16) (l2 := [some (eR a0), some (eI (a1)), some (eI (a2))]) (s2 := [eI (a2), eR v1]) rfl rfl rfl ?_
        refine w_cw (np := 19) (as := [eI (a2)]) (l2 := [some (eR v1), some (eI (a2))]) (rest := []) rfl rfl rfl (Nat.ble_eq.mp rfl) rfl rfl rfl (hI.kd b3 (by decide) (n := 8) rfl) rfl ?_
        refine w_t (np := 1) (l2 := [some (eR v1), some (eI (a2))]) (s2 := [eI (a2)]) rfl rfl rfl ?_
        refine b_ilt (t1 := 12) (t2 := 4) rfl rfl rfl (ev_w_in (by omega) (by omega)) (fun g11 => ?_) (fun g11 => ?_)
        · have b12 : -2147483648 ≤ a2 ∧ a2 ≤ -1 := by omega
          refine w_t (np := 13) (l2 := [some (eR v1), some (eI (a2))]) (s2 := [eI (1)]) rfl rfl rfl ?_
          refine w_go (t1 := 17) rfl rfl ?_
          refine b_rz rfl rfl (Or.inr rfl) ?_
          show ex_q (dt_fg L ρ) rc (d + 2, (173, 19, [some (eR a0), some (eI (a1)), some (eI (a2))], [eI (1)]), f :: F, μ)
          refine b_ieq (t1 := 28) (t2 := 22) rfl rfl rfl rfl (fun g12 => absurd g12 (by decide)) (fun g12 => ?_)
          refine w_t (np := 23) (l2 := [some (eR a0), some (eI (a1)), some (eI (a2))]) (s2 := [eR a0]) rfl (s_an rfl (pos_g hI gA0 (by decide))) rfl ?_
          refine w_t (np := 24) (l2 := [some (eR a0), some (eI (a1)), some (eI (a2))]) (s2 := [eI (2), eR a0]) rfl rfl rfl ?_
          refine w_cw (np := 27) (as := [eI (2)]) (l2 := [some (eR a0), some (eI (2))]) (rest := []) rfl rfl rfl (Nat.ble_eq.mp rfl) rfl rfl rfl (hI.kd gA0 (by decide) (n := 14) rfl) rfl ?_
          refine w_t (np := 1) (l2 := [some (eR a0), some (eI (2))]) (s2 := [eR a0]) rfl (s_an rfl (pos_g hI gA0 (by decide))) rfl ?_
          refine w_t (np := 2) (l2 := [some (eR a0), some (eI (2))]) (s2 := [eI (2), eR a0]) rfl rfl rfl ?_
          refine j_pf (np := 5) (w := 2) rfl rfl hI gA0 (by decide) (n := 14) rfl rfl (hO_i (lo := -2147483648) (hi := 2147483647) rfl (by decide)) ?_
          intro m13 I14 W15
          have F16 : Fr l_173 0 0 g μ m13 := F0.w W15 gA0 rfl
          refine w_t (np := 6) (l2 := [some (eR a0), some (eI (2))]) (s2 := [eI (-1)]) rfl rfl rfl ?_
          refine b_ri rfl rfl ?_
          show ex_q (dt_fg L ρ) rc (d + 2, (173, 27, [some (eR a0), some (eI (a1)), some (eI (a2))], [eI (-1)]), f :: F, m13)
          exact b_ri rfl rfl (K m13 (-1) I14 F16 (by decide))
        · have b12 : 0 ≤ a2 ∧ a2 ≤ 2147483647 := by omega
          refine w_t (np := 5) (l2 := [some (eR v1), some (eI (a2))]) (s2 := [eI (a2)]) rfl rfl rfl ?_
          refine w_t (np := 6) (l2 := [some (eR v1), some (eI (a2))]) (s2 := [eR v1, eI (a2)]) rfl (s_an rfl (pos_g hI b3 (by decide))) rfl ?_
          refine w_gf (np := 9) (v := eI (v6)) rfl rfl (hI.kd b3 (by decide) (n := 8) rfl) (by rw [e7]; rfl) ?_
          refine b_clt (t1 := 16) (t2 := 12) rfl rfl rfl (ev_w_in (by omega) (by omega)) (ev_w_in (by omega) (by omega)) (fun g12 => ?_) (fun g12 => ?_)
          · have b13 : 0 ≤ a2 ∧ a2 ≤ 49 := by omega
            refine w_t (np := 17) (l2 := [some (eR v1), some (eI (a2))]) (s2 := [eI (0)]) rfl rfl rfl ?_
            refine b_rz rfl rfl (Or.inl rfl) ?_
            show ex_q (dt_fg L ρ) rc (d + 2, (173, 19, [some (eR a0), some (eI (a1)), some (eI (a2))], [eI (0)]), f :: F, μ)
            refine b_ieq (t1 := 28) (t2 := 22) rfl rfl rfl rfl (fun g13 => ?_) (fun g13 => absurd g13 (by decide))
            refine w_t (np := 29) (l2 := [some (eR a0), some (eI (a1)), some (eI (a2))]) (s2 := [eR a0]) rfl (s_an rfl (pos_g hI gA0 (by decide))) rfl ?_
            refine w_t (np := 30) (l2 := [some (eR a0), some (eI (a1)), some (eI (a2))]) (s2 := [eR a0, eR a0]) rfl (s_an rfl (pos_g hI gA0 (by decide))) rfl ?_
            refine w_gf (np := 33) (v := eR v1) rfl rfl (hI.kd gA0 (by decide) (n := 14) rfl) (by rw [e2]; rfl) ?_
            refine w_t (np := 34) (l2 := [some (eR a0), some (eI (a1)), some (eI (a2))]) (s2 := [eI (a1), eR v1, eR a0]) rfl rfl rfl ?_
            refine w_t (np := 35) (l2 := [some (eR a0), some (eI (a1)), some (eI (a2))]) (s2 := [eI (a2), eI (a1), eR v1, eR a0]) rfl rfl rfl ?_
            refine w_cw (np := 38) (as := [eI (a1), eI (a2)]) (l2 := [some (eR v1), some (eI (a1)), some (eI (a2)), none, none, none]) (rest := [eR a0]) rfl rfl rfl (Nat.ble_eq.mp rfl) rfl rfl rfl (hI.kd b3 (by decide) (n := 8) rfl) rfl ?_
            refine s_39 (a1 := a1) (a2 := a2) hI b3 (by omega) (by omega) ?_
            intro v14 b15
            show ex_q (dt_fg L ρ) rc (d + 2, (173, 38, [some (eR a0), some (eI (a1)), some (eI (a2))], [eI (v14), eR a0]), f :: F, μ)
            refine w_cw (np := 41) (as := [eI (v14)]) (l2 := [some (eR a0), some (eI (v14))]) (rest := []) rfl rfl rfl (Nat.ble_eq.mp rfl) rfl rfl rfl (hI.kd gA0 (by decide) (n := 14) rfl) rfl ?_
            refine w_t (np := 1) (l2 := [some (eR a0), some (eI (v14))]) (s2 := [eI (v14)]) rfl rfl rfl ?_
            refine b_ige (t1 := 12) (t2 := 4) rfl rfl rfl (ev_w_in (by omega) (by omega)) (fun g16 => ?_) (fun g16 => ?_)
            · have b17 : 0 ≤ v14 ∧ v14 ≤ 2147483647 := by omega
              refine w_t (np := 13) (l2 := [some (eR a0), some (eI (v14))]) (s2 := [eR a0]) rfl (s_an rfl (pos_g hI gA0 (by decide))) rfl ?_
              refine w_t (np := 14) (l2 := [some (eR a0), some (eI (v14))]) (s2 := [eI (v14), eR a0]) rfl rfl rfl ?_
              refine w_cw (np := 17) (as := [eI (v14)]) (l2 := [some (eR a0), some (eI (v14))]) (rest := []) rfl rfl rfl (Nat.ble_eq.mp rfl) rfl rfl rfl (hI.kd gA0 (by decide) (n := 14) rfl) rfl ?_
              refine w_t (np := 1) (l2 := [some (eR a0), some (eI (v14))]) (s2 := [eR a0]) rfl (s_an rfl (pos_g hI gA0 (by decide))) rfl ?_
              refine w_t (np := 2) (l2 := [some (eR a0), some (eI (v14))]) (s2 := [eI (0), eR a0]) rfl rfl rfl ?_
              refine j_pf (np := 5) (w := 0) rfl rfl hI gA0 (by decide) (n := 14) rfl rfl (hO_i (lo := -2147483648) (hi := 2147483647) rfl (by decide)) ?_
              intro m17 I18 W19
              have F20 : Fr l_173 0 0 g μ m17 := F0.w W19 gA0 rfl
              refine w_t (np := 6) (l2 := [some (eR a0), some (eI (v14))]) (s2 := [eI (v14)]) rfl rfl rfl ?_
              refine b_ri rfl rfl ?_
              show ex_q (dt_fg L ρ) rc (d + 1, (207, 17, [some (eR a0), some (eI (v14))], [eI (v14)]), (173, 41, [some (eR a0), some (eI (a1)), some (eI (a2))], []) :: f :: F, m17)
              refine b_ri rfl rfl ?_
              show ex_q (dt_fg L ρ) rc (d + 2, (173, 41, [some (eR a0), some (eI (a1)), some (eI (a2))], [eI (v14)]), f :: F, m17)
              exact b_ri rfl rfl (K m17 (v14) I18 F20 (by omega))
            · have b17 : -2147483648 ≤ v14 ∧ v14 ≤ -1 := by omega
              refine w_t (np := 5) (l2 := [some (eR a0), some (eI (v14))]) (s2 := [eR a0]) rfl (s_an rfl (pos_g hI gA0 (by decide))) rfl ?_
              refine w_t (np := 6) (l2 := [some (eR a0), some (eI (v14))]) (s2 := [eI (5), eR a0]) rfl rfl rfl ?_
              refine w_cw (np := 9) (as := [eI (5)]) (l2 := [some (eR a0), some (eI (5))]) (rest := []) rfl rfl rfl (Nat.ble_eq.mp rfl) rfl rfl rfl (hI.kd gA0 (by decide) (n := 14) rfl) rfl ?_
              refine w_t (np := 1) (l2 := [some (eR a0), some (eI (5))]) (s2 := [eR a0]) rfl (s_an rfl (pos_g hI gA0 (by decide))) rfl ?_
              refine w_t (np := 2) (l2 := [some (eR a0), some (eI (5))]) (s2 := [eI (5), eR a0]) rfl rfl rfl ?_
              refine j_pf (np := 5) (w := 5) rfl rfl hI gA0 (by decide) (n := 14) rfl rfl (hO_i (lo := -2147483648) (hi := 2147483647) rfl (by decide)) ?_
              intro m17 I18 W19
              have F20 : Fr l_173 0 0 g μ m17 := F0.w W19 gA0 rfl
              refine w_t (np := 6) (l2 := [some (eR a0), some (eI (5))]) (s2 := [eI (-1)]) rfl rfl rfl ?_
              refine b_ri rfl rfl ?_
              show ex_q (dt_fg L ρ) rc (d + 1, (207, 9, [some (eR a0), some (eI (v14))], [eI (-1)]), (173, 41, [some (eR a0), some (eI (a1)), some (eI (a2))], []) :: f :: F, m17)
              refine w_go (t1 := 17) rfl rfl ?_
              refine b_ri rfl rfl ?_
              show ex_q (dt_fg L ρ) rc (d + 2, (173, 41, [some (eR a0), some (eI (a1)), some (eI (a2))], [eI (-1)]), f :: F, m17)
              exact b_ri rfl rfl (K m17 (-1) I18 F20 (by decide))
          · have b13 : 1 ≤ a2 ∧ a2 ≤ 2147483647 := by omega
            refine w_t (np := 13) (l2 := [some (eR v1), some (eI (a2))]) (s2 := [eI (1)]) rfl rfl rfl ?_
            refine w_go (t1 := 17) rfl rfl ?_
            refine b_rz rfl rfl (Or.inr rfl) ?_
            show ex_q (dt_fg L ρ) rc (d + 2, (173, 19, [some (eR a0), some (eI (a1)), some (eI (a2))], [eI (1)]), f :: F, μ)
            refine b_ieq (t1 := 28) (t2 := 22) rfl rfl rfl rfl (fun g13 => absurd g13 (by decide)) (fun g13 => ?_)
            refine w_t (np := 23) (l2 := [some (eR a0), some (eI (a1)), some (eI (a2))]) (s2 := [eR a0]) rfl (s_an rfl (pos_g hI gA0 (by decide))) rfl ?_
            refine w_t (np := 24) (l2 := [some (eR a0), some (eI (a1)), some (eI (a2))]) (s2 := [eI (2), eR a0]) rfl rfl rfl ?_
            refine w_cw (np := 27) (as := [eI (2)]) (l2 := [some (eR a0), some (eI (2))]) (rest := []) rfl rfl rfl (Nat.ble_eq.mp rfl) rfl rfl rfl (hI.kd gA0 (by decide) (n := 14) rfl) rfl ?_
            refine w_t (np := 1) (l2 := [some (eR a0), some (eI (2))]) (s2 := [eR a0]) rfl (s_an rfl (pos_g hI gA0 (by decide))) rfl ?_
            refine w_t (np := 2) (l2 := [some (eR a0), some (eI (2))]) (s2 := [eI (2), eR a0]) rfl rfl rfl ?_
            refine j_pf (np := 5) (w := 2) rfl rfl hI gA0 (by decide) (n := 14) rfl rfl (hO_i (lo := -2147483648) (hi := 2147483647) rfl (by decide)) ?_
            intro m14 I15 W16
            have F17 : Fr l_173 0 0 g μ m14 := F0.w W16 gA0 rfl
            refine w_t (np := 6) (l2 := [some (eR a0), some (eI (2))]) (s2 := [eI (-1)]) rfl rfl rfl ?_
            refine b_ri rfl rfl ?_
            show ex_q (dt_fg L ρ) rc (d + 2, (173, 27, [some (eR a0), some (eI (a1)), some (eI (a2))], [eI (-1)]), f :: F, m14)
            exact b_ri rfl rfl (K m14 (-1) I15 F17 (by decide))
      · refine w_t (np := 13) (l2 := [some (eR v1), some (eI (a1))]) (s2 := [eI (1)]) rfl rfl rfl ?_
        refine w_go (t1 := 17) rfl rfl ?_
        refine b_rz rfl rfl (Or.inr rfl) ?_
        show ex_q (dt_fg L ρ) rc (d + 2, (173, 8, [some (eR a0), some (eI (a1)), some (eI (a2))], [eI (1)]), f :: F, μ)
        refine b_ine (t1 := 22) (t2 := 11) rfl rfl rfl rfl (fun g10 => ?_) (fun g10 => absurd g10 (by decide))
        refine w_t (np := 23) (l2 := [some (eR a0), some (eI (a1)), some (eI (a2))]) (s2 := [eR a0]) rfl (s_an rfl (pos_g hI gA0 (by decide))) rfl ?_
        refine w_t (np := 24) (l2 := [some (eR a0), some (eI (a1)), some (eI (a2))]) (s2 := [eI (2), eR a0]) rfl rfl rfl ?_
        refine w_cw (np := 27) (as := [eI (2)]) (l2 := [some (eR a0), some (eI (2))]) (rest := []) rfl rfl rfl (Nat.ble_eq.mp rfl) rfl rfl rfl (hI.kd gA0 (by decide) (n := 14) rfl) rfl ?_
        refine w_t (np := 1) (l2 := [some (eR a0), some (eI (2))]) (s2 := [eR a0]) rfl (s_an rfl (pos_g hI gA0 (by decide))) rfl ?_
        refine w_t (np := 2) (l2 := [some (eR a0), some (eI (2))]) (s2 := [eI (2), eR a0]) rfl rfl rfl ?_
        refine j_pf (np := 5) (w := 2) rfl rfl hI gA0 (by decide) (n := 14) rfl rfl (hO_i (lo := -2147483648) (hi := 2147483647) rfl (by decide)) ?_
        intro m11 I12 W13
        have F14 : Fr l_173 0 0 g μ m11 := F0.w W13 gA0 rfl
        refine w_t (np := 6) (l2 := [some (eR a0), some (eI (2))]) (s2 := [eI (-1)]) rfl rfl rfl ?_
        refine b_ri rfl rfl ?_
        show ex_q (dt_fg L ρ) rc (d + 2, (173, 27, [some (eR a0), some (eI (a1)), some (eI (a2))], [eI (-1)]), f :: F, m11)
        exact b_ri rfl rfl (K m11 (-1) I12 F14 (by decide))
  · refine w_t (np := 5) (l2 := [some (eR a0), some (eI (a1)), some (eI (a2))]) (s2 := [eI (a1), eR v1]) rfl rfl rfl ?_
    refine w_cw (np := 8) (as := [eI (a1)]) (l2 := [some (eR v1), some (eI (a1))]) (rest := []) rfl rfl rfl (Nat.ble_eq.mp rfl) rfl rfl rfl (hI.kd b3 (by decide) (n := 8) rfl) rfl ?_
    refine w_t (np := 1) (l2 := [some (eR v1), some (eI (a1))]) (s2 := [eI (a1)]) rfl rfl rfl ?_
    refine b_ilt (t1 := 12) (t2 := 4) rfl rfl rfl (ev_w_in (by omega) (by omega)) (fun g5 => ?_) (fun g5 => ?_)
    · have b6 : -2147483648 ≤ a1 ∧ a1 ≤ -1 := by omega
      refine w_t (np := 13) (l2 := [some (eR v1), some (eI (a1))]) (s2 := [eI (1)]) rfl rfl rfl ?_
      refine w_go (t1 := 17) rfl rfl ?_
      refine b_rz rfl rfl (Or.inr rfl) ?_
      show ex_q (dt_fg L ρ) rc (d + 2, (173, 8, [some (eR a0), some (eI (a1)), some (eI (a2))], [eI (1)]), f :: F, μ)
      refine b_ine (t1 := 22) (t2 := 11) rfl rfl rfl rfl (fun g6 => ?_) (fun g6 => absurd g6 (by decide))
      refine w_t (np := 23) (l2 := [some (eR a0), some (eI (a1)), some (eI (a2))]) (s2 := [eR a0]) rfl (s_an rfl (pos_g hI gA0 (by decide))) rfl ?_
      refine w_t (np := 24) (l2 := [some (eR a0), some (eI (a1)), some (eI (a2))]) (s2 := [eI (2), eR a0]) rfl rfl rfl ?_
      refine w_cw (np := 27) (as := [eI (2)]) (l2 := [some (eR a0), some (eI (2))]) (rest := []) rfl rfl rfl (Nat.ble_eq.mp rfl) rfl rfl rfl (hI.kd gA0 (by decide) (n := 14) rfl) rfl ?_
      refine w_t (np := 1) (l2 := [some (eR a0), some (eI (2))]) (s2 := [eR a0]) rfl (s_an rfl (pos_g hI gA0 (by decide))) rfl ?_
      refine w_t (np := 2) (l2 := [some (eR a0), some (eI (2))]) (s2 := [eI (2), eR a0]) rfl rfl rfl ?_
      refine j_pf (np := 5) (w := 2) rfl rfl hI gA0 (by decide) (n := 14) rfl rfl (hO_i (lo := -2147483648) (hi := 2147483647) rfl (by decide)) ?_
      intro m7 I8 W9
      have F10 : Fr l_173 0 0 g μ m7 := F0.w W9 gA0 rfl
      refine w_t (np := 6) (l2 := [some (eR a0), some (eI (2))]) (s2 := [eI (-1)]) rfl rfl rfl ?_
      refine b_ri rfl rfl ?_
      show ex_q (dt_fg L ρ) rc (d + 2, (173, 27, [some (eR a0), some (eI (a1)), some (eI (a2))], [eI (-1)]), f :: F, m7)
      exact b_ri rfl rfl (K m7 (-1) I8 F10 (by decide))
    · have b6 : 0 ≤ a1 ∧ a1 ≤ 2147483647 := by omega
      refine w_t (np := 5) (l2 := [some (eR v1), some (eI (a1))]) (s2 := [eI (a1)]) rfl rfl rfl ?_
      refine w_t (np := 6) (l2 := [some (eR v1), some (eI (a1))]) (s2 := [eR v1, eI (a1)]) rfl (s_an rfl (pos_g hI b3 (by decide))) rfl ?_
      refine j_gi (np := 9) rfl rfl rfl hI b3 (by decide) (n := 8) rfl rfl (lo := 0) (hi := 890) rfl ?_
      intro v6 e7 b8
      refine b_clt (t1 := 16) (t2 := 12) rfl rfl rfl (ev_w_in (by omega) (by omega)) (ev_w_in (by omega) (by omega)) (fun g9 => ?_) (fun g9 => ?_)
      · have b10 : 0 ≤ a1 ∧ a1 ≤ 889 := by omega
        have b11 : 1 ≤ v6 ∧ v6 ≤ 890 := by omega
        refine w_t (np := 17) (l2 := [some (eR v1), some (eI (a1))]) (s2 := [eI (0)]) rfl rfl rfl ?_
        refine b_rz rfl rfl (Or.inl rfl) ?_
        show ex_q (dt_fg L ρ) rc (d + 2, (173, 8, [some (eR a0), some (eI (a1)), some (eI (a2))], [eI (0)]), f :: F, μ)
        refine b_ine (t1 := 22) (t2 := 11) rfl rfl rfl rfl (fun g10 => absurd g10 (by decide)) (fun g10 => ?_)
        refine w_t (np := 12) (l2 := [some (eR a0), some (eI (a1)), some (eI (a2))]) (s2 := [eR a0]) rfl (s_an rfl (pos_g hI gA0 (by decide))) rfl ?_
        refine w_gf (np := 15) (v := eR v1) rfl rfl (hI.kd gA0 (by decide) (n := 14) rfl) (by rw [e2]; rfl) ?_
        refine w_t (np := 16) (l2 := [some (eR a0), some (eI (a1)), some (eI (a2))]) (s2 := [eI (a2), eR v1]) rfl rfl rfl ?_
        refine w_cw (np := 19) (as := [eI (a2)]) (l2 := [some (eR v1), some (eI (a2))]) (rest := []) rfl rfl rfl (Nat.ble_eq.mp rfl) rfl rfl rfl (hI.kd b3 (by decide) (n := 8) rfl) rfl ?_
        refine w_t (np := 1) (l2 := [some (eR v1), some (eI (a2))]) (s2 := [eI (a2)]) rfl rfl rfl ?_
        refine b_ilt (t1 := 12) (t2 := 4) rfl rfl rfl (ev_w_in (by omega) (by omega)) (fun g11 => ?_) (fun g11 => ?_)
        · have b12 : -2147483648 ≤ a2 ∧ a2 ≤ -1 := by omega
          refine w_t (np := 13) (l2 := [some (eR v1), some (eI (a2))]) (s2 := [eI (1)]) rfl rfl rfl ?_
          refine w_go (t1 := 17) rfl rfl ?_
          refine b_rz rfl rfl (Or.inr rfl) ?_
          show ex_q (dt_fg L ρ) rc (d + 2, (173, 19, [some (eR a0), some (eI (a1)), some (eI (a2))], [eI (1)]), f :: F, μ)
          refine b_ieq (t1 := 28) (t2 := 22) rfl rfl rfl rfl (fun g12 => absurd g12 (by decide)) (fun g12 => ?_)
          refine w_t (np := 23) (l2 := [some (eR a0), some (eI (a1)), some (eI (a2))]) (s2 := [eR a0]) rfl (s_an rfl (pos_g hI gA0 (by decide))) rfl ?_
          refine w_t (np := 24) (l2 := [some (eR a0), some (eI (a1)), some (eI (a2))]) (s2 := [eI (2), eR a0]) rfl rfl rfl ?_
          refine w_cw (np := 27) (as := [eI (2)]) (l2 := [some (eR a0), some (eI (2))]) (rest := []) rfl rfl rfl (Nat.ble_eq.mp rfl) rfl rfl rfl (hI.kd gA0 (by decide) (n := 14) rfl) rfl ?_
          refine w_t (np := 1) (l2 := [some (eR a0), some (eI (2))]) (s2 := [eR a0]) rfl (s_an rfl (pos_g hI gA0 (by decide))) rfl ?_
          refine w_t (np := 2) (l2 := [some (eR a0), some (eI (2))]) (s2 := [eI (2), eR a0]) rfl rfl rfl ?_
          refine j_pf (np := 5) (w := 2) rfl rfl hI gA0 (by decide) (n := 14) rfl rfl (hO_i (lo := -2147483648) (hi := 2147483647) rfl (by decide)) ?_
          intro m13 I14 W15
          have F16 : Fr l_173 0 0 g μ m13 := F0.w W15 gA0 rfl
          refine w_t (np := 6) (l2 := [some (eR a0), some (eI (2))]) (s2 := [eI (-1)]) rfl rfl rfl ?_
          refine b_ri rfl rfl ?_
          show ex_q (dt_fg L ρ) rc (d + 2, (173, 27, [some (eR a0), some (eI (a1)), some (eI (a2))], [eI (-1)]), f :: F, m13)
          exact b_ri rfl rfl (K m13 (-1) I14 F16 (by decide))
        · have b12 : 0 ≤ a2 ∧ a2 ≤ 2147483647 := by omega
          refine w_t (np := 5) (l2 := [some (eR v1), some (eI (a2))]) (s2 := [eI (a2)]) rfl rfl rfl ?_
          refine w_t (np := 6) (l2 := [some (eR v1), some (eI (a2))]) (s2 := [eR v1, eI (a2)]) rfl (s_an rfl (pos_g hI b3 (by decide))) rfl ?_
          refine w_gf (np := 9) (v := eI (v6)) rfl rfl (hI.kd b3 (by decide) (n := 8) rfl) (by rw [e7]; rfl) ?_
          refine b_clt (t1 := 16) (t2 := 12) rfl rfl rfl (ev_w_in (by omega) (by omega)) (ev_w_in (by omega) (by omega)) (fun g12 => ?_) (fun g12 => ?_)
          · have b13 : 0 ≤ a2 ∧ a2 ≤ 889 := by omega
            refine w_t (np := 17) (l2 := [some (eR v1), some (eI (a2))]) (s2 := [eI (0)]) rfl rfl rfl ?_
            refine b_rz rfl rfl (Or.inl rfl) ?_
            show ex_q (dt_fg L ρ) rc (d + 2, (173, 19, [some (eR a0), some (eI (a1)), some (eI (a2))], [eI (0)]), f :: F, μ)
            refine b_ieq (t1 := 28) (t2 := 22) rfl rfl rfl rfl (fun g13 => ?_) (fun g13 => absurd g13 (by decide))
            refine w_t (np := 29) (l2 := [some (eR a0), some (eI (a1)), some (eI (a2))]) (s2 := [eR a0]) rfl (s_an rfl (pos_g hI gA0 (by decide))) rfl ?_
            refine w_t (np := 30) (l2 := [some (eR a0), some (eI (a1)), some (eI (a2))]) (s2 := [eR a0, eR a0]) rfl (s_an rfl (pos_g hI gA0 (by decide))) rfl ?_
            refine w_gf (np := 33) (v := eR v1) rfl rfl (hI.kd gA0 (by decide) (n := 14) rfl) (by rw [e2]; rfl) ?_
            refine w_t (np := 34) (l2 := [some (eR a0), some (eI (a1)), some (eI (a2))]) (s2 := [eI (a1), eR v1, eR a0]) rfl rfl rfl ?_
            refine w_t (np := 35) (l2 := [some (eR a0), some (eI (a1)), some (eI (a2))]) (s2 := [eI (a2), eI (a1), eR v1, eR a0]) rfl rfl rfl ?_
            refine w_cw (np := 38) (as := [eI (a1), eI (a2)]) (l2 := [some (eR v1), some (eI (a1)), some (eI (a2)), none, none, none]) (rest := [eR a0]) rfl rfl rfl (Nat.ble_eq.mp rfl) rfl rfl rfl (hI.kd b3 (by decide) (n := 8) rfl) rfl ?_
            refine s_39_2 (a1 := a1) (a2 := a2) hI b3 (by omega) (by omega) ?_
            intro v14 b15
            show ex_q (dt_fg L ρ) rc (d + 2, (173, 38, [some (eR a0), some (eI (a1)), some (eI (a2))], [eI (v14), eR a0]), f :: F, μ)
            refine w_cw (np := 41) (as := [eI (v14)]) (l2 := [some (eR a0), some (eI (v14))]) (rest := []) rfl rfl rfl (Nat.ble_eq.mp rfl) rfl rfl rfl (hI.kd gA0 (by decide) (n := 14) rfl) rfl ?_
            refine w_t (np := 1) (l2 := [some (eR a0), some (eI (v14))]) (s2 := [eI (v14)]) rfl rfl rfl ?_
            refine b_ige (t1 := 12) (t2 := 4) rfl rfl rfl (ev_w_in (by omega) (by omega)) (fun g16 => ?_) (fun g16 => ?_)
            · have b17 : 0 ≤ v14 ∧ v14 ≤ 2147483647 := by omega
              refine w_t (np := 13) (l2 := [some (eR a0), some (eI (v14))]) (s2 := [eR a0]) rfl (s_an rfl (pos_g hI gA0 (by decide))) rfl ?_
              refine w_t (np := 14) (l2 := [some (eR a0), some (eI (v14))]) (s2 := [eI (v14), eR a0]) rfl rfl rfl ?_
              refine w_cw (np := 17) (as := [eI (v14)]) (l2 := [some (eR a0), some (eI (v14))]) (rest := []) rfl rfl rfl (Nat.ble_eq.mp rfl) rfl rfl rfl (hI.kd gA0 (by decide) (n := 14) rfl) rfl ?_
              refine w_t (np := 1) (l2 := [some (eR a0), some (eI (v14))]) (s2 := [eR a0]) rfl (s_an rfl (pos_g hI gA0 (by decide))) rfl ?_
              refine w_t (np := 2) (l2 := [some (eR a0), some (eI (v14))]) (s2 := [eI (0), eR a0]) rfl rfl rfl ?_
              refine j_pf (np := 5) (w := 0) rfl rfl hI gA0 (by decide) (n := 14) rfl rfl (hO_i (lo := -2147483648) (hi := 2147483647) rfl (by decide)) ?_
              intro m17 I18 W19
              have F20 : Fr l_173 0 0 g μ m17 := F0.w W19 gA0 rfl
              refine w_t (np := 6) (l2 := [some (eR a0), some (eI (v14))]) (s2 := [eI (v14)]) rfl rfl rfl ?_
              refine b_ri rfl rfl ?_
              show ex_q (dt_fg L ρ) rc (d + 1, (207, 17, [some (eR a0), some (eI (v14))], [eI (v14)]), (173, 41, [some (eR a0), some (eI (a1)), some (eI (a2))], []) :: f :: F, m17)
              refine b_ri rfl rfl ?_
              show ex_q (dt_fg L ρ) rc (d + 2, (173, 41, [some (eR a0), some (eI (a1)), some (eI (a2))], [eI (v14)]), f :: F, m17)
              exact b_ri rfl rfl (K m17 (v14) I18 F20 (by omega))
            · have b17 : -2147483648 ≤ v14 ∧ v14 ≤ -1 := by omega
              refine w_t (np := 5) (l2 := [some (eR a0), some (eI (v14))]) (s2 := [eR a0]) rfl (s_an rfl (pos_g hI gA0 (by decide))) rfl ?_
              refine w_t (np := 6) (l2 := [some (eR a0), some (eI (v14))]) (s2 := [eI (5), eR a0]) rfl rfl rfl ?_
              refine w_cw (np := 9) (as := [eI (5)]) (l2 := [some (eR a0), some (eI (5))]) (rest := []) rfl rfl rfl (Nat.ble_eq.mp rfl) rfl rfl rfl (hI.kd gA0 (by decide) (n := 14) rfl) rfl ?_
              refine w_t (np := 1) (l2 := [some (eR a0), some (eI (5))]) (s2 := [eR a0]) rfl (s_an rfl (pos_g hI gA0 (by decide))) rfl ?_
              refine w_t (np := 2) (l2 := [some (eR a0), some (eI (5))]) (s2 := [eI (5), eR a0]) rfl rfl rfl ?_
              refine j_pf (np := 5) (w := 5) rfl rfl hI gA0 (by decide) (n := 14) rfl rfl (hO_i (lo := -2147483648) (hi := 2147483647) rfl (by decide)) ?_
              intro m17 I18 W19
              have F20 : Fr l_173 0 0 g μ m17 := F0.w W19 gA0 rfl
              refine w_t (np := 6) (l2 := [some (eR a0), some (eI (5))]) (s2 := [eI (-1)]) rfl rfl rfl ?_
              refine b_ri rfl rfl ?_
              show ex_q (dt_fg L ρ) rc (d + 1, (207, 9, [some (eR a0), some (eI (v14))], [eI (-1)]), (173, 41, [some (eR a0), some (eI (a1)), some (eI (a2))], []) :: f :: F, m17)
              refine w_go (t1 := 17) rfl rfl ?_
              refine b_ri rfl rfl ?_
              show ex_q (dt_fg L ρ) rc (d + 2, (173, 41, [some (eR a0), some (eI (a1)), some (eI (a2))], [eI (-1)]), f :: F, m17)
              exact b_ri rfl rfl (K m17 (-1) I18 F20 (by decide))
          · have b13 : 1 ≤ a2 ∧ a2 ≤ 2147483647 := by omega
            refine w_t (np := 13) (l2 := [some (eR v1), some (eI (a2))]) (s2 := [eI (1)]) rfl rfl rfl ?_
            refine w_go (t1 := 17) rfl rfl ?_
            refine b_rz rfl rfl (Or.inr rfl) ?_
            show ex_q (dt_fg L ρ) rc (d + 2, (173, 19, [some (eR a0), some (eI (a1)), some (eI (a2))], [eI (1)]), f :: F, μ)
            refine b_ieq (t1 := 28) (t2 := 22) rfl rfl rfl rfl (fun g13 => absurd g13 (by decide)) (fun g13 => ?_)
            refine w_t (np := 23) (l2 := [some (eR a0), some (eI (a1)), some (eI (a2))]) (s2 := [eR a0]) rfl (s_an rfl (pos_g hI gA0 (by decide))) rfl ?_
            refine w_t (np := 24) (l2 := [some (eR a0), some (eI (a1)), some (eI (a2))]) (s2 := [eI (2), eR a0]) rfl rfl rfl ?_
            refine w_cw (np := 27) (as := [eI (2)]) (l2 := [some (eR a0), some (eI (2))]) (rest := []) rfl rfl rfl (Nat.ble_eq.mp rfl) rfl rfl rfl (hI.kd gA0 (by decide) (n := 14) rfl) rfl ?_
            refine w_t (np := 1) (l2 := [some (eR a0), some (eI (2))]) (s2 := [eR a0]) rfl (s_an rfl (pos_g hI gA0 (by decide))) rfl ?_
            refine w_t (np := 2) (l2 := [some (eR a0), some (eI (2))]) (s2 := [eI (2), eR a0]) rfl rfl rfl ?_
            refine j_pf (np := 5) (w := 2) rfl rfl hI gA0 (by decide) (n := 14) rfl rfl (hO_i (lo := -2147483648) (hi := 2147483647) rfl (by decide)) ?_
            intro m14 I15 W16
            have F17 : Fr l_173 0 0 g μ m14 := F0.w W16 gA0 rfl
            refine w_t (np := 6) (l2 := [some (eR a0), some (eI (2))]) (s2 := [eI (-1)]) rfl rfl rfl ?_
            refine b_ri rfl rfl ?_
            show ex_q (dt_fg L ρ) rc (d + 2, (173, 27, [some (eR a0), some (eI (a1)), some (eI (a2))], [eI (-1)]), f :: F, m14)
            exact b_ri rfl rfl (K m14 (-1) I15 F17 (by decide))
      · refine w_t (np := 13) (l2 := [some (eR v1), some (eI (a1))]) (s2 := [eI (1)]) rfl rfl rfl ?_
        refine w_go (t1 := 17) rfl rfl ?_
        refine b_rz rfl rfl (Or.inr rfl) ?_
        show ex_q (dt_fg L ρ) rc (d + 2, (173, 8, [some (eR a0), some (eI (a1)), some (eI (a2))], [eI (1)]), f :: F, μ)
        refine b_ine (t1 := 22) (t2 := 11) rfl rfl rfl rfl (fun g10 => ?_) (fun g10 => absurd g10 (by decide))
        refine w_t (np := 23) (l2 := [some (eR a0), some (eI (a1)), some (eI (a2))]) (s2 := [eR a0]) rfl (s_an rfl (pos_g hI gA0 (by decide))) rfl ?_
        refine w_t (np := 24) (l2 := [some (eR a0), some (eI (a1)), some (eI (a2))]) (s2 := [eI (2), eR a0]) rfl rfl rfl ?_
        refine w_cw (np := 27) (as := [eI (2)]) (l2 := [some (eR a0), some (eI (2))]) (rest := []) rfl rfl rfl (Nat.ble_eq.mp rfl) rfl rfl rfl (hI.kd gA0 (by decide) (n := 14) rfl) rfl ?_
        refine w_t (np := 1) (l2 := [some (eR a0), some (eI (2))]) (s2 := [eR a0]) rfl (s_an rfl (pos_g hI gA0 (by decide))) rfl ?_
        refine w_t (np := 2) (l2 := [some (eR a0), some (eI (2))]) (s2 := [eI (2), eR a0]) rfl rfl rfl ?_
        refine j_pf (np := 5) (w := 2) rfl rfl hI gA0 (by decide) (n := 14) rfl rfl (hO_i (lo := -2147483648) (hi := 2147483647) rfl (by decide)) ?_
        intro m11 I12 W13
        have F14 : Fr l_173 0 0 g μ m11 := F0.w W13 gA0 rfl
        refine w_t (np := 6) (l2 := [some (eR a0), some (eI (2))]) (s2 := [eI (-1)]) rfl rfl rfl ?_
        refine b_ri rfl rfl ?_
        show ex_q (dt_fg L ρ) rc (d + 2, (173, 27, [some (eR a0), some (eI (a1)), some (eI (a2))], [eI (-1)]), f :: F, m11)
        exact b_ri rfl rfl (K m11 (-1) I12 F14 (by decide))
def l_188 : List Nat := [270, 7430, 7431]
theorem s_188 {L : Nat} {ρ : Nat → Int} {rc : eQ} {d : Nat} {f : eFr} {F : List eFr} {μ : eM} {g : Nat → Nat} {a0 : Nat} (hI : SI g μ) (gA0 : g a0 = 1) (K : ∀ (μ2 : eM) (v : Int), SI g μ2 → Fr l_188 0 0 g μ μ2 → (-2147483648 ≤ v ∧ v ≤ 2147483647) → ex_q (dt_fg L ρ) rc (d + 2, (f.1, f.2.1, f.2.2.1, eI v :: f.2.2.2), F, μ2)) : ex_q (dt_fg L ρ) rc (d + 1, (188, 0, [some (eR a0), none], []), f :: F, μ) := by
  have F0 : Fr l_188 0 0 g μ μ := Fr.r
  refine w_t (np := 1) (l2 := [some (eR a0), none]) (s2 := [eR a0]) rfl (s_an rfl (pos_g hI gA0 (by decide))) rfl ?_
  refine j_gr (np := 4) rfl rfl hI gA0 (by decide) (n := 14) rfl rfl rfl ?_
  intro v1 e2 b3 z4
  have b3 : g v1 = 29 := Nat.eq_of_beq_eq_true b3
  refine j_gi (np := 7) rfl rfl rfl hI b3 (by decide) (n := 7) rfl rfl (lo := 0) (hi := 24) rfl ?_
  intro v5 e6 b7
  refine w_t (np := 8) (l2 := [some (eR a0), some (eI (v5))]) (s2 := []) rfl rfl rfl ?_
  refine w_t (np := 9) (l2 := [some (eR a0), some (eI (v5))]) (s2 := [eR a0]) rfl (s_an rfl (pos_g hI gA0 (by decide))) rfl ?_
  refine w_gf (np := 12) (v := eR v1) rfl rfl (hI.kd gA0 (by decide) (n := 14) rfl) (by rw [e2]; rfl) ?_
  refine w_cw (np := 15) (as := []) (l2 := [some (eR v1)]) (rest := []) rfl rfl rfl (Nat.ble_eq.mp rfl) rfl rfl rfl (hI.kd b3 (by decide) (n := 7) rfl) rfl ?_
  refine s_135 hI b3 ?_
  intro m8 I9 F10
  have F11 : Fr l_188 0 0 g μ m8 := F0.t F10 rfl
  show ex_q (dt_fg L ρ) rc (d + 1, (188, 15, [some (eR a0), some (eI (v5))], []), f :: F, m8)
  refine w_t (np := 16) (l2 := [some (eR a0), some (eI (v5))]) (s2 := [eR a0]) rfl (s_an rfl (pos_g I9 gA0 (by decide))) rfl ?_
  refine w_t (np := 17) (l2 := [some (eR a0), some (eI (v5))]) (s2 := [eI (v5), eR a0]) rfl rfl rfl ?_
  refine w_cw (np := 20) (as := [eI (v5)]) (l2 := [some (eR a0), some (eI (v5))]) (rest := []) rfl rfl rfl (Nat.ble_eq.mp rfl) rfl rfl rfl (I9.kd gA0 (by decide) (n := 14) rfl) rfl ?_
  refine w_t (np := 1) (l2 := [some (eR a0), some (eI (v5))]) (s2 := [eR a0]) rfl (s_an rfl (pos_g I9 gA0 (by decide))) rfl ?_
  refine w_t (np := 2) (l2 := [some (eR a0), some (eI (v5))]) (s2 := [eI (0), eR a0]) rfl rfl rfl ?_
  refine j_pf (np := 5) (w := 0) rfl rfl I9 gA0 (by decide) (n := 14) rfl rfl (hO_i (lo := -2147483648) (hi := 2147483647) rfl (by decide)) ?_
  intro m12 I13 W14
  have F15 : Fr l_188 0 0 g μ m12 := F11.w W14 gA0 rfl
  refine w_t (np := 6) (l2 := [some (eR a0), some (eI (v5))]) (s2 := [eI (v5)]) rfl rfl rfl ?_
  refine b_ri rfl rfl ?_
  show ex_q (dt_fg L ρ) rc (d + 1, (188, 20, [some (eR a0), some (eI (v5))], [eI (v5)]), f :: F, m12)
  exact b_ri rfl rfl (K m12 (v5) I13 F15 (by omega))
def l_189 : List Nat := [270]
theorem s_189 {L : Nat} {ρ : Nat → Int} {rc : eQ} {d : Nat} {f : eFr} {F : List eFr} {μ : eM} {g : Nat → Nat} {a0 : Nat} {a1 : Int} {a2 : Int} (hI : SI g μ) (gA0 : g a0 = 1) (bA1 : -2147483648 ≤ a1 ∧ a1 ≤ 2147483647) (bA2 : -2147483648 ≤ a2 ∧ a2 ≤ 2147483647) (K : ∀ (μ2 : eM) (v : Int), SI g μ2 → Fr l_189 0 0 g μ μ2 → (-2147483648 ≤ v ∧ v ≤ 2147483647) → ex_q (dt_fg L ρ) rc (d + 3, (f.1, f.2.1, f.2.2.1, eI v :: f.2.2.2), F, μ2)) : ex_q (dt_fg L ρ) rc (d + 2, (189, 0, [some (eR a0), some (eI (a1)), some (eI (a2))], []), f :: F, μ) := by
  have F0 : Fr l_189 0 0 g μ μ := Fr.r
  refine w_t (np := 1) (l2 := [some (eR a0), some (eI (a1)), some (eI (a2))]) (s2 := [eI (a2)]) rfl rfl rfl ?_
  refine b_ilt (t1 := 9) (t2 := 4) rfl rfl rfl (ev_w_in (by omega) (by omega)) (fun g1 => ?_) (fun g1 => ?_)
  · have b2 : -2147483648 ≤ a2 ∧ a2 ≤ -1 := by omega
    refine w_t (np := 10) (l2 := [some (eR a0), some (eI (a1)), some (eI (a2))]) (s2 := [eR a0]) rfl (s_an rfl (pos_g hI gA0 (by decide))) rfl ?_
    refine w_t (np := 11) (l2 := [some (eR a0), some (eI (a1)), some (eI (a2))]) (s2 := [eI (1), eR a0]) rfl rfl rfl ?_
    refine w_cw (np := 14) (as := [eI (1)]) (l2 := [some (eR a0), some (eI (1))]) (rest := []) rfl rfl rfl (Nat.ble_eq.mp rfl) rfl rfl rfl (hI.kd gA0 (by decide) (n := 14) rfl) rfl ?_
    refine w_t (np := 1) (l2 := [some (eR a0), some (eI (1))]) (s2 := [eR a0]) rfl (s_an rfl (pos_g hI gA0 (by decide))) rfl ?_
    refine w_t (np := 2) (l2 := [some (eR a0), some (eI (1))]) (s2 := [eI (1), eR a0]) rfl rfl rfl ?_
    refine j_pf (np := 5) (w := 1) rfl rfl hI gA0 (by decide) (n := 14) rfl rfl (hO_i (lo := -2147483648) (hi := 2147483647) rfl (by decide)) ?_
    intro m2 I3 W4
    have F5 : Fr l_189 0 0 g μ m2 := F0.w W4 gA0 rfl
    refine w_t (np := 6) (l2 := [some (eR a0), some (eI (1))]) (s2 := [eI (-1)]) rfl rfl rfl ?_
    refine b_ri rfl rfl ?_
    show ex_q (dt_fg L ρ) rc (d + 2, (189, 14, [some (eR a0), some (eI (a1)), some (eI (a2))], [eI (-1)]), f :: F, m2)
    exact b_ri rfl rfl (K m2 (-1) I3 F5 (by decide))
  · have b2 : 0 ≤ a2 ∧ a2 ≤ 2147483647 := by omega
    refine w_t (np := 5) (l2 := [some (eR a0), some (eI (a1)), some (eI (a2))]) (s2 := [eI (a2)]) rfl rfl rfl ?_
    refine w_t (np := 6) (l2 := [some (eR a0), some (eI (a1)), some (eI (a2))]) (s2 := [eI (2), eI (a2)]) rfl rfl rfl ?_
    refine b_cle (t1 := 15) (t2 := 9) rfl rfl rfl (ev_w_in (by omega) (by omega)) rfl (fun g2 => ?_) (fun g2 => ?_)
    · have b3 : 0 ≤ a2 ∧ a2 ≤ 2 := by omega
      refine w_t (np := 16) (l2 := [some (eR a0), some (eI (a1)), some (eI (a2))]) (s2 := [eR a0]) rfl (s_an rfl (pos_g hI gA0 (by decide))) rfl ?_
      refine j_gr (np := 19) rfl rfl hI gA0 (by decide) (n := 14) rfl rfl rfl ?_
      intro v3 e4 b5 z6
      have b5 : g v3 = 29 := Nat.eq_of_beq_eq_true b5
      refine w_t (np := 20) (l2 := [some (eR a0), some (eI (a1)), some (eI (a2))]) (s2 := [eI (a1), eR v3]) rfl rfl rfl ?_
      refine w_cw (np := 23) (as := [eI (a1)]) (l2 := [some (eR v3), some (eI (a1))]) (rest := []) rfl rfl rfl (Nat.ble_eq.mp rfl) rfl rfl rfl (hI.kd b5 (by decide) (n := 7) rfl) rfl ?_
      refine w_t (np := 1) (l2 := [some (eR v3), some (eI (a1))]) (s2 := [eI (a1)]) rfl rfl rfl ?_
      refine b_ilt (t1 := 12) (t2 := 4) rfl rfl rfl (ev_w_in (by omega) (by omega)) (fun g7 => ?_) (fun g7 => ?_)
      · have b8 : -2147483648 ≤ a1 ∧ a1 ≤ -1 := by omega
        refine w_t (np := 13) (l2 := [some (eR v3), some (eI (a1))]) (s2 := [eI (1)]) rfl rfl rfl ?_
        refine w_go (t1 := 17) rfl rfl ?_
        refine b_rz rfl rfl (Or.inr rfl) ?_
        show ex_q (dt_fg L ρ) rc (d + 2, (189, 23, [some (eR a0), some (eI (a1)), some (eI (a2))], [eI (1)]), f :: F, μ)
        refine b_ieq (t1 := 32) (t2 := 26) rfl rfl rfl rfl (fun g8 => absurd g8 (by decide)) (fun g8 => ?_)
        refine w_t (np := 27) (l2 := [some (eR a0), some (eI (a1)), some (eI (a2))]) (s2 := [eR a0]) rfl (s_an rfl (pos_g hI gA0 (by decide))) rfl ?_
        refine w_t (np := 28) (l2 := [some (eR a0), some (eI (a1)), some (eI (a2))]) (s2 := [eI (2), eR a0]) rfl rfl rfl ?_
        refine w_cw (np := 31) (as := [eI (2)]) (l2 := [some (eR a0), some (eI (2))]) (rest := []) rfl rfl rfl (Nat.ble_eq.mp rfl) rfl rfl rfl (hI.kd gA0 (by decide) (n := 14) rfl) rfl ?_
        refine w_t (np := 1) (l2 := [some (eR a0), some (eI (2))]) (s2 := [eR a0]) rfl (s_an rfl (pos_g hI gA0 (by decide))) rfl ?_
        refine w_t (np := 2) (l2 := [some (eR a0), some (eI (2))]) (s2 := [eI (2), eR a0]) rfl rfl rfl ?_
        refine j_pf (np := 5) (w := 2) rfl rfl hI gA0 (by decide) (n := 14) rfl rfl (hO_i (lo := -2147483648) (hi := 2147483647) rfl (by decide)) ?_
        intro m9 I10 W11
        have F12 : Fr l_189 0 0 g μ m9 := F0.w W11 gA0 rfl
        refine w_t (np := 6) (l2 := [some (eR a0), some (eI (2))]) (s2 := [eI (-1)]) rfl rfl rfl ?_
        refine b_ri rfl rfl ?_
        show ex_q (dt_fg L ρ) rc (d + 2, (189, 31, [some (eR a0), some (eI (a1)), some (eI (a2))], [eI (-1)]), f :: F, m9)
        exact b_ri rfl rfl (K m9 (-1) I10 F12 (by decide))
      · have b8 : 0 ≤ a1 ∧ a1 ≤ 2147483647 := by omega
        refine w_t (np := 5) (l2 := [some (eR v3), some (eI (a1))]) (s2 := [eI (a1)]) rfl rfl rfl ?_
        refine w_t (np := 6) (l2 := [some (eR v3), some (eI (a1))]) (s2 := [eR v3, eI (a1)]) rfl (s_an rfl (pos_g hI b5 (by decide))) rfl ?_
        refine j_gi (np := 9) rfl rfl rfl hI b5 (by decide) (n := 7) rfl rfl (lo := 0) (hi := 24) rfl ?_
        intro v8 e9 b10
        refine b_clt (t1 := 16) (t2 := 12) rfl rfl rfl (ev_w_in (by omega) (by omega)) (ev_w_in (by omega) (by omega)) (fun g11 => ?_) (fun g11 => ?_)
        · have b12 : 0 ≤ a1 ∧ a1 ≤ 23 := by omega
          have b13 : 1 ≤ v8 ∧ v8 ≤ 24 := by omega
          refine w_t (np := 17) (l2 := [some (eR v3), some (eI (a1))]) (s2 := [eI (0)]) rfl rfl rfl ?_
          refine b_rz rfl rfl (Or.inl rfl) ?_
          show ex_q (dt_fg L ρ) rc (d + 2, (189, 23, [some (eR a0), some (eI (a1)), some (eI (a2))], [eI (0)]), f :: F, μ)
          refine b_ieq (t1 := 32) (t2 := 26) rfl rfl rfl rfl (fun g12 => ?_) (fun g12 => absurd g12 (by decide))
          refine w_t (np := 33) (l2 := [some (eR a0), some (eI (a1)), some (eI (a2))]) (s2 := [eR a0]) rfl (s_an rfl (pos_g hI gA0 (by decide))) rfl ?_
          refine w_t (np := 34) (l2 := [some (eR a0), some (eI (a1)), some (eI (a2))]) (s2 := [eI (a2), eR a0]) rfl rfl rfl ?_
          refine b_ine (t1 := 48) (t2 := 37) rfl rfl rfl (ev_w_in (by omega) (by omega)) (fun g13 => ?_) (fun g13 => ?_)
          · have b14 : 1 ≤ a2 ∧ a2 ≤ 2 := by omega
            refine w_t (np := 49) (l2 := [some (eR a0), some (eI (a1)), some (eI (a2))]) (s2 := [eI (a2), eR a0]) rfl rfl rfl ?_
            refine w_t (np := 50) (l2 := [some (eR a0), some (eI (a1)), some (eI (a2))]) (s2 := [eI (1), eI (a2), eR a0]) rfl rfl rfl ?_
            refine b_cne (t1 := 64) (t2 := 53) rfl rfl rfl (ev_w_in (by omega) (by omega)) rfl (fun g14 => ?_) (fun g14 => ?_)
            · have b15 : 2 ≤ a2 ∧ a2 ≤ 2 := by omega
              refine w_t (np := 65) (l2 := [some (eR a0), some (eI (a1)), some (eI (a2))]) (s2 := [eR a0, eR a0]) rfl (s_an rfl (pos_g hI gA0 (by decide))) rfl ?_
              refine w_gf (np := 68) (v := eR v3) rfl rfl (hI.kd gA0 (by decide) (n := 14) rfl) (by rw [e4]; rfl) ?_
              refine w_t (np := 69) (l2 := [some (eR a0), some (eI (a1)), some (eI (a2))]) (s2 := [eI (a1), eR v3, eR a0]) rfl rfl rfl ?_
              refine w_cw (np := 72) (as := [eI (a1)]) (l2 := [some (eR v3), some (eI (a1))]) (rest := [eR a0]) rfl rfl rfl (Nat.ble_eq.mp rfl) rfl rfl rfl (hI.kd b5 (by decide) (n := 7) rfl) rfl ?_
              refine s_130 (a1 := a1) hI b5 (by omega) ?_
              intro v15 b16
              show ex_q (dt_fg L ρ) rc (d + 2, (189, 72, [some (eR a0), some (eI (a1)), some (eI (a2))], [eI (v15), eR a0]), f :: F, μ)
              refine w_cw (np := 75) (as := [eI (v15)]) (l2 := [some (eR a0), some (eI (v15))]) (rest := []) rfl rfl rfl (Nat.ble_eq.mp rfl) rfl rfl rfl (hI.kd gA0 (by decide) (n := 14) rfl) rfl ?_
              refine w_t (np := 1) (l2 := [some (eR a0), some (eI (v15))]) (s2 := [eR a0]) rfl (s_an rfl (pos_g hI gA0 (by decide))) rfl ?_
              refine w_t (np := 2) (l2 := [some (eR a0), some (eI (v15))]) (s2 := [eI (0), eR a0]) rfl rfl rfl ?_
              refine j_pf (np := 5) (w := 0) rfl rfl hI gA0 (by decide) (n := 14) rfl rfl (hO_i (lo := -2147483648) (hi := 2147483647) rfl (by decide)) ?_
              intro m17 I18 W19
              have F20 : Fr l_189 0 0 g μ m17 := F0.w W19 gA0 rfl
              refine w_t (np := 6) (l2 := [some (eR a0), some (eI (v15))]) (s2 := [eI (v15)]) rfl rfl rfl ?_
              refine b_ri rfl rfl ?_
              show ex_q (dt_fg L ρ) rc (d + 2, (189, 75, [some (eR a0), some (eI (a1)), some (eI (a2))], [eI (v15)]), f :: F, m17)
              exact b_ri rfl rfl (K m17 (v15) I18 F20 (by omega))
            · have b15 : 1 ≤ a2 ∧ a2 ≤ 1 := by omega
              refine w_t (np := 54) (l2 := [some (eR a0), some (eI (a1)), some (eI (a2))]) (s2 := [eR a0, eR a0]) rfl (s_an rfl (pos_g hI gA0 (by decide))) rfl ?_
              refine w_gf (np := 57) (v := eR v3) rfl rfl (hI.kd gA0 (by decide) (n := 14) rfl) (by rw [e4]; rfl) ?_
              refine w_t (np := 58) (l2 := [some (eR a0), some (eI (a1)), some (eI (a2))]) (s2 := [eI (a1), eR v3, eR a0]) rfl rfl rfl ?_
              refine w_cw (np := 61) (as := [eI (a1)]) (l2 := [some (eR v3), some (eI (a1))]) (rest := [eR a0]) rfl rfl rfl (Nat.ble_eq.mp rfl) rfl rfl rfl (hI.kd b5 (by decide) (n := 7) rfl) rfl ?_
              refine s_129 (a1 := a1) hI b5 (by omega) ?_
              intro v15 b16
              show ex_q (dt_fg L ρ) rc (d + 2, (189, 61, [some (eR a0), some (eI (a1)), some (eI (a2))], [eI (v15), eR a0]), f :: F, μ)
              refine w_go (t1 := 72) rfl rfl ?_
              refine w_cw (np := 75) (as := [eI (v15)]) (l2 := [some (eR a0), some (eI (v15))]) (rest := []) rfl rfl rfl (Nat.ble_eq.mp rfl) rfl rfl rfl (hI.kd gA0 (by decide) (n := 14) rfl) rfl ?_
              refine w_t (np := 1) (l2 := [some (eR a0), some (eI (v15))]) (s2 := [eR a0]) rfl (s_an rfl (pos_g hI gA0 (by decide))) rfl ?_
              refine w_t (np := 2) (l2 := [some (eR a0), some (eI (v15))]) (s2 := [eI (0), eR a0]) rfl rfl rfl ?_
              refine j_pf (np := 5) (w := 0) rfl rfl hI gA0 (by decide) (n := 14) rfl rfl (hO_i (lo := -2147483648) (hi := 2147483647) rfl (by decide)) ?_
              intro m17 I18 W19
              have F20 : Fr l_189 0 0 g μ m17 := F0.w W19 gA0 rfl
              refine w_t (np := 6) (l2 := [some (eR a0), some (eI (v15))]) (s2 := [eI (v15)]) rfl rfl rfl ?_
              refine b_ri rfl rfl ?_
              show ex_q (dt_fg L ρ) rc (d + 2, (189, 75, [some (eR a0), some (eI (a1)), some (eI (a2))], [eI (v15)]), f :: F, m17)
              exact b_ri rfl rfl (K m17 (v15) I18 F20 (by omega))
          · have b14 : 0 ≤ a2 ∧ a2 ≤ 0 := by omega
            refine w_t (np := 38) (l2 := [some (eR a0), some (eI (a1)), some (eI (a2))]) (s2 := [eR a0, eR a0]) rfl (s_an rfl (pos_g hI gA0 (by decide))) rfl ?_
            refine w_gf (np := 41) (v := eR v3) rfl rfl (hI.kd gA0 (by decide) (n := 14) rfl) (by rw [e4]; rfl) ?_
            refine w_t (np := 42) (l2 := [some (eR a0), some (eI (a1)), some (eI (a2))]) (s2 := [eI (a1), eR v3, eR a0]) rfl rfl rfl ?_
            refine w_cw (np := 45) (as := [eI (a1)]) (l2 := [some (eR v3), some (eI (a1))]) (rest := [eR a0]) rfl rfl rfl (Nat.ble_eq.mp rfl) rfl rfl rfl (hI.kd b5 (by decide) (n := 7) rfl) rfl ?_
            refine s_128 (a1 := a1) hI b5 (by omega) ?_
            intro v14 b15
            show ex_q (dt_fg L ρ) rc (d + 2, (189, 45, [some (eR a0), some (eI (a1)), some (eI (a2))], [eI (v14), eR a0]), f :: F, μ)
            refine w_go (t1 := 72) rfl rfl ?_
            refine w_cw (np := 75) (as := [eI (v14)]) (l2 := [some (eR a0), some (eI (v14))]) (rest := []) rfl rfl rfl (Nat.ble_eq.mp rfl) rfl rfl rfl (hI.kd gA0 (by decide) (n := 14) rfl) rfl ?_
            refine w_t (np := 1) (l2 := [some (eR a0), some (eI (v14))]) (s2 := [eR a0]) rfl (s_an rfl (pos_g hI gA0 (by decide))) rfl ?_
            refine w_t (np := 2) (l2 := [some (eR a0), some (eI (v14))]) (s2 := [eI (0), eR a0]) rfl rfl rfl ?_
            refine j_pf (np := 5) (w := 0) rfl rfl hI gA0 (by decide) (n := 14) rfl rfl (hO_i (lo := -2147483648) (hi := 2147483647) rfl (by decide)) ?_
            intro m16 I17 W18
            have F19 : Fr l_189 0 0 g μ m16 := F0.w W18 gA0 rfl
            refine w_t (np := 6) (l2 := [some (eR a0), some (eI (v14))]) (s2 := [eI (v14)]) rfl rfl rfl ?_
            refine b_ri rfl rfl ?_
            show ex_q (dt_fg L ρ) rc (d + 2, (189, 75, [some (eR a0), some (eI (a1)), some (eI (a2))], [eI (v14)]), f :: F, m16)
            exact b_ri rfl rfl (K m16 (v14) I17 F19 (by omega))
        · refine w_t (np := 13) (l2 := [some (eR v3), some (eI (a1))]) (s2 := [eI (1)]) rfl rfl rfl ?_
          refine w_go (t1 := 17) rfl rfl ?_
          refine b_rz rfl rfl (Or.inr rfl) ?_
          show ex_q (dt_fg L ρ) rc (d + 2, (189, 23, [some (eR a0), some (eI (a1)), some (eI (a2))], [eI (1)]), f :: F, μ)
          refine b_ieq (t1 := 32) (t2 := 26) rfl rfl rfl rfl (fun g12 => absurd g12 (by decide)) (fun g12 => ?_)
          refine w_t (np := 27) (l2 := [some (eR a0), some (eI (a1)), some (eI (a2))]) (s2 := [eR a0]) rfl (s_an rfl (pos_g hI gA0 (by decide))) rfl ?_
          refine w_t (np := 28) (l2 := [some (eR a0), some (eI (a1)), some (eI (a2))]) (s2 := [eI (2), eR a0]) rfl rfl rfl ?_
          refine w_cw (np := 31) (as := [eI (2)]) (l2 := [some (eR a0), some (eI (2))]) (rest := []) rfl rfl rfl (Nat.ble_eq.mp rfl) rfl rfl rfl (hI.kd gA0 (by decide) (n := 14) rfl) rfl ?_
          refine w_t (np := 1) (l2 := [some (eR a0), some (eI (2))]) (s2 := [eR a0]) rfl (s_an rfl (pos_g hI gA0 (by decide))) rfl ?_
          refine w_t (np := 2) (l2 := [some (eR a0), some (eI (2))]) (s2 := [eI (2), eR a0]) rfl rfl rfl ?_
          refine j_pf (np := 5) (w := 2) rfl rfl hI gA0 (by decide) (n := 14) rfl rfl (hO_i (lo := -2147483648) (hi := 2147483647) rfl (by decide)) ?_
          intro m13 I14 W15
          have F16 : Fr l_189 0 0 g μ m13 := F0.w W15 gA0 rfl
          refine w_t (np := 6) (l2 := [some (eR a0), some (eI (2))]) (s2 := [eI (-1)]) rfl rfl rfl ?_
          refine b_ri rfl rfl ?_
          show ex_q (dt_fg L ρ) rc (d + 2, (189, 31, [some (eR a0), some (eI (a1)), some (eI (a2))], [eI (-1)]), f :: F, m13)
          exact b_ri rfl rfl (K m13 (-1) I14 F16 (by decide))
    · have b3 : 3 ≤ a2 ∧ a2 ≤ 2147483647 := by omega
      refine w_t (np := 10) (l2 := [some (eR a0), some (eI (a1)), some (eI (a2))]) (s2 := [eR a0]) rfl (s_an rfl (pos_g hI gA0 (by decide))) rfl ?_
      refine w_t (np := 11) (l2 := [some (eR a0), some (eI (a1)), some (eI (a2))]) (s2 := [eI (1), eR a0]) rfl rfl rfl ?_
      refine w_cw (np := 14) (as := [eI (1)]) (l2 := [some (eR a0), some (eI (1))]) (rest := []) rfl rfl rfl (Nat.ble_eq.mp rfl) rfl rfl rfl (hI.kd gA0 (by decide) (n := 14) rfl) rfl ?_
      refine w_t (np := 1) (l2 := [some (eR a0), some (eI (1))]) (s2 := [eR a0]) rfl (s_an rfl (pos_g hI gA0 (by decide))) rfl ?_
      refine w_t (np := 2) (l2 := [some (eR a0), some (eI (1))]) (s2 := [eI (1), eR a0]) rfl rfl rfl ?_
      refine j_pf (np := 5) (w := 1) rfl rfl hI gA0 (by decide) (n := 14) rfl rfl (hO_i (lo := -2147483648) (hi := 2147483647) rfl (by decide)) ?_
      intro m3 I4 W5
      have F6 : Fr l_189 0 0 g μ m3 := F0.w W5 gA0 rfl
      refine w_t (np := 6) (l2 := [some (eR a0), some (eI (1))]) (s2 := [eI (-1)]) rfl rfl rfl ?_
      refine b_ri rfl rfl ?_
      show ex_q (dt_fg L ρ) rc (d + 2, (189, 14, [some (eR a0), some (eI (a1)), some (eI (a2))], [eI (-1)]), f :: F, m3)
      exact b_ri rfl rfl (K m3 (-1) I4 F6 (by decide))
def l_190 : List Nat := [270]
theorem s_190 {L : Nat} {ρ : Nat → Int} {rc : eQ} {d : Nat} {f : eFr} {F : List eFr} {μ : eM} {g : Nat → Nat} {a0 : Nat} {a1 : Int} {a2 : Int} {a3 : Int} (hI : SI g μ) (gA0 : g a0 = 1) (bA1 : -2147483648 ≤ a1 ∧ a1 ≤ 2147483647) (bA2 : -2147483648 ≤ a2 ∧ a2 ≤ 2147483647) (bA3 : -2147483648 ≤ a3 ∧ a3 ≤ 2147483647) (K : ∀ (μ2 : eM) (v : Int), SI g μ2 → Fr l_190 0 0 g μ μ2 → (-2147483648 ≤ v ∧ v ≤ 2147483647) → ex_q (dt_fg L ρ) rc (d + 3, (f.1, f.2.1, f.2.2.1, eI v :: f.2.2.2), F, μ2)) : ex_q (dt_fg L ρ) rc (d + 2, (190, 0, [some (eR a0), some (eI (a1)), some (eI (a2)), some (eI (a3))], []), f :: F, μ) := by
  have F0 : Fr l_190 0 0 g μ μ := Fr.r
  refine w_t (np := 1) (l2 := [some (eR a0), some (eI (a1)), some (eI (a2)), some (eI (a3))]) (s2 := [eI (a2)]) rfl rfl rfl ?_
  refine b_ilt (t1 := 18) (t2 := 4) rfl rfl rfl (ev_w_in (by omega) (by omega)) (fun g1 => ?_) (fun g1 => ?_)
  · have b2 : -2147483648 ≤ a2 ∧ a2 ≤ -1 := by omega
    refine w_t (np := 19) (l2 := [some (eR a0), some (eI (a1)), some (eI (a2)), some (eI (a3))]) (s2 := [eR a0]) rfl (s_an rfl (pos_g hI gA0 (by decide))) rfl ?_
    refine w_t (np := 20) (l2 := [some (eR a0), some (eI (a1)), some (eI (a2)), some (eI (a3))]) (s2 := [eI (1), eR a0]) rfl rfl rfl ?_
    refine w_cw (np := 23) (as := [eI (1)]) (l2 := [some (eR a0), some (eI (1))]) (rest := []) rfl rfl rfl (Nat.ble_eq.mp rfl) rfl rfl rfl (hI.kd gA0 (by decide) (n := 14) rfl) rfl ?_
    refine w_t (np := 1) (l2 := [some (eR a0), some (eI (1))]) (s2 := [eR a0]) rfl (s_an rfl (pos_g hI gA0 (by decide))) rfl ?_
    refine w_t (np := 2) (l2 := [some (eR a0), some (eI (1))]) (s2 := [eI (1), eR a0]) rfl rfl rfl ?_
    refine j_pf (np := 5) (w := 1) rfl rfl hI gA0 (by decide) (n := 14) rfl rfl (hO_i (lo := -2147483648) (hi := 2147483647) rfl (by decide)) ?_
    intro m2 I3 W4
    have F5 : Fr l_190 0 0 g μ m2 := F0.w W4 gA0 rfl
    refine w_t (np := 6) (l2 := [some (eR a0), some (eI (1))]) (s2 := [eI (-1)]) rfl rfl rfl ?_
    refine b_ri rfl rfl ?_
    show ex_q (dt_fg L ρ) rc (d + 2, (190, 23, [some (eR a0), some (eI (a1)), some (eI (a2)), some (eI (a3))], [eI (-1)]), f :: F, m2)
    exact b_ri rfl rfl (K m2 (-1) I3 F5 (by decide))
  · have b2 : 0 ≤ a2 ∧ a2 ≤ 2147483647 := by omega
    refine w_t (np := 5) (l2 := [some (eR a0), some (eI (a1)), some (eI (a2)), some (eI (a3))]) (s2 := [eI (a2)]) rfl rfl rfl ?_
    refine w_t (np := 6) (l2 := [some (eR a0), some (eI (a1)), some (eI (a2)), some (eI (a3))]) (s2 := [eI (3), eI (a2)]) rfl rfl rfl ?_
    refine b_cgt (t1 := 18) (t2 := 9) rfl rfl rfl (ev_w_in (by omega) (by omega)) rfl (fun g2 => ?_) (fun g2 => ?_)
    · have b3 : 4 ≤ a2 ∧ a2 ≤ 2147483647 := by omega
      refine w_t (np := 19) (l2 := [some (eR a0), some (eI (a1)), some (eI (a2)), some (eI (a3))]) (s2 := [eR a0]) rfl (s_an rfl (pos_g hI gA0 (by decide))) rfl ?_
      refine w_t (np := 20) (l2 := [some (eR a0), some (eI (a1)), some (eI (a2)), some (eI (a3))]) (s2 := [eI (1), eR a0]) rfl rfl rfl ?_
      refine w_cw (np := 23) (as := [eI (1)]) (l2 := [some (eR a0), some (eI (1))]) (rest := []) rfl rfl rfl (Nat.ble_eq.mp rfl) rfl rfl rfl (hI.kd gA0 (by decide) (n := 14) rfl) rfl ?_
      refine w_t (np := 1) (l2 := [some (eR a0), some (eI (1))]) (s2 := [eR a0]) rfl (s_an rfl (pos_g hI gA0 (by decide))) rfl ?_
      refine w_t (np := 2) (l2 := [some (eR a0), some (eI (1))]) (s2 := [eI (1), eR a0]) rfl rfl rfl ?_
      refine j_pf (np := 5) (w := 1) rfl rfl hI gA0 (by decide) (n := 14) rfl rfl (hO_i (lo := -2147483648) (hi := 2147483647) rfl (by decide)) ?_
      intro m3 I4 W5
      have F6 : Fr l_190 0 0 g μ m3 := F0.w W5 gA0 rfl
      refine w_t (np := 6) (l2 := [some (eR a0), some (eI (1))]) (s2 := [eI (-1)]) rfl rfl rfl ?_
      refine b_ri rfl rfl ?_
      show ex_q (dt_fg L ρ) rc (d + 2, (190, 23, [some (eR a0), some (eI (a1)), some (eI (a2)), some (eI (a3))], [eI (-1)]), f :: F, m3)
      exact b_ri rfl rfl (K m3 (-1) I4 F6 (by decide))
    · have b3 : 0 ≤ a2 ∧ a2 ≤ 3 := by omega
      refine w_t (np := 10) (l2 := [some (eR a0), some (eI (a1)), some (eI (a2)), some (eI (a3))]) (s2 := [eI (a3)]) rfl rfl rfl ?_
      refine b_ilt (t1 := 18) (t2 := 13) rfl rfl rfl (ev_w_in (by omega) (by omega)) (fun g3 => ?_) (fun g3 => ?_)
      · have b4 : -2147483648 ≤ a3 ∧ a3 ≤ -1 := by omega
        refine w_t (np := 19) (l2 := [some (eR a0), some (eI (a1)), some (eI (a2)), some (eI (a3))]) (s2 := [eR a0]) rfl (s_an rfl (pos_g hI gA0 (by decide))) rfl ?_
        refine w_t (np := 20) (l2 := [some (eR a0), some (eI (a1)), some (eI (a2)), some (eI (a3))]) (s2 := [eI (1), eR a0]) rfl rfl rfl ?_
        refine w_cw (np := 23) (as := [eI (1)]) (l2 := [some (eR a0), some (eI (1))]) (rest := []) rfl rfl rfl (Nat.ble_eq.mp rfl) rfl rfl rfl (hI.kd gA0 (by decide) (n := 14) rfl) rfl ?_
        refine w_t (np := 1) (l2 := [some (eR a0), some (eI (1))]) (s2 := [eR a0]) rfl (s_an rfl (pos_g hI gA0 (by decide))) rfl ?_
        refine w_t (np := 2) (l2 := [some (eR a0), some (eI (1))]) (s2 := [eI (1), eR a0]) rfl rfl rfl ?_
        refine j_pf (np := 5) (w := 1) rfl rfl hI gA0 (by decide) (n := 14) rfl rfl (hO_i (lo := -2147483648) (hi := 2147483647) rfl (by decide)) ?_
        intro m4 I5 W6
        have F7 : Fr l_190 0 0 g μ m4 := F0.w W6 gA0 rfl
        refine w_t (np := 6) (l2 := [some (eR a0), some (eI (1))]) (s2 := [eI (-1)]) rfl rfl rfl ?_
        refine b_ri rfl rfl ?_
        show ex_q (dt_fg L ρ) rc (d + 2, (190, 23, [some (eR a0), some (eI (a1)), some (eI (a2)), some (eI (a3))], [eI (-1)]), f :: F, m4)
        exact b_ri rfl rfl (K m4 (-1) I5 F7 (by decide))
      · have b4 : 0 ≤ a3 ∧ a3 ≤ 2147483647 := by omega
        refine w_t (np := 14) (l2 := [some (eR a0), some (eI (a1)), some (eI (a2)), some (eI (a3))]) (s2 := [eI (a3)]) rfl rfl rfl ?_
        refine w_t (np := 15) (l2 := [some (eR a0), some (eI (a1)), some (eI (a2)), some (eI (a3))]) (s2 := [eI (3), eI (a3)]) rfl rfl rfl ?_
        refine b_cle (t1 := 24) (t2 := 18) rfl rfl rfl (ev_w_in (by omega) (by omega)) rfl (fun g4 => ?_) (fun g4 => ?_)
        · have b5 : 0 ≤ a3 ∧ a3 ≤ 3 := by omega
          refine w_t (np := 25) (l2 := [some (eR a0), some (eI (a1)), some (eI (a2)), some (eI (a3))]) (s2 := [eR a0]) rfl (s_an rfl (pos_g hI gA0 (by decide))) rfl ?_
          refine j_gr (np := 28) rfl rfl hI gA0 (by decide) (n := 14) rfl rfl rfl ?_
          intro v5 e6 b7 z8
          have b7 : g v5 = 29 := Nat.eq_of_beq_eq_true b7
          refine w_t (np := 29) (l2 := [some (eR a0), some (eI (a1)), some (eI (a2)), some (eI (a3))]) (s2 := [eI (a1), eR v5]) rfl rfl rfl ?_
          refine w_cw (np := 32) (as := [eI (a1)]) (l2 := [some (eR v5), some (eI (a1))]) (rest := []) rfl rfl rfl (Nat.ble_eq.mp rfl) rfl rfl rfl (hI.kd b7 (by decide) (n := 7) rfl) rfl ?_
          refine w_t (np := 1) (l2 := [some (eR v5), some (eI (a1))]) (s2 := [eI (a1)]) rfl rfl rfl ?_
          refine b_ilt (t1 := 12) (t2 := 4) rfl rfl rfl (ev_w_in (by omega) (by omega)) (fun g9 => ?_) (fun g9 => ?_)
          · have b10 : -2147483648 ≤ a1 ∧ a1 ≤ -1 := by omega
            refine w_t (np := 13) (l2 := [some (eR v5), some (eI (a1))]) (s2 := [eI (1)]) rfl rfl rfl ?_
            refine w_go (t1 := 17) rfl rfl ?_
            refine b_rz rfl rfl (Or.inr rfl) ?_
            show ex_q (dt_fg L ρ) rc (d + 2, (190, 32, [some (eR a0), some (eI (a1)), some (eI (a2)), some (eI (a3))], [eI (1)]), f :: F, μ)
            refine b_ieq (t1 := 41) (t2 := 35) rfl rfl rfl rfl (fun g10 => absurd g10 (by decide)) (fun g10 => ?_)
            refine w_t (np := 36) (l2 := [some (eR a0), some (eI (a1)), some (eI (a2)), some (eI (a3))]) (s2 := [eR a0]) rfl (s_an rfl (pos_g hI gA0 (by decide))) rfl ?_
            refine w_t (np := 37) (l2 := [some (eR a0), some (eI (a1)), some (eI (a2)), some (eI (a3))]) (s2 := [eI (2), eR a0]) rfl rfl rfl ?_
            refine w_cw (np := 40) (as := [eI (2)]) (l2 := [some (eR a0), some (eI (2))]) (rest := []) rfl rfl rfl (Nat.ble_eq.mp rfl) rfl rfl rfl (hI.kd gA0 (by decide) (n := 14) rfl) rfl ?_
            refine w_t (np := 1) (l2 := [some (eR a0), some (eI (2))]) (s2 := [eR a0]) rfl (s_an rfl (pos_g hI gA0 (by decide))) rfl ?_
            refine w_t (np := 2) (l2 := [some (eR a0), some (eI (2))]) (s2 := [eI (2), eR a0]) rfl rfl rfl ?_
            refine j_pf (np := 5) (w := 2) rfl rfl hI gA0 (by decide) (n := 14) rfl rfl (hO_i (lo := -2147483648) (hi := 2147483647) rfl (by decide)) ?_
            intro m11 I12 W13
            have F14 : Fr l_190 0 0 g μ m11 := F0.w W13 gA0 rfl
            refine w_t (np := 6) (l2 := [some (eR a0), some (eI (2))]) (s2 := [eI (-1)]) rfl rfl rfl ?_
            refine b_ri rfl rfl ?_
            show ex_q (dt_fg L ρ) rc (d + 2, (190, 40, [some (eR a0), some (eI (a1)), some (eI (a2)), some (eI (a3))], [eI (-1)]), f :: F, m11)
            exact b_ri rfl rfl (K m11 (-1) I12 F14 (by decide))
          · have b10 : 0 ≤ a1 ∧ a1 ≤ 2147483647 := by omega
            refine w_t (np := 5) (l2 := [some (eR v5), some (eI (a1))]) (s2 := [eI (a1)]) rfl rfl rfl ?_
            refine w_t (np := 6) (l2 := [some (eR v5), some (eI (a1))]) (s2 := [eR v5, eI (a1)]) rfl (s_an rfl (pos_g hI b7 (by decide))) rfl ?_
            refine j_gi (np := 9) rfl rfl rfl hI b7 (by decide) (n := 7) rfl rfl (lo := 0) (hi := 24) rfl ?_
            intro v10 e11 b12
            refine b_clt (t1 := 16) (t2 := 12) rfl rfl rfl (ev_w_in (by omega) (by omega)) (ev_w_in (by omega) (by omega)) (fun g13 => ?_) (fun g13 => ?_)
            · have b14 : 0 ≤ a1 ∧ a1 ≤ 23 := by omega
              have b15 : 1 ≤ v10 ∧ v10 ≤ 24 := by omega
              refine w_t (np := 17) (l2 := [some (eR v5), some (eI (a1))]) (s2 := [eI (0)]) rfl rfl rfl ?_
              refine b_rz rfl rfl (Or.inl rfl) ?_
              show ex_q (dt_fg L ρ) rc (d + 2, (190, 32, [some (eR a0), some (eI (a1)), some (eI (a2)), some (eI (a3))], [eI (0)]), f :: F, μ)
              refine b_ieq (t1 := 41) (t2 := 35) rfl rfl rfl rfl (fun g14 => ?_) (fun g14 => absurd g14 (by decide))
              refine w_t (np := 42) (l2 := [some (eR a0), some (eI (a1)), some (eI (a2)), some (eI (a3))]) (s2 := [eR a0]) rfl (s_an rfl (pos_g hI gA0 (by decide))) rfl ?_
              refine w_t (np := 43) (l2 := [some (eR a0), some (eI (a1)), some (eI (a2)), some (eI (a3))]) (s2 := [eR a0, eR a0]) rfl (s_an rfl (pos_g hI gA0 (by decide))) rfl ?_
              refine w_gf (np := 46) (v := eR v5) rfl rfl (hI.kd gA0 (by decide) (n := 14) rfl) (by rw [e6]; rfl) ?_
              refine w_t (np := 47) (l2 := [some (eR a0), some (eI (a1)), some (eI (a2)), some (eI (a3))]) (s2 := [eI (a1), eR v5, eR a0]) rfl rfl rfl ?_
              refine w_t (np := 48) (l2 := [some (eR a0), some (eI (a1)), some (eI (a2)), some (eI (a3))]) (s2 := [eI (a2), eI (a1), eR v5, eR a0]) rfl rfl rfl ?_
              refine w_cw (np := 51) (as := [eI (a1), eI (a2)]) (l2 := [some (eR v5), some (eI (a1)), some (eI (a2))]) (rest := [eR a0]) rfl rfl rfl (Nat.ble_eq.mp rfl) rfl rfl rfl (hI.kd b7 (by decide) (n := 7) rfl) rfl ?_
              refine s_131 (a1 := a1) (a2 := a2) hI b7 (by omega) (by omega) ?_
              intro v15 b16
              show ex_q (dt_fg L ρ) rc (d + 2, (190, 51, [some (eR a0), some (eI (a1)), some (eI (a2)), some (eI (a3))], [eJ (v15), eR a0]), f :: F, μ)
              refine w_t (np := 52) (l2 := [some (eR a0), some (eI (a1)), some (eI (a2)), some (eI (a3))]) (s2 := [eI (a3), eJ (v15), eR a0]) rfl rfl rfl ?_
              refine w_cu (np := 55) (as := [eJ (v15), eI (a3)]) (l2 := [some (eJ (v15)), none, some (eI (a3))]) (rest := [eR a0]) rfl rfl rfl (Nat.ble_eq.mp rfl) rfl rfl rfl rfl ?_
              refine s_73 (a2 := a3) hI b16 (by omega) ?_
              intro v17 b18
              show ex_q (dt_fg L ρ) rc (d + 2, (190, 55, [some (eR a0), some (eI (a1)), some (eI (a2)), some (eI (a3))], [eI (v17), eR a0]), f :: F, μ)
              refine w_cw (np := 58) (as := [eI (v17)]) (l2 := [some (eR a0), some (eI (v17))]) (rest := []) rfl rfl rfl (Nat.ble_eq.mp rfl) rfl rfl rfl (hI.kd gA0 (by decide) (n := 14) rfl) rfl ?_
              refine w_t (np := 1) (l2 := [some (eR a0), some (eI (v17))]) (s2 := [eR a0]) rfl (s_an rfl (pos_g hI gA0 (by decide))) rfl ?_
              refine w_t (np := 2) (l2 := [some (eR a0), some (eI (v17))]) (s2 := [eI (0), eR a0]) rfl rfl rfl ?_
              refine j_pf (np := 5) (w := 0) rfl rfl hI gA0 (by decide) (n := 14) rfl rfl (hO_i (lo := -2147483648) (hi := 2147483647) rfl (by decide)) ?_
              intro m19 I20 W21
              have F22 : Fr l_190 0 0 g μ m19 := F0.w W21 gA0 rfl
              refine w_t (np := 6) (l2 := [some (eR a0), some (eI (v17))]) (s2 := [eI (v17)]) rfl rfl rfl ?_
              refine b_ri rfl rfl ?_
              show ex_q (dt_fg L ρ) rc (d + 2, (190, 58, [some (eR a0), some (eI (a1)), some (eI (a2)), some (eI (a3))], [eI (v17)]), f :: F, m19)
              exact b_ri rfl rfl (K m19 (v17) I20 F22 (by omega))
            · refine w_t (np := 13) (l2 := [some (eR v5), some (eI (a1))]) (s2 := [eI (1)]) rfl rfl rfl ?_
              refine w_go (t1 := 17) rfl rfl ?_
              refine b_rz rfl rfl (Or.inr rfl) ?_
              show ex_q (dt_fg L ρ) rc (d + 2, (190, 32, [some (eR a0), some (eI (a1)), some (eI (a2)), some (eI (a3))], [eI (1)]), f :: F, μ)
              refine b_ieq (t1 := 41) (t2 := 35) rfl rfl rfl rfl (fun g14 => absurd g14 (by decide)) (fun g14 => ?_)
              refine w_t (np := 36) (l2 := [some (eR a0), some (eI (a1)), some (eI (a2)), some (eI (a3))]) (s2 := [eR a0]) rfl (s_an rfl (pos_g hI gA0 (by decide))) rfl ?_
              refine w_t (np := 37) (l2 := [some (eR a0), some (eI (a1)), some (eI (a2)), some (eI (a3))]) (s2 := [eI (2), eR a0]) rfl rfl rfl ?_
              refine w_cw (np := 40) (as := [eI (2)]) (l2 := [some (eR a0), some (eI (2))]) (rest := []) rfl rfl rfl (Nat.ble_eq.mp rfl) rfl rfl rfl (hI.kd gA0 (by decide) (n := 14) rfl) rfl ?_
              refine w_t (np := 1) (l2 := [some (eR a0), some (eI (2))]) (s2 := [eR a0]) rfl (s_an rfl (pos_g hI gA0 (by decide))) rfl ?_
              refine w_t (np := 2) (l2 := [some (eR a0), some (eI (2))]) (s2 := [eI (2), eR a0]) rfl rfl rfl ?_
              refine j_pf (np := 5) (w := 2) rfl rfl hI gA0 (by decide) (n := 14) rfl rfl (hO_i (lo := -2147483648) (hi := 2147483647) rfl (by decide)) ?_
              intro m15 I16 W17
              have F18 : Fr l_190 0 0 g μ m15 := F0.w W17 gA0 rfl
              refine w_t (np := 6) (l2 := [some (eR a0), some (eI (2))]) (s2 := [eI (-1)]) rfl rfl rfl ?_
              refine b_ri rfl rfl ?_
              show ex_q (dt_fg L ρ) rc (d + 2, (190, 40, [some (eR a0), some (eI (a1)), some (eI (a2)), some (eI (a3))], [eI (-1)]), f :: F, m15)
              exact b_ri rfl rfl (K m15 (-1) I16 F18 (by decide))
        · have b5 : 4 ≤ a3 ∧ a3 ≤ 2147483647 := by omega
          refine w_t (np := 19) (l2 := [some (eR a0), some (eI (a1)), some (eI (a2)), some (eI (a3))]) (s2 := [eR a0]) rfl (s_an rfl (pos_g hI gA0 (by decide))) rfl ?_
          refine w_t (np := 20) (l2 := [some (eR a0), some (eI (a1)), some (eI (a2)), some (eI (a3))]) (s2 := [eI (1), eR a0]) rfl rfl rfl ?_
          refine w_cw (np := 23) (as := [eI (1)]) (l2 := [some (eR a0), some (eI (1))]) (rest := []) rfl rfl rfl (Nat.ble_eq.mp rfl) rfl rfl rfl (hI.kd gA0 (by decide) (n := 14) rfl) rfl ?_
          refine w_t (np := 1) (l2 := [some (eR a0), some (eI (1))]) (s2 := [eR a0]) rfl (s_an rfl (pos_g hI gA0 (by decide))) rfl ?_
          refine w_t (np := 2) (l2 := [some (eR a0), some (eI (1))]) (s2 := [eI (1), eR a0]) rfl rfl rfl ?_
          refine j_pf (np := 5) (w := 1) rfl rfl hI gA0 (by decide) (n := 14) rfl rfl (hO_i (lo := -2147483648) (hi := 2147483647) rfl (by decide)) ?_
          intro m5 I6 W7
          have F8 : Fr l_190 0 0 g μ m5 := F0.w W7 gA0 rfl
          refine w_t (np := 6) (l2 := [some (eR a0), some (eI (1))]) (s2 := [eI (-1)]) rfl rfl rfl ?_
          refine b_ri rfl rfl ?_
          show ex_q (dt_fg L ρ) rc (d + 2, (190, 23, [some (eR a0), some (eI (a1)), some (eI (a2)), some (eI (a3))], [eI (-1)]), f :: F, m5)
          exact b_ri rfl rfl (K m5 (-1) I6 F8 (by decide))
