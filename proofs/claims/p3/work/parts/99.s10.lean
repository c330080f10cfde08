/-! methods, walked -/
def l_167 : List Nat := [270]
theorem s_167 {L : Nat} {ρ : Nat → Int} {rc : eQ} {d : Nat} {f : eFr} {F : List eFr} {μ : eM} {g : Nat → Nat} {a0 : Nat} {a1 : Int} {a2 : Int} {a3 : Int} (hI : SI g μ) (gA0 : g a0 = 1) (bA1 : -2147483648 ≤ a1 ∧ a1 ≤ 2147483647) (bA2 : -2147483648 ≤ a2 ∧ a2 ≤ 2147483647) (bA3 : -2147483648 ≤ a3 ∧ a3 ≤ 2147483647) (K : ∀ (μ2 : eM) (v : Int), SI g μ2 → Fr l_167 0 0 g μ μ2 → (-2147483648 ≤ v ∧ v ≤ 2147483647) → ex_q (dt_fg L ρ) rc (d + 3, (f.1, f.2.1, f.2.2.1, eI v :: f.2.2.2), F, μ2)) : ex_q (dt_fg L ρ) rc (d + 2, (167, 0, [some (eR a0), some (eI (a1)), some (eI (a2)), some (eI (a3)), none, none], []), f :: F, μ) := by
  have F0 : Fr l_167 0 0 g μ μ := Fr.r
  refine w_t (np := 1) (l2 := [some (eR a0), some (eI (a1)), some (eI (a2)), some (eI (a3)), none, none]) (s2 := [eI (a3)]) rfl rfl rfl ?_
  refine b_ilt (t1 := 9) (t2 := 4) rfl rfl rfl (ev_w_in (by omega) (by omega)) (fun g1 => ?_) (fun g1 => ?_)
  · have b2 : -2147483648 ≤ a3 ∧ a3 ≤ -1 := by omega
    refine w_t (np := 10) (l2 := [some (eR a0), some (eI (a1)), some (eI (a2)), some (eI (a3)), none, none]) (s2 := [eR a0]) rfl (s_an rfl (pos_g hI gA0 (by decide))) rfl ?_
    refine w_t (np := 11) (l2 := [some (eR a0), some (eI (a1)), some (eI (a2)), some (eI (a3)), none, none]) (s2 := [eI (1), eR a0]) rfl rfl rfl ?_
    refine w_cw (np := 14) (as := [eI (1)]) (l2 := [some (eR a0), some (eI (1))]) (rest := []) rfl rfl rfl (Nat.ble_eq.mp rfl) rfl rfl rfl (hI.kd gA0 (by decide) (n := 14) rfl) rfl ?_
    refine w_t (np := 1) (l2 := [some (eR a0), some (eI (1))]) (s2 := [eR a0]) rfl (s_an rfl (pos_g hI gA0 (by decide))) rfl ?_
    refine w_t (np := 2) (l2 := [some (eR a0), some (eI (1))]) (s2 := [eI (1), eR a0]) rfl rfl rfl ?_
    refine j_pf (np := 5) (w := 1) rfl rfl hI gA0 (by decide) (n := 14) rfl rfl (hO_i (lo := -2147483648) (hi := 2147483647) rfl (by decide)) ?_
    intro m2 I3 W4
    have F5 : Fr l_167 0 0 g μ m2 := F0.w W4 gA0 rfl
    refine w_t (np := 6) (l2 := [some (eR a0), some (eI (1))]) (s2 := [eI (-1)]) rfl rfl rfl ?_
    refine b_ri rfl rfl ?_
    show ex_q (dt_fg L ρ) rc (d + 2, (167, 14, [some (eR a0), some (eI (a1)), some (eI (a2)), some (eI (a3)), none, none], [eI (-1)]), f :: F, m2)
    exact b_ri rfl rfl (K m2 (-1) I3 F5 (by decide))
  · have b2 : 0 ≤ a3 ∧ a3 ≤ 2147483647 := by omega
    refine w_t (np := 5) (l2 := [some (eR a0), some (eI (a1)), some (eI (a2)), some (eI (a3)), none, none]) (s2 := [eI (a3)]) rfl rfl rfl ?_
    refine w_t (np := 6) (l2 := [some (eR a0), some (eI (a1)), some (eI (a2)), some (eI (a3)), none, none]) (s2 := [eI (1), eI (a3)]) rfl rfl rfl ?_
    refine b_cle (t1 := 15) (t2 := 9) rfl rfl rfl (ev_w_in (by omega) (by omega)) rfl (fun g2 => ?_) (fun g2 => ?_)
    · have b3 : 0 ≤ a3 ∧ a3 ≤ 1 := by omega
      refine w_t (np := 16) (l2 := [some (eR a0), some (eI (a1)), some (eI (a2)), some (eI (a3)), none, none]) (s2 := [eR a0]) rfl (s_an rfl (pos_g hI gA0 (by decide))) rfl ?_
      refine j_gr (np := 19) rfl rfl hI gA0 (by decide) (n := 14) rfl rfl rfl ?_
      intro v3 e4 b5 z6
      rcases hor2 b5 with b5 | b5
      · refine w_t (np := 20) (l2 := [some (eR a0), some (eI (a1)), some (eI (a2)), some (eI (a3)), none, none]) (s2 := [eI (a1), eR v3]) rfl rfl rfl ?_
        refine w_cw (np := 23) (as := [eI (a1)]) (l2 := [some (eR v3), some (eI (a1))]) (rest := []) rfl rfl rfl (Nat.ble_eq.mp rfl) rfl rfl rfl (hI.kd b5 (by decide) (n := 8) rfl) rfl ?_
        refine w_t (np := 1) (l2 := [some (eR v3), some (eI (a1))]) (s2 := [eI (a1)]) rfl rfl rfl ?_
        refine b_ilt (t1 := 12) (t2 := 4) rfl rfl rfl (ev_w_in (by omega) (by omega)) (fun g7 => ?_) (fun g7 => ?_)
        · have b8 : -2147483648 ≤ a1 ∧ a1 ≤ -1 := by omega
          refine w_t (np := 13) (l2 := [some (eR v3), some (eI (a1))]) (s2 := [eI (1)]) rfl rfl rfl ?_
          refine w_go (t1 := 17) rfl rfl ?_
          refine b_rz rfl rfl (Or.inr rfl) ?_
          show ex_q (dt_fg L ρ) rc (d + 2, (167, 23, [some (eR a0), some (eI (a1)), some (eI (a2)), some (eI (a3)), none, none], [eI (1)]), f :: F, μ)
          refine b_ine (t1 := 37) (t2 := 26) rfl rfl rfl rfl (fun g8 => ?_) (fun g8 => absurd g8 (by decide))
          refine w_t (np := 38) (l2 := [some (eR a0), some (eI (a1)), some (eI (a2)), some (eI (a3)), none, none]) (s2 := [eR a0]) rfl (s_an rfl (pos_g hI gA0 (by decide))) rfl ?_
          refine w_t (np := 39) (l2 := [some (eR a0), some (eI (a1)), some (eI (a2)), some (eI (a3)), none, none]) (s2 := [eI (2), eR a0]) rfl rfl rfl ?_
          refine w_cw (np := 42) (as := [eI (2)]) (l2 := [some (eR a0), some (eI (2))]) (rest := []) rfl rfl rfl (Nat.ble_eq.mp rfl) rfl rfl rfl (hI.kd gA0 (by decide) (n := 14) rfl) rfl ?_
          refine w_t (np := 1) (l2 := [some (eR a0), some (eI (2))]) (s2 := [eR a0]) rfl (s_an rfl (pos_g hI gA0 (by decide))) rfl ?_
          refine w_t (np := 2) (l2 := [some (eR a0), some (eI (2))]) (s2 := [eI (2), eR a0]) rfl rfl rfl ?_
          refine j_pf (np := 5) (w := 2) rfl rfl hI gA0 (by decide) (n := 14) rfl rfl (hO_i (lo := -2147483648) (hi := 2147483647) rfl (by decide)) ?_
          intro m9 I10 W11
          have F12 : Fr l_167 0 0 g μ m9 := F0.w W11 gA0 rfl
          refine w_t (np := 6) (l2 := [some (eR a0), some (eI (2))]) (s2 := [eI (-1)]) rfl rfl rfl ?_
          refine b_ri rfl rfl ?_
          show ex_q (dt_fg L ρ) rc (d + 2, (167, 42, [some (eR a0), some (eI (a1)), some (eI (a2)), some (eI (a3)), none, none], [eI (-1)]), f :: F, m9)
          exact b_ri rfl rfl (K m9 (-1) I10 F12 (by decide))
        · have b8 : 0 ≤ a1 ∧ a1 ≤ 2147483647 := by omega
          refine w_t (np := 5) (l2 := [some (eR v3), some (eI (a1))]) (s2 := [eI (a1)]) rfl rfl rfl ?_
          refine w_t (np := 6) (l2 := [some (eR v3), some (eI (a1))]) (s2 := [eR v3, eI (a1)]) rfl (s_an rfl (pos_g hI b5 (by decide))) rfl ?_
          refine j_gi (np := 9) rfl rfl rfl hI b5 (by decide) (n := 8) rfl rfl (lo := 0) (hi := 50) rfl ?_
          intro v8 e9 b10
          refine b_clt (t1 := 16) (t2 := 12) rfl rfl rfl (ev_w_in (by omega) (by omega)) (ev_w_in (by omega) (by omega)) (fun g11 => ?_) (fun g11 => ?_)
          · have b12 : 0 ≤ a1 ∧ a1 ≤ 49 := by omega
            have b13 : 1 ≤ v8 ∧ v8 ≤ 50 := by omega
            refine w_t (np := 17) (l2 := [some (eR v3), some (eI (a1))]) (s2 := [eI (0)]) rfl rfl rfl ?_
            refine b_rz rfl rfl (Or.inl rfl) ?_
            show ex_q (dt_fg L ρ) rc (d + 2, (167, 23, [some (eR a0), some (eI (a1)), some (eI (a2)), some (eI (a3)), none, none], [eI (0)]), f :: F, μ)
            refine b_ine (t1 := 37) (t2 := 26) rfl rfl rfl rfl (fun g12 => absurd g12 (by decide)) (fun g12 => ?_)
            refine w_t (np := 27) (l2 := [some (eR a0), some (eI (a1)), some (eI (a2)), some (eI (a3)), none, none]) (s2 := [eR a0]) rfl (s_an rfl (pos_g hI gA0 (by decide))) rfl ?_
            refine w_gf (np := 30) (v := eR v3) rfl rfl (hI.kd gA0 (by decide) (n := 14) rfl) (by rw [e4]; rfl) ?_
            refine w_t (np := 31) (l2 := [some (eR a0), some (eI (a1)), some (eI (a2)), some (eI (a3)), none, none]) (s2 := [eI (a2), eR v3]) rfl rfl rfl ?_
            refine w_cw (np := 34) (as := [eI (a2)]) (l2 := [some (eR v3), some (eI (a2))]) (rest := []) rfl rfl rfl (Nat.ble_eq.mp rfl) rfl rfl rfl (hI.kd b5 (by decide) (n := 8) rfl) rfl ?_
            refine w_t (np := 1) (l2 := [some (eR v3), some (eI (a2))]) (s2 := [eI (a2)]) rfl rfl rfl ?_
            refine b_ilt (t1 := 12) (t2 := 4) rfl rfl rfl (ev_w_in (by omega) (by omega)) (fun g13 => ?_) (fun g13 => ?_)
            · have b14 : -2147483648 ≤ a2 ∧ a2 ≤ -1 := by omega
              refine w_t (np := 13) (l2 := [some (eR v3), some (eI (a2))]) (s2 := [eI (1)]) rfl rfl rfl ?_
              refine w_go (t1 := 17) rfl rfl ?_
              refine b_rz rfl rfl (Or.inr rfl) ?_
              show ex_q (dt_fg L ρ) rc (d + 2, (167, 34, [some (eR a0), some (eI (a1)), some (eI (a2)), some (eI (a3)), none, none], [eI (1)]), f :: F, μ)
              refine b_ieq (t1 := 43) (t2 := 37) rfl rfl rfl rfl (fun g14 => absurd g14 (by decide)) (fun g14 => ?_)
              refine w_t (np := 38) (l2 := [some (eR a0), some (eI (a1)), some (eI (a2)), some (eI (a3)), none, none]) (s2 := [eR a0]) rfl (s_an rfl (pos_g hI gA0 (by decide))) rfl ?_
              refine w_t (np := 39) (l2 := [some (eR a0), some (eI (a1)), some (eI (a2)), some (eI (a3)), none, none]) (s2 := [eI (2), eR a0]) rfl rfl rfl ?_
              refine w_cw (np := 42) (as := [eI (2)]) (l2 := [some (eR a0), some (eI (2))]) (rest := []) rfl rfl rfl (Nat.ble_eq.mp rfl) rfl rfl rfl (hI.kd gA0 (by decide) (n := 14) rfl) rfl ?_
              refine w_t (np := 1) (l2 := [some (eR a0), some (eI (2))]) (s2 := [eR a0]) rfl (s_an rfl (pos_g hI gA0 (by decide))) rfl ?_
              refine w_t (np := 2) (l2 := [some (eR a0), some (eI (2))]) (s2 := [eI (2), eR a0]) rfl rfl rfl ?_
              refine j_pf (np := 5) (w := 2) rfl rfl hI gA0 (by decide) (n := 14) rfl rfl (hO_i (lo := -2147483648) (hi := 2147483647) rfl (by decide)) ?_
              intro m15 I16 W17
              have F18 : Fr l_167 0 0 g μ m15 := F0.w W17 gA0 rfl
              refine w_t (np := 6) (l2 := [some (eR a0), some (eI (2))]) (s2 := [eI (-1)]) rfl rfl rfl ?_
              refine b_ri rfl rfl ?_
              show ex_q (dt_fg L ρ) rc (d + 2, (167, 42, [some (eR a0), some (eI (a1)), some (eI (a2)), some (eI (a3)), none, none], [eI (-1)]), f :: F, m15)
              exact b_ri rfl rfl (K m15 (-1) I16 F18 (by decide))
            · have b14 : 0 ≤ a2 ∧ a2 ≤ 2147483647 := by omega
              refine w_t (np := 5) (l2 := [some (eR v3), some (eI (a2))]) (s2 := [eI (a2)]) rfl rfl rfl ?_
              refine w_t (np := 6) (l2 := [some (eR v3), some (eI (a2))]) (s2 := [eR v3, eI (a2)]) rfl (s_an rfl (pos_g hI b5 (by decide))) rfl ?_
              refine w_gf (np := 9) (v := eI (v8)) rfl rfl (hI.kd b5 (by decide) (n := 8) rfl) (by rw [e9]; rfl) ?_
              refine b_clt (t1 := 16) (t2 := 12) rfl rfl rfl (ev_w_in (by omega) (by omega)) (ev_w_in (by omega) (by omega)) (fun g14 => ?_) (fun g14 => ?_)
              · have b15 : 0 ≤ a2 ∧ a2 ≤ 49 := by omega
                refine w_t (np := 17) (l2 := [some (eR v3), some (eI (a2))]) (s2 := [eI (0)]) rfl rfl rfl ?_
                refine b_rz rfl rfl (Or.inl rfl) ?_
                show ex_q (dt_fg L ρ) rc (d + 2, (167, 34, [some (eR a0), some (eI (a1)), some (eI (a2)), some (eI (a3)), none, none], [eI (0)]), f :: F, μ)
                refine b_ieq (t1 := 43) (t2 := 37) rfl rfl rfl rfl (fun g15 => ?_) (fun g15 => absurd g15 (by decide))
                refine w_t (np := 44) (l2 := [some (eR a0), some (eI (a1)), some (eI (a2)), some (eI (a3)), none, none]) (s2 := [eR a0]) rfl (s_an rfl (pos_g hI gA0 (by decide))) rfl ?_
                refine w_gf (np := 47) (v := eR v3) rfl rfl (hI.kd gA0 (by decide) (n := 14) rfl) (by rw [e4]; rfl) ?_
                refine w_t (np := 48) (l2 := [some (eR a0), some (eI (a1)), some (eI (a2)), some (eI (a3)), none, none]) (s2 := [eI (a1), eR v3]) rfl rfl rfl ?_
                refine w_t (np := 49) (l2 := [some (eR a0), some (eI (a1)), some (eI (a2)), some (eI (a3)), none, none]) (s2 := [eI (0), eI (a1), eR v3]) rfl rfl rfl ?_
                refine w_cw (np := 52) (as := [eI (a1), eI (0)]) (l2 := [some (eR v3), some (eI (a1)), some (eI (0))]) (rest := []) rfl rfl rfl (Nat.ble_eq.mp rfl) rfl rfl rfl (hI.kd b5 (by decide) (n := 8) rfl) rfl ?_
                refine s_22 (a1 := a1) (a2 := 0) hI b5 (by omega) (by decide) ?_
                intro v16 b17
                show ex_q (dt_fg L ρ) rc (d + 2, (167, 52, [some (eR a0), some (eI (a1)), some (eI (a2)), some (eI (a3)), none, none], [eJ (v16)]), f :: F, μ)
                refine w_t (np := 53) (l2 := [some (eR a0), some (eI (a1)), some (eI (a2)), some (eI (a3)), none, none]) (s2 := [eR a0, eJ (v16)]) rfl (s_an rfl (pos_g hI gA0 (by decide))) rfl ?_
                refine w_gf (np := 56) (v := eR v3) rfl rfl (hI.kd gA0 (by decide) (n := 14) rfl) (by rw [e4]; rfl) ?_
                refine w_t (np := 57) (l2 := [some (eR a0), some (eI (a1)), some (eI (a2)), some (eI (a3)), none, none]) (s2 := [eI (a2), eR v3, eJ (v16)]) rfl rfl rfl ?_
                refine w_t (np := 58) (l2 := [some (eR a0), some (eI (a1)), some (eI (a2)), some (eI (a3)), none, none]) (s2 := [eI (0), eI (a2), eR v3, eJ (v16)]) rfl rfl rfl ?_
                refine w_cw (np := 61) (as := [eI (a2), eI (0)]) (l2 := [some (eR v3), some (eI (a2)), some (eI (0))]) (rest := [eJ (v16)]) rfl rfl rfl (Nat.ble_eq.mp rfl) rfl rfl rfl (hI.kd b5 (by decide) (n := 8) rfl) rfl ?_
                refine s_22 (a1 := a2) (a2 := 0) hI b5 (by omega) (by decide) ?_
                intro v18 b19
                show ex_q (dt_fg L ρ) rc (d + 2, (167, 61, [some (eR a0), some (eI (a1)), some (eI (a2)), some (eI (a3)), none, none], [eJ (v18), eJ (v16)]), f :: F, μ)
                refine w_cu (np := 64) (as := [eJ (v16), eJ (v18)]) (l2 := [some (eJ (v16)), none, some (eJ (v18)), none]) (rest := []) rfl rfl rfl (Nat.ble_eq.mp rfl) rfl rfl rfl rfl ?_
                refine s_76 hI b17 b19 ?_
                intro v20 b21
                show ex_q (dt_fg L ρ) rc (d + 2, (167, 64, [some (eR a0), some (eI (a1)), some (eI (a2)), some (eI (a3)), none, none], [eJ (v20)]), f :: F, μ)
                refine w_t (np := 66) (l2 := [some (eR a0), some (eI (a1)), some (eI (a2)), some (eI (a3)), some (eJ (v20)), none]) (s2 := []) rfl rfl rfl ?_
                refine w_t (np := 67) (l2 := [some (eR a0), some (eI (a1)), some (eI (a2)), some (eI (a3)), some (eJ (v20)), none]) (s2 := [eR a0]) rfl (s_an rfl (pos_g hI gA0 (by decide))) rfl ?_
                refine w_t (np := 68) (l2 := [some (eR a0), some (eI (a1)), some (eI (a2)), some (eI (a3)), some (eJ (v20)), none]) (s2 := [eI (2), eR a0]) rfl rfl rfl ?_
                refine w_t (np := 69) (l2 := [some (eR a0), some (eI (a1)), some (eI (a2)), some (eI (a3)), some (eJ (v20)), none]) (s2 := [eI (a3), eI (2), eR a0]) rfl rfl rfl ?_
                refine b_ine (t1 := 80) (t2 := 72) rfl rfl rfl (ev_w_in (by omega) (by omega)) (fun g22 => ?_) (fun g22 => ?_)
                · have b23 : 1 ≤ a3 ∧ a3 ≤ 1 := by omega
                  refine w_t (np := 82) (l2 := [some (eR a0), some (eI (a1)), some (eI (a2)), some (eI (a3)), some (eJ (v20)), none]) (s2 := [eJ (v20), eI (2), eR a0]) rfl rfl rfl ?_
                  refine w_cu (np := 85) (as := [eJ (v20)]) (l2 := [some (eJ (v20)), none, none, none, none, none]) (rest := [eI (2), eR a0]) rfl rfl rfl (Nat.ble_eq.mp rfl) rfl rfl rfl rfl ?_
                  refine s_87 hI b21 ?_
                  intro v23 b24
                  show ex_q (dt_fg L ρ) rc (d + 2, (167, 85, [some (eR a0), some (eI (a1)), some (eI (a2)), some (eI (a3)), some (eJ (v20)), none], [eI (v23), eI (2), eR a0]), f :: F, μ)
                  obtain ⟨v25, e26, b27⟩ : ∃ zz : Int, ev_w ((2) * (v23)) = zz ∧ (-2147483648 ≤ zz ∧ zz ≤ 2147483647) := ⟨_, rfl, hw_bd _⟩
                  refine w_t (np := 86) (l2 := [some (eR a0), some (eI (a1)), some (eI (a2)), some (eI (a3)), some (eJ (v20)), none]) (s2 := [eI (v25), eR a0]) rfl (b_imul e26) rfl ?_
                  refine w_cw (np := 89) (as := [eI (v25)]) (l2 := [some (eR a0), some (eI (v25))]) (rest := []) rfl rfl rfl (Nat.ble_eq.mp rfl) rfl rfl rfl (hI.kd gA0 (by decide) (n := 14) rfl) rfl ?_
                  refine w_t (np := 1) (l2 := [some (eR a0), some (eI (v25))]) (s2 := [eR a0]) rfl (s_an rfl (pos_g hI gA0 (by decide))) rfl ?_
                  refine w_t (np := 2) (l2 := [some (eR a0), some (eI (v25))]) (s2 := [eI (0), eR a0]) rfl rfl rfl ?_
                  refine j_pf (np := 5) (w := 0) rfl rfl hI gA0 (by decide) (n := 14) rfl rfl (hO_i (lo := -2147483648) (hi := 2147483647) rfl (by decide)) ?_
                  intro m28 I29 W30
                  have F31 : Fr l_167 0 0 g μ m28 := F0.w W30 gA0 rfl
                  refine w_t (np := 6) (l2 := [some (eR a0), some (eI (v25))]) (s2 := [eI (v25)]) rfl rfl rfl ?_
                  refine b_ri rfl rfl ?_
                  show ex_q (dt_fg L ρ) rc (d + 2, (167, 89, [some (eR a0), some (eI (a1)), some (eI (a2)), some (eI (a3)), some (eJ (v20)), none], [eI (v25)]), f :: F, m28)
                  exact b_ri rfl rfl (K m28 (v25) I29 F31 (by omega))
                · have b23 : 0 ≤ a3 ∧ a3 ≤ 0 := by omega
                  refine w_t (np := 74) (l2 := [some (eR a0), some (eI (a1)), some (eI (a2)), some (eI (a3)), some (eJ (v20)), none]) (s2 := [eJ (v20), eI (2), eR a0]) rfl rfl rfl ?_
                  refine w_cu (np := 77) (as := [eJ (v20)]) (l2 := [some (eJ (v20)), none, none, none, none, none]) (rest := [eI (2), eR a0]) rfl rfl rfl (Nat.ble_eq.mp rfl) rfl rfl rfl rfl ?_
                  refine s_86 hI b21 ?_
                  intro v23 b24
                  show ex_q (dt_fg L ρ) rc (d + 2, (167, 77, [some (eR a0), some (eI (a1)), some (eI (a2)), some (eI (a3)), some (eJ (v20)), none], [eI (v23), eI (2), eR a0]), f :: F, μ)
                  refine w_go (t1 := 85) rfl rfl ?_
                  obtain ⟨v25, e26, b27⟩ : ∃ zz : Int, ev_w ((2) * (v23)) = zz ∧ (-2147483648 ≤ zz ∧ zz ≤ 2147483647) := ⟨_, rfl, hw_bd _⟩
                  refine w_t (np := 86) (l2 := [some (eR a0), some (eI (a1)), some (eI (a2)), some (eI (a3)), some (eJ (v20)), none]) (s2 := [eI (v25), eR a0]) rfl (b_imul e26) rfl ?_
                  refine w_cw (np := 89) (as := [eI (v25)]) (l2 := [some (eR a0), some (eI (v25))]) (rest := []) rfl rfl rfl (Nat.ble_eq.mp rfl) rfl rfl rfl (hI.kd gA0 (by decide) (n := 14) rfl) rfl ?_
                  refine w_t (np := 1) (l2 := [some (eR a0), some (eI (v25))]) (s2 := [eR a0]) rfl (s_an rfl (pos_g hI gA0 (by decide))) rfl ?_
                  refine w_t (np := 2) (l2 := [some (eR a0), some (eI (v25))]) (s2 := [eI (0), eR a0]) rfl rfl rfl ?_
                  refine j_pf (np := 5) (w := 0) rfl rfl hI gA0 (by decide) (n := 14) rfl rfl (hO_i (lo := -2147483648) (hi := 2147483647) rfl (by decide)) ?_
                  intro m28 I29 W30
                  have F31 : Fr l_167 0 0 g μ m28 := F0.w W30 gA0 rfl
                  refine w_t (np := 6) (l2 := [some (eR a0), some (eI (v25))]) (s2 := [eI (v25)]) rfl rfl rfl ?_
                  refine b_ri rfl rfl ?_
                  show ex_q (dt_fg L ρ) rc (d + 2, (167, 89, [some (eR a0), some (eI (a1)), some (eI (a2)), some (eI (a3)), some (eJ (v20)), none], [eI (v25)]), f :: F, m28)
                  exact b_ri rfl rfl (K m28 (v25) I29 F31 (by omega))
              · have b15 : 1 ≤ a2 ∧ a2 ≤ 2147483647 := by omega
                refine w_t (np := 13) (l2 := [some (eR v3), some (eI (a2))]) (s2 := [eI (1)]) rfl rfl rfl ?_
                refine w_go (t1 := 17) rfl rfl ?_
                refine b_rz rfl rfl (Or.inr rfl) ?_
                show ex_q (dt_fg L ρ) rc (d + 2, (167, 34, [some (eR a0), some (eI (a1)), some (eI (a2)), some (eI (a3)), none, none], [eI (1)]), f :: F, μ)
                refine b_ieq (t1 := 43) (t2 := 37) rfl rfl rfl rfl (fun g15 => absurd g15 (by decide)) (fun g15 => ?_)
                refine w_t (np := 38) (l2 := [some (eR a0), some (eI (a1)), some (eI (a2)), some (eI (a3)), none, none]) (s2 := [eR a0]) rfl (s_an rfl (pos_g hI gA0 (by decide))) rfl ?_
                refine w_t (np := 39) (l2 := [some (eR a0), some (eI (a1)), some (eI (a2)), some (eI (a3)), none, none]) (s2 := [eI (2), eR a0]) rfl rfl rfl ?_
                refine w_cw (np := 42) (as := [eI (2)]) (l2 := [some (eR a0), some (eI (2))]) (rest := []) rfl rfl rfl (Nat.ble_eq.mp rfl) rfl rfl rfl (hI.kd gA0 (by decide) (n := 14) rfl) rfl ?_
                refine w_t (np := 1) (l2 := [some (eR a0), some (eI (2))]) (s2 := [eR a0]) rfl (s_an rfl (pos_g hI gA0 (by decide))) rfl ?_
                refine w_t (np := 2) (l2 := [some (eR a0), some (eI (2))]) (s2 := [eI (2), eR a0]) rfl rfl rfl ?_
                refine j_pf (np := 5) (w := 2) rfl rfl hI gA0 (by decide) (n := 14) rfl rfl (hO_i (lo := -2147483648) (hi := 2147483647) rfl (by decide)) ?_
                intro m16 I17 W18
                have F19 : Fr l_167 0 0 g μ m16 := F0.w W18 gA0 rfl
                refine w_t (np := 6) (l2 := [some (eR a0), some (eI (2))]) (s2 := [eI (-1)]) rfl rfl rfl ?_
                refine b_ri rfl rfl ?_
                show ex_q (dt_fg L ρ) rc (d + 2, (167, 42, [some (eR a0), some (eI (a1)), some (eI (a2)), some (eI (a3)), none, none], [eI (-1)]), f :: F, m16)
                exact b_ri rfl rfl (K m16 (-1) I17 F19 (by decide))
          · refine w_t (np := 13) (l2 := [some (eR v3), some (eI (a1))]) (s2 := [eI (1)]) rfl rfl rfl ?_
            refine w_go (t1 := 17) rfl rfl ?_
            refine b_rz rfl rfl (Or.inr rfl) ?_
            show ex_q (dt_fg L ρ) rc (d + 2, (167, 23, [some (eR a0), some (eI (a1)), some (eI (a2)), some (eI (a3)), none, none], [eI (1)]), f :: F, μ)
            refine b_ine (t1 := 37) (t2 := 26) rfl rfl rfl rfl (fun g12 => ?_) (fun g12 => absurd g12 (by decide))
            refine w_t (np := 38) (l2 := [some (eR a0), some (eI (a1)), some (eI (a2)), some (eI (a3)), none, none]) (s2 := [eR a0]) rfl (s_an rfl (pos_g hI gA0 (by decide))) rfl ?_
            refine w_t (np := 39) (l2 := [some (eR a0), some (eI (a1)), some (eI (a2)), some (eI (a3)), none, none]) (s2 := [eI (2), eR a0]) rfl rfl rfl ?_
            refine w_cw (np := 42) (as := [eI (2)]) (l2 := [some (eR a0), some (eI (2))]) (rest := []) rfl rfl rfl (Nat.ble_eq.mp rfl) rfl rfl rfl (hI.kd gA0 (by decide) (n := 14) rfl) rfl ?_
            refine w_t (np := 1) (l2 := [some (eR a0), some (eI (2))]) (s2 := [eR a0]) rfl (s_an rfl (pos_g hI gA0 (by decide))) rfl ?_
            refine w_t (np := 2) (l2 := [some (eR a0), some (eI (2))]) (s2 := [eI (2), eR a0]) rfl rfl rfl ?_
            refine j_pf (np := 5) (w := 2) rfl rfl hI gA0 (by decide) (n := 14) rfl rfl (hO_i (lo := -2147483648) (hi := 2147483647) rfl (by decide)) ?_
            intro m13 I14 W15
            have F16 : Fr l_167 0 0 g μ m13 := F0.w W15 gA0 rfl
            refine w_t (np := 6) (l2 := [some (eR a0), some (eI (2))]) (s2 := [eI (-1)]) rfl rfl rfl ?_
            refine b_ri rfl rfl ?_
            show ex_q (dt_fg L ρ) rc (d + 2, (167, 42, [some (eR a0), some (eI (a1)), some (eI (a2)), some (eI (a3)), none, none], [eI (-1)]), f :: F, m13)
            exact b_ri rfl rfl (K m13 (-1) I14 F16 (by decide))
      · refine w_t (np := 20) (l2 := [some (eR a0), some (eI (a1)), some (eI (a2)), some (eI (a3)), none, none]) (s2 := [eI (a1), eR v3]) rfl rfl rfl ?_
        refine w_cw (np := 23) (as := [eI (a1)]) (l2 := [some (eR v3), some (eI (a1))]) (rest := []) rfl rfl rfl (Nat.ble_eq.mp rfl) rfl rfl rfl (hI.kd b5 (by decide) (n := 8) rfl) rfl ?_
        refine w_t (np := 1) (l2 := [some (eR v3), some (eI (a1))]) (s2 := [eI (a1)]) rfl rfl rfl ?_
        refine b_ilt (t1 := 12) (t2 := 4) rfl rfl rfl (ev_w_in (by omega) (by omega)) (fun g7 => ?_) (fun g7 => ?_)
        · have b8 : -2147483648 ≤ a1 ∧ a1 ≤ -1 := by omega
          refine w_t (np := 13) (l2 := [some (eR v3), some (eI (a1))]) (s2 := [eI (1)]) rfl rfl rfl ?_
          refine w_go (t1 := 17) rfl rfl ?_
          refine b_rz rfl rfl (Or.inr rfl) ?_
          show ex_q (dt_fg L ρ) rc (d + 2, (167, 23, [some (eR a0), some (eI (a1)), some (eI (a2)), some (eI (a3)), none, none], [eI (1)]), f :: F, μ)
          refine b_ine (t1 := 37) (t2 := 26) rfl rfl rfl rfl (fun g8 => ?_) (fun g8 => absurd g8 (by decide))
          refine w_t (np := 38) (l2 := [some (eR a0), some (eI (a1)), some (eI (a2)), some (eI (a3)), none, none]) (s2 := [eR a0]) rfl (s_an rfl (pos_g hI gA0 (by decide))) rfl ?_
          refine w_t (np := 39) (l2 := [some (eR a0), some (eI (a1)), some (eI (a2)), some (eI (a3)), none, none]) (s2 := [eI (2), eR a0]) rfl rfl rfl ?_
          refine w_cw (np := 42) (as := [eI (2)]) (l2 := [some (eR a0), some (eI (2))]) (rest := []) rfl rfl rfl (Nat.ble_eq.mp rfl) rfl rfl rfl (hI.kd gA0 (by decide) (n := 14) rfl) rfl ?_
          refine w_t (np := 1) (l2 := [some (eR a0), some (eI (2))]) (s2 := [eR a0]) rfl (s_an rfl (pos_g hI gA0 (by decide))) rfl ?_
          refine w_t (np := 2) (l2 := [some (eR a0), some (eI (2))]) (s2 := [eI (2), eR a0]) rfl rfl rfl ?_
          refine j_pf (np := 5) (w := 2) rfl rfl hI gA0 (by decide) (n := 14) rfl rfl (hO_i (lo := -2147483648) (hi := 2147483647) rfl (by decide)) ?_
          intro m9 I10 W11
          have F12 : Fr l_167 0 0 g μ m9 := F0.w W11 gA0 rfl
          refine w_t (np := 6) (l2 := [some (eR a0), some (eI (2))]) (s2 := [eI (-1)]) rfl rfl rfl ?_
          refine b_ri rfl rfl ?_
          show ex_q (dt_fg L ρ) rc (d + 2, (167, 42, [some (eR a0), some (eI (a1)), some (eI (a2)), some (eI (a3)), none, none], [eI (-1)]), f :: F, m9)
          exact b_ri rfl rfl (K m9 (-1) I10 F12 (by decide))
        · have b8 : 0 ≤ a1 ∧ a1 ≤ 2147483647 := by omega
          refine w_t (np := 5) (l2 := [some (eR v3), some (eI (a1))]) (s2 := [eI (a1)]) rfl rfl rfl ?_
          refine w_t (np := 6) (l2 := [some (eR v3), some (eI (a1))]) (s2 := [eR v3, eI (a1)]) rfl (s_an rfl (pos_g hI b5 (by decide))) rfl ?_
          refine j_gi (np := 9) rfl rfl rfl hI b5 (by decide) (n := 8) rfl rfl (lo := 0) (hi := 890) rfl ?_
          intro v8 e9 b10
          refine b_clt (t1 := 16) (t2 := 12) rfl rfl rfl (ev_w_in (by omega) (by omega)) (ev_w_in (by omega) (by omega)) (fun g11 => ?_) (fun g11 => ?_)
          · have b12 : 0 ≤ a1 ∧ a1 ≤ 889 := by omega
            have b13 : 1 ≤ v8 ∧ v8 ≤ 890 := by omega
            refine w_t (np := 17) (l2 := [some (eR v3), some (eI (a1))]) (s2 := [eI (0)]) rfl rfl rfl ?_
            refine b_rz rfl rfl (Or.inl rfl) ?_
            show ex_q (dt_fg L ρ) rc (d + 2, (167, 23, [some (eR a0), some (eI (a1)), some (eI (a2)), some (eI (a3)), none, none], [eI (0)]), f :: F, μ)
            refine b_ine (t1 := 37) (t2 := 26) rfl rfl rfl rfl (fun g12 => absurd g12 (by decide)) (fun g12 => ?_)
            refine w_t (np := 27) (l2 := [some (eR a0), some (eI (a1)), some (eI (a2)), some (eI (a3)), none, none]) (s2 := [eR a0]) rfl (s_an rfl (pos_g hI gA0 (by decide))) rfl ?_
            refine w_gf (np := 30) (v := eR v3) rfl rfl (hI.kd gA0 (by decide) (n := 14) rfl) (by rw [e4]; rfl) ?_
            refine w_t (np := 31) (l2 := [some (eR a0), some (eI (a1)), some (eI (a2)), some (eI (a3)), none, none]) (s2 := [eI (a2), eR v3]) rfl rfl rfl ?_
            refine w_cw (np := 34) (as := [eI (a2)]) (l2 := [some (eR v3), some (eI (a2))]) (rest := []) rfl rfl rfl (Nat.ble_eq.mp rfl) rfl rfl rfl (hI.kd b5 (by decide) (n := 8) rfl) rfl ?_
            refine w_t (np := 1) (l2 := [some (eR v3), some (eI (a2))]) (s2 := [eI (a2)]) rfl rfl rfl ?_
            refine b_ilt (t1 := 12) (t2 := 4) rfl rfl rfl (ev_w_in (by omega) (by omega)) (fun g13 => ?_) (fun g13 => ?_)
            · have b14 : -2147483648 ≤ a2 ∧ a2 ≤ -1 := by omega
              refine w_t (np := 13) (l2 := [some (eR v3), some (eI (a2))]) (s2 := [eI (1)]) rfl rfl rfl ?_
              refine w_go (t1 := 17) rfl rfl ?_
              refine b_rz rfl rfl (Or.inr rfl) ?_
              show ex_q (dt_fg L ρ) rc (d + 2, (167, 34, [some (eR a0), some (eI (a1)), some (eI (a2)), some (eI (a3)), none, none], [eI (1)]), f :: F, μ)
              refine b_ieq (t1 := 43) (t2 := 37) rfl rfl rfl rfl (fun g14 => absurd g14 (by decide)) (fun g14 => ?_)
              refine w_t (np := 38) (l2 := [some (eR a0), some (eI (a1)), some (eI (a2)), some (eI (a3)), none, none]) (s2 := [eR a0]) rfl (s_an rfl (pos_g hI gA0 (by decide))) rfl ?_
              refine w_t (np := 39) (l2 := [some (eR a0), some (eI (a1)), some (eI (a2)), some (eI (a3)), none, none]) (s2 := [eI (2), eR a0]) rfl rfl rfl ?_
              refine w_cw (np := 42) (as := [eI (2)]) (l2 := [some (eR a0), some (eI (2))]) (rest := []) rfl rfl rfl (Nat.ble_eq.mp rfl) rfl rfl rfl (hI.kd gA0 (by decide) (n := 14) rfl) rfl ?_
              refine w_t (np := 1) (l2 := [some (eR a0), some (eI (2))]) (s2 := [eR a0]) rfl (s_an rfl (pos_g hI gA0 (by decide))) rfl ?_
              refine w_t (np := 2) (l2 := [some (eR a0), some (eI (2))]) (s2 := [eI (2), eR a0]) rfl rfl rfl ?_
              refine j_pf (np := 5) (w := 2) rfl rfl hI gA0 (by decide) (n := 14) rfl rfl (hO_i (lo := -2147483648) (hi := 2147483647) rfl (by decide)) ?_
              intro m15 I16 W17
              have F18 : Fr l_167 0 0 g μ m15 := F0.w W17 gA0 rfl
              refine w_t (np := 6) (l2 := [some (eR a0), some (eI (2))]) (s2 := [eI (-1)]) rfl rfl rfl ?_
              refine b_ri rfl rfl ?_
              show ex_q (dt_fg L ρ) rc (d + 2, (167, 42, [some (eR a0), some (eI (a1)), some (eI (a2)), some (eI (a3)), none, none], [eI (-1)]), f :: F, m15)
              exact b_ri rfl rfl (K m15 (-1) I16 F18 (by decide))
            · have b14 : 0 ≤ a2 ∧ a2 ≤ 2147483647 := by omega
              refine w_t (np := 5) (l2 := [some (eR v3), some (eI (a2))]) (s2 := [eI (a2)]) rfl rfl rfl ?_
              refine w_t (np := 6) (l2 := [some (eR v3), some (eI (a2))]) (s2 := [eR v3, eI (a2)]) rfl (s_an rfl (pos_g hI b5 (by decide))) rfl ?_
              refine w_gf (np := 9) (v := eI (v8)) rfl rfl (hI.kd b5 (by decide) (n := 8) rfl) (by rw [e9]; rfl) ?_
              refine b_clt (t1 := 16) (t2 := 12) rfl rfl rfl (ev_w_in (by omega) (by omega)) (ev_w_in (by omega) (by omega)) (fun g14 => ?_) (fun g14 => ?_)
              · have b15 : 0 ≤ a2 ∧ a2 ≤ 889 := by omega
                refine w_t (np := 17) (l2 := [some (eR v3), some (eI (a2))]) (s2 := [eI (0)]) rfl rfl rfl ?_
                refine b_rz rfl rfl (Or.inl rfl) ?_
                show ex_q (dt_fg L ρ) rc (d + 2, (167, 34, [some (eR a0), some (eI (a1)), some (eI (a2)), some (eI (a3)), none, none], [eI (0)]), f :: F, μ)
                refine b_ieq (t1 := 43) (t2 := 37) rfl rfl rfl rfl (fun g15 => ?_) (fun g15 => absurd g15 (by decide))
                refine w_t (np := 44) (l2 := [some (eR a0), some (eI (a1)), some (eI (a2)), some (eI (a3)), none, none]) (s2 := [eR a0]) rfl (s_an rfl (pos_g hI gA0 (by decide))) rfl ?_
                refine w_gf (np := 47) (v := eR v3) rfl rfl (hI.kd gA0 (by decide) (n := 14) rfl) (by rw [e4]; rfl) ?_
                refine w_t (np := 48) (l2 := [some (eR a0), some (eI (a1)), some (eI (a2)), some (eI (a3)), none, none]) (s2 := [eI (a1), eR v3]) rfl rfl rfl ?_
                refine w_t (np := 49) (l2 := [some (eR a0), some (eI (a1)), some (eI (a2)), some (eI (a3)), none, none]) (s2 := [eI (0), eI (a1), eR v3]) rfl rfl rfl ?_
                refine w_cw (np := 52) (as := [eI (a1), eI (0)]) (l2 := [some (eR v3), some (eI (a1)), some (eI (0))]) (rest := []) rfl rfl rfl (Nat.ble_eq.mp rfl) rfl rfl rfl (hI.kd b5 (by decide) (n := 8) rfl) rfl ?_
                refine s_22_2 (a1 := a1) (a2 := 0) hI b5 (by omega) (by decide) ?_
                intro v16 b17
                show ex_q (dt_fg L ρ) rc (d + 2, (167, 52, [some (eR a0), some (eI (a1)), some (eI (a2)), some (eI (a3)), none, none], [eJ (v16)]), f :: F, μ)
                refine w_t (np := 53) (l2 := [some (eR a0), some (eI (a1)), some (eI (a2)), some (eI (a3)), none, none]) (s2 := [eR a0, eJ (v16)]) rfl (s_an rfl (pos_g hI gA0 (by decide))) rfl ?_
                refine w_gf (np := 56) (v := eR v3) rfl rfl (hI.kd gA0 (by decide) (n := 14) rfl) (by rw [e4]; rfl) ?_
                refine w_t (np := 57) (l2 := [some (eR a0), some (eI (a1)), some (eI (a2)), some (eI (a3)), none, none]) (s2 := [eI (a2), eR v3, eJ (v16)]) rfl rfl rfl ?_
                refine w_t (np := 58) (l2 := [some (eR a0), some (eI (a1)), some (eI (a2)), some (eI (a3)), none, none]) (s2 := [eI (0), eI (a2), eR v3, eJ (v16)]) rfl rfl rfl ?_
                refine w_cw (np := 61) (as := [eI (a2), eI (0)]) (l2 := [some (eR v3), some (eI (a2)), some (eI (0))]) (rest := [eJ (v16)]) rfl rfl rfl (Nat.ble_eq.mp rfl) rfl rfl rfl (hI.kd b5 (by decide) (n := 8) rfl) rfl ?_
                refine s_22_2 (a1 := a2) (a2 := 0) hI b5 (by omega) (by decide) ?_
                intro v18 b19
                show ex_q (dt_fg L ρ) rc (d + 2, (167, 61, [some (eR a0), some (eI (a1)), some (eI (a2)), some (eI (a3)), none, none], [eJ (v18), eJ (v16)]), f :: F, μ)
                refine w_cu (np := 64) (as := [eJ (v16), eJ (v18)]) (l2 := [some (eJ (v16)), none, some (eJ (v18)), none]) (rest := []) rfl rfl rfl (Nat.ble_eq.mp rfl) rfl rfl rfl rfl ?_
                refine s_76 hI b17 b19 ?_
                intro v20 b21
                show ex_q (dt_fg L ρ) rc (d + 2, (167, 64, [some (eR a0), some (eI (a1)), some (eI (a2)), some (eI (a3)), none, none], [eJ (v20)]), f :: F, μ)
                refine w_t (np := 66) (l2 := [some (eR a0), some (eI (a1)), some (eI (a2)), some (eI (a3)), some (eJ (v20)), none]) (s2 := []) rfl rfl rfl ?_
                refine w_t (np := 67) (l2 := [some (eR a0), some (eI (a1)), some (eI (a2)), some (eI (a3)), some (eJ (v20)), none]) (s2 := [eR a0]) rfl (s_an rfl (pos_g hI gA0 (by decide))) rfl ?_
                refine w_t (np := 68) (l2 := [some (eR a0), some (eI (a1)), some (eI (a2)), some (eI (a3)), some (eJ (v20)), none]) (s2 := [eI (2), eR a0]) rfl rfl rfl ?_
                refine w_t (np := 69) (l2 := [some (eR a0), some (eI (a1)), some (eI (a2)), some (eI (a3)), some (eJ (v20)), none]) (s2 := [eI (a3), eI (2), eR a0]) rfl rfl rfl ?_
                refine b_ine (t1 := 80) (t2 := 72) rfl rfl rfl (ev_w_in (by omega) (by omega)) (fun g22 => ?_) (fun g22 => ?_)
                · have b23 : 1 ≤ a3 ∧ a3 ≤ 1 := by omega
                  refine w_t (np := 82) (l2 := [some (eR a0), some (eI (a1)), some (eI (a2)), some (eI (a3)), some (eJ (v20)), none]) (s2 := [eJ (v20), eI (2), eR a0]) rfl rfl rfl ?_
                  refine w_cu (np := 85) (as := [eJ (v20)]) (l2 := [some (eJ (v20)), none, none, none, none, none]) (rest := [eI (2), eR a0]) rfl rfl rfl (Nat.ble_eq.mp rfl) rfl rfl rfl rfl ?_
                  refine s_87 hI b21 ?_
                  intro v23 b24
                  show ex_q (dt_fg L ρ) rc (d + 2, (167, 85, [some (eR a0), some (eI (a1)), some (eI (a2)), some (eI (a3)), some (eJ (v20)), none], [eI (v23), eI (2), eR a0]), f :: F, μ)
                  obtain ⟨v25, e26, b27⟩ : ∃ zz : Int, ev_w ((2) * (v23)) = zz ∧ (-2147483648 ≤ zz ∧ zz ≤ 2147483647) := ⟨_, rfl, hw_bd _⟩
                  refine w_t (np := 86) (l2 := [some (eR a0), some (eI (a1)), some (eI (a2)), some (eI (a3)), some (eJ (v20)), none]) (s2 := [eI (v25), eR a0]) rfl (b_imul e26) rfl ?_
                  refine w_cw (np := 89) (as := [eI (v25)]) (l2 := [some (eR a0), some (eI (v25))]) (rest := []) rfl rfl rfl (Nat.ble_eq.mp rfl) rfl rfl rfl (hI.kd gA0 (by decide) (n := 14) rfl) rfl ?_
                  refine w_t (np := 1) (l2 := [some (eR a0), some (eI (v25))]) (s2 := [eR a0]) rfl (s_an rfl (pos_g hI gA0 (by decide))) rfl ?_
                  refine w_t (np := 2) (l2 := [some (eR a0), some (eI (v25))]) (s2 := [eI (0), eR a0]) rfl rfl rfl ?_
                  refine j_pf (np := 5) (w := 0) rfl rfl hI gA0 (by decide) (n := 14) rfl rfl (hO_i (lo := -2147483648) (hi := 2147483647) rfl (by decide)) ?_
                  intro m28 I29 W30
                  have F31 : Fr l_167 0 0 g μ m28 := F0.w W30 gA0 rfl
                  refine w_t (np := 6) (l2 := [some (eR a0), some (eI (v25))]) (s2 := [eI (v25)]) rfl rfl rfl ?_
                  refine b_ri rfl rfl ?_
                  show ex_q (dt_fg L ρ) rc (d + 2, (167, 89, [some (eR a0), some (eI (a1)), some (eI (a2)), some (eI (a3)), some (eJ (v20)), none], [eI (v25)]), f :: F, m28)
                  exact b_ri rfl rfl (K m28 (v25) I29 F31 (by omega))
                · have b23 : 0 ≤ a3 ∧ a3 ≤ 0 := by omega
                  refine w_t (np := 74) (l2 := [some (eR a0), some (eI (a1)), some (eI (a2)), some (eI (a3)), some (eJ (v20)), none]) (s2 := [eJ (v20), eI (2), eR a0]) rfl rfl rfl ?_
                  refine w_cu (np := 77) (as := [eJ (v20)]) (l2 := [some (eJ (v20)), none, none, none, none, none]) (rest := [eI (2), eR a0]) rfl rfl rfl (Nat.ble_eq.mp rfl) rfl rfl rfl rfl ?_
                  refine s_86 hI b21 ?_
                  intro v23 b24
                  show ex_q (dt_fg L ρ) rc (d + 2, (167, 77, [some (eR a0), some (eI (a1)), some (eI (a2)), some (eI (a3)), some (eJ (v20)), none], [eI (v23), eI (2), eR a0]), f :: F, μ)
                  refine w_go (t1 := 85) rfl rfl ?_
                  obtain ⟨v25, e26, b27⟩ : ∃ zz : Int, ev_w ((2) * (v23)) = zz ∧ (-2147483648 ≤ zz ∧ zz ≤ 2147483647) := ⟨_, rfl, hw_bd _⟩
                  refine w_t (np := 86) (l2 := [some (eR a0), some (eI (a1)), some (eI (a2)), some (eI (a3)), some (eJ (v20)), none]) (s2 := [eI (v25), eR a0]) rfl (b_imul e26) rfl ?_
                  refine w_cw (np := 89) (as := [eI (v25)]) (l2 := [some (eR a0), some (eI (v25))]) (rest := []) rfl rfl rfl (Nat.ble_eq.mp rfl) rfl rfl rfl (hI.kd gA0 (by decide) (n := 14) rfl) rfl ?_
                  refine w_t (np := 1) (l2 := [some (eR a0), some (eI (v25))]) (s2 := [eR a0]) rfl (s_an rfl (pos_g hI gA0 (by decide))) rfl ?_
                  refine w_t (np := 2) (l2 := [some (eR a0), some (eI (v25))]) (s2 := [eI (0), eR a0]) rfl rfl rfl ?_
                  refine j_pf (np := 5) (w := 0) rfl rfl hI gA0 (by decide) (n := 14) rfl rfl (hO_i (lo := -2147483648) (hi := 2147483647) rfl (by decide)) ?_
                  intro m28 I29 W30
                  have F31 : Fr l_167 0 0 g μ m28 := F0.w W30 gA0 rfl
                  refine w_t (np := 6) (l2 := [some (eR a0), some (eI (v25))]) (s2 := [eI (v25)]) rfl rfl rfl ?_
                  refine b_ri rfl rfl ?_
                  show ex_q (dt_fg L ρ) rc (d + 2, (167, 89, [some (eR a0), some (eI (a1)), some (eI (a2)), some (eI (a3)), some (eJ (v20)), none], [eI (v25)]), f :: F, m28)
                  exact b_ri rfl rfl (K m28 (v25) I29 F31 (by omega))
              · have b15 : 1 ≤ a2 ∧ a2 ≤ 2147483647 := by omega
                refine w_t (np := 13) (l2 := [some (eR v3), some (eI (a2))]) (s2 := [eI (1)]) rfl rfl rfl ?_
                refine w_go (t1 := 17) rfl rfl ?_
                refine b_rz rfl rfl (Or.inr rfl) ?_
                show ex_q (dt_fg L ρ) rc (d + 2, (167, 34, [some (eR a0), some (eI (a1)), some (eI (a2)), some (eI (a3)), none, none], [eI (1)]), f :: F, μ)
                refine b_ieq (t1 := 43) (t2 := 37) rfl rfl rfl rfl (fun g15 => absurd g15 (by decide)) (fun g15 => ?_)
                refine w_t (np := 38) (l2 := [some (eR a0), some (eI (a1)), some (eI (a2)), some (eI (a3)), none, none]) (s2 := [eR a0]) rfl (s_an rfl (pos_g hI gA0 (by decide))) rfl ?_
                refine w_t (np := 39) (l2 := [some (eR a0), some (eI (a1)), some (eI (a2)), some (eI (a3)), none, none]) (s2 := [eI (2), eR a0]) rfl rfl rfl ?_
                refine w_cw (np := 42) (as := [eI (2)]) (l2 := [some (eR a0), some (eI (2))]) (rest := []) rfl rfl rfl (Nat.ble_eq.mp rfl) rfl rfl rfl (hI.kd gA0 (by decide) (n := 14) rfl) rfl ?_
                refine w_t (np := 1) (l2 := [some (eR a0), some (eI (2))]) (s2 := [eR a0]) rfl (s_an rfl (pos_g hI gA0 (by decide))) rfl ?_
                refine w_t (np := 2) (l2 := [some (eR a0), some (eI (2))]) (s2 := [eI (2), eR a0]) rfl rfl rfl ?_
                refine j_pf (np := 5) (w := 2) rfl rfl hI gA0 (by decide) (n := 14) rfl rfl (hO_i (lo := -2147483648) (hi := 2147483647) rfl (by decide)) ?_
                intro m16 I17 W18
                have F19 : Fr l_167 0 0 g μ m16 := F0.w W18 gA0 rfl
                refine w_t (np := 6) (l2 := [some (eR a0), some (eI (2))]) (s2 := [eI (-1)]) rfl rfl rfl ?_
                refine b_ri rfl rfl ?_
                show ex_q (dt_fg L ρ) rc (d + 2, (167, 42, [some (eR a0), some (eI (a1)), some (eI (a2)), some (eI (a3)), none, none], [eI (-1)]), f :: F, m16)
                exact b_ri rfl rfl (K m16 (-1) I17 F19 (by decide))
          · refine w_t (np := 13) (l2 := [some (eR v3), some (eI (a1))]) (s2 := [eI (1)]) rfl rfl rfl ?_
            refine w_go (t1 := 17) rfl rfl ?_
            refine b_rz rfl rfl (Or.inr rfl) ?_
            show ex_q (dt_fg L ρ) rc (d + 2, (167, 23, [some (eR a0), some (eI (a1)), some (eI (a2)), some (eI (a3)), none, none], [eI (1)]), f :: F, μ)
            refine b_ine (t1 := 37) (t2 := 26) rfl rfl rfl rfl (fun g12 => ?_) (fun g12 => absurd g12 (by decide))
            refine w_t (np := 38) (l2 := [some (eR a0), some (eI (a1)), some (eI (a2)), some (eI (a3)), none, none]) (s2 := [eR a0]) rfl (s_an rfl (pos_g hI gA0 (by decide))) rfl ?_
            refine w_t (np := 39) (l2 := [some (eR a0), some (eI (a1)), some (eI (a2)), some (eI (a3)), none, none]) (s2 := [eI (2), eR a0]) rfl rfl rfl ?_
            refine w_cw (np := 42) (as := [eI (2)]) (l2 := [some (eR a0), some (eI (2))]) (rest := []) rfl rfl rfl (Nat.ble_eq.mp rfl) rfl rfl rfl (hI.kd gA0 (by decide) (n := 14) rfl) rfl ?_
            refine w_t (np := 1) (l2 := [some (eR a0), some (eI (2))]) (s2 := [eR a0]) rfl (s_an rfl (pos_g hI gA0 (by decide))) rfl ?_
            refine w_t (np := 2) (l2 := [some (eR a0), some (eI (2))]) (s2 := [eI (2), eR a0]) rfl rfl rfl ?_
            refine j_pf (np := 5) (w := 2) rfl rfl hI gA0 (by decide) (n := 14) rfl rfl (hO_i (lo := -2147483648) (hi := 2147483647) rfl (by decide)) ?_
            intro m13 I14 W15
            have F16 : Fr l_167 0 0 g μ m13 := F0.w W15 gA0 rfl
            refine w_t (np := 6) (l2 := [some (eR a0), some (eI (2))]) (s2 := [eI (-1)]) rfl rfl rfl ?_
            refine b_ri rfl rfl ?_
            show ex_q (dt_fg L ρ) rc (d + 2, (167, 42, [some (eR a0), some (eI (a1)), some (eI (a2)), some (eI (a3)), none, none], [eI (-1)]), f :: F, m13)
            exact b_ri rfl rfl (K m13 (-1) I14 F16 (by decide))
    · have b3 : 2 ≤ a3 ∧ a3 ≤ 2147483647 := by omega
      refine w_t (np := 10) (l2 := [some (eR a0), some (eI (a1)), some (eI (a2)), some (eI (a3)), none, none]) (s2 := [eR a0]) rfl (s_an rfl (pos_g hI gA0 (by decide))) rfl ?_
      refine w_t (np := 11) (l2 := [some (eR a0), some (eI (a1)), some (eI (a2)), some (eI (a3)), none, none]) (s2 := [eI (1), eR a0]) rfl rfl rfl ?_
      refine w_cw (np := 14) (as := [eI (1)]) (l2 := [some (eR a0), some (eI (1))]) (rest := []) rfl rfl rfl (Nat.ble_eq.mp rfl) rfl rfl rfl (hI.kd gA0 (by decide) (n := 14) rfl) rfl ?_
      refine w_t (np := 1) (l2 := [some (eR a0), some (eI (1))]) (s2 := [eR a0]) rfl (s_an rfl (pos_g hI gA0 (by decide))) rfl ?_
      refine w_t (np := 2) (l2 := [some (eR a0), some (eI (1))]) (s2 := [eI (1), eR a0]) rfl rfl rfl ?_
      refine j_pf (np := 5) (w := 1) rfl rfl hI gA0 (by decide) (n := 14) rfl rfl (hO_i (lo := -2147483648) (hi := 2147483647) rfl (by decide)) ?_
      intro m3 I4 W5
      have F6 : Fr l_167 0 0 g μ m3 := F0.w W5 gA0 rfl
      refine w_t (np := 6) (l2 := [some (eR a0), some (eI (1))]) (s2 := [eI (-1)]) rfl rfl rfl ?_
      refine b_ri rfl rfl ?_
      show ex_q (dt_fg L ρ) rc (d + 2, (167, 14, [some (eR a0), some (eI (a1)), some (eI (a2)), some (eI (a3)), none, none], [eI (-1)]), f :: F, m3)
      exact b_ri rfl rfl (K m3 (-1) I4 F6 (by decide))
def l_170 : List Nat := [270, 4612, 4864]
theorem s_170 {L : Nat} {ρ : Nat → Int} {rc : eQ} {d : Nat} {f : eFr} {F : List eFr} {μ : eM} {g : Nat → Nat} {a0 : Nat} {a1 : Int} (hI : SI g μ) (gA0 : g a0 = 1) (bA1 : -2147483648 ≤ a1 ∧ a1 ≤ 2147483647) (K : ∀ (μ2 : eM) (v : Int), SI g μ2 → Fr l_170 0 0 g μ μ2 → (-2147483648 ≤ v ∧ v ≤ 2147483647) → ex_q (dt_fg L ρ) rc (d + 3, (f.1, f.2.1, f.2.2.1, eI v :: f.2.2.2), F, μ2)) : ex_q (dt_fg L ρ) rc (d + 2, (170, 0, [some (eR a0), some (eI (a1))], []), f :: F, μ) := by
  have F0 : Fr l_170 0 0 g μ μ := Fr.r
  refine w_t (np := 1) (l2 := [some (eR a0), some (eI (a1))]) (s2 := [eR a0]) rfl (s_an rfl (pos_g hI gA0 (by decide))) rfl ?_
  refine j_gr (np := 4) rfl rfl hI gA0 (by decide) (n := 14) rfl rfl rfl ?_
  intro v1 e2 b3 z4
  rcases hor2 b3 with b3 | b3
  · refine w_t (np := 5) (l2 := [some (eR a0), some (eI (a1))]) (s2 := [eI (a1), eR v1]) rfl rfl rfl ?_
    refine w_cw (np := 8) (as := [eI (a1)]) (l2 := [some (eR v1), some (eI (a1))]) (rest := []) rfl rfl rfl (Nat.ble_eq.mp rfl) rfl rfl rfl (hI.kd b3 (by decide) (n := 8) rfl) rfl ?_
    refine w_t (np := 1) (l2 := [some (eR v1), some (eI (a1))]) (s2 := [eI (a1)]) rfl rfl rfl ?_
    refine b_ilt (t1 := 12) (t2 := 4) rfl rfl rfl (ev_w_in (by omega) (by omega)) (fun g5 => ?_) (fun g5 => ?_)
    · have b6 : -2147483648 ≤ a1 ∧ a1 ≤ -1 := by omega
      refine w_t (np := 13) (l2 := [some (eR v1), some (eI (a1))]) (s2 := [eI (1)]) rfl rfl rfl ?_
      refine w_go (t1 := 17) rfl rfl ?_
      refine b_rz rfl rfl (Or.inr rfl) ?_
      show ex_q (dt_fg L ρ) rc (d + 2, (170, 8, [some (eR a0), some (eI (a1))], [eI (1)]), f :: F, μ)
      refine b_ieq (t1 := 17) (t2 := 11) rfl rfl rfl rfl (fun g6 => absurd g6 (by decide)) (fun g6 => ?_)
      refine w_t (np := 12) (l2 := [some (eR a0), some (eI (a1))]) (s2 := [eR a0]) rfl (s_an rfl (pos_g hI gA0 (by decide))) rfl ?_
      refine w_t (np := 13) (l2 := [some (eR a0), some (eI (a1))]) (s2 := [eI (2), eR a0]) rfl rfl rfl ?_
      refine w_cw (np := 16) (as := [eI (2)]) (l2 := [some (eR a0), some (eI (2))]) (rest := []) rfl rfl rfl (Nat.ble_eq.mp rfl) rfl rfl rfl (hI.kd gA0 (by decide) (n := 14) rfl) rfl ?_
      refine w_t (np := 1) (l2 := [some (eR a0), some (eI (2))]) (s2 := [eR a0]) rfl (s_an rfl (pos_g hI gA0 (by decide))) rfl ?_
      refine w_t (np := 2) (l2 := [some (eR a0), some (eI (2))]) (s2 := [eI (2), eR a0]) rfl rfl rfl ?_
      refine j_pf (np := 5) (w := 2) rfl rfl hI gA0 (by decide) (n := 14) rfl rfl (hO_i (lo := -2147483648) (hi := 2147483647) rfl (by decide)) ?_
      intro m7 I8 W9
      have F10 : Fr l_170 0 0 g μ m7 := F0.w W9 gA0 rfl
      refine w_t (np := 6) (l2 := [some (eR a0), some (eI (2))]) (s2 := [eI (-1)]) rfl rfl rfl ?_
      refine b_ri rfl rfl ?_
      show ex_q (dt_fg L ρ) rc (d + 2, (170, 16, [some (eR a0), some (eI (a1))], [eI (-1)]), f :: F, m7)
      exact b_ri rfl rfl (K m7 (-1) I8 F10 (by decide))
    · have b6 : 0 ≤ a1 ∧ a1 ≤ 2147483647 := by omega
      refine w_t (np := 5) (l2 := [some (eR v1), some (eI (a1))]) (s2 := [eI (a1)]) rfl rfl rfl ?_
      refine w_t (np := 6) (l2 := [some (eR v1), some (eI (a1))]) (s2 := [eR v1, eI (a1)]) rfl (s_an rfl (pos_g hI b3 (by decide))) rfl ?_
      refine j_gi (np := 9) rfl rfl rfl hI b3 (by decide) (n := 8) rfl rfl (lo := 0) (hi := 50) rfl ?_
      intro v6 e7 b8
      refine b_clt (t1 := 16) (t2 := 12) rfl rfl rfl (ev_w_in (by omega) (by omega)) (ev_w_in (by omega) (by omega)) (fun g9 => ?_) (fun g9 => ?_)
      · have b10 : 0 ≤ a1 ∧ a1 ≤ 49 := by omega
        have b11 : 1 ≤ v6 ∧ v6 ≤ 50 := by omega
        refine w_t (np := 17) (l2 := [some (eR v1), some (eI (a1))]) (s2 := [eI (0)]) rfl rfl rfl ?_
        refine b_rz rfl rfl (Or.inl rfl) ?_
        show ex_q (dt_fg L ρ) rc (d + 2, (170, 8, [some (eR a0), some (eI (a1))], [eI (0)]), f :: F, μ)
        refine b_ieq (t1 := 17) (t2 := 11) rfl rfl rfl rfl (fun g10 => ?_) (fun g10 => absurd g10 (by decide))
        refine w_t (np := 18) (l2 := [some (eR a0), some (eI (a1))]) (s2 := [eR a0]) rfl (s_an rfl (pos_g hI gA0 (by decide))) rfl ?_
        refine j_gr (np := 21) rfl rfl hI gA0 (by decide) (n := 14) rfl rfl rfl ?_
        intro v11 e12 b13 z14
        have b13 : g v11 = 18 := Nat.eq_of_beq_eq_true b13
        refine j_gi (np := 24) rfl rfl rfl hI b13 (by decide) (n := 4) rfl rfl (lo := 0) (hi := 12) rfl ?_
        intro v15 e16 b17
        refine w_t (np := 26) (l2 := [some (eR a0), some (eI (a1))]) (s2 := [eI (12), eI (v15)]) rfl rfl rfl ?_
        refine b_clt (t1 := 35) (t2 := 29) rfl rfl rfl (ev_w_in (by omega) (by omega)) rfl (fun g18 => ?_) (fun g18 => ?_)
        · have b19 : 0 ≤ v15 ∧ v15 ≤ 11 := by omega
          refine w_t (np := 36) (l2 := [some (eR a0), some (eI (a1))]) (s2 := [eR a0]) rfl (s_an rfl (pos_g hI gA0 (by decide))) rfl ?_
          refine w_gf (np := 39) (v := eR v11) rfl rfl (hI.kd gA0 (by decide) (n := 14) rfl) (by rw [e12]; rfl) ?_
          refine j_gi (np := 42) rfl rfl rfl hI b13 (by decide) (n := 4) rfl rfl (lo := 0) (hi := 1) rfl ?_
          intro v19 e20 b21
          refine b_ine (t1 := 51) (t2 := 45) rfl rfl rfl (ev_w_in (by omega) (by omega)) (fun g22 => ?_) (fun g22 => ?_)
          · have b23 : 1 ≤ v19 ∧ v19 ≤ 1 := by omega
            refine w_t (np := 52) (l2 := [some (eR a0), some (eI (a1))]) (s2 := [eR a0]) rfl (s_an rfl (pos_g hI gA0 (by decide))) rfl ?_
            refine w_gf (np := 55) (v := eR v11) rfl rfl (hI.kd gA0 (by decide) (n := 14) rfl) (by rw [e12]; rfl) ?_
            refine j_gi (np := 58) rfl rfl rfl hI b13 (by decide) (n := 4) rfl rfl (lo := -2147483648) (hi := 2147483647) rfl ?_
            intro v23 e24 b25
            refine w_t (np := 59) (l2 := [some (eR a0), some (eI (a1))]) (s2 := [eR a0, eI (v23)]) rfl (s_an rfl (pos_g hI gA0 (by decide))) rfl ?_
            refine w_gf (np := 62) (v := eR v1) rfl rfl (hI.kd gA0 (by decide) (n := 14) rfl) (by rw [e2]; rfl) ?_
            refine w_t (np := 63) (l2 := [some (eR a0), some (eI (a1))]) (s2 := [eI (a1), eR v1, eI (v23)]) rfl rfl rfl ?_
            refine w_cw (np := 66) (as := [eI (a1)]) (l2 := [some (eR v1), some (eI (a1))]) (rest := [eI (v23)]) rfl rfl rfl (Nat.ble_eq.mp rfl) rfl rfl rfl (hI.kd b3 (by decide) (n := 8) rfl) rfl ?_
            refine s_19 (a1 := a1) hI b3 (by omega) ?_
            intro v26 b27
            show ex_q (dt_fg L ρ) rc (d + 2, (170, 66, [some (eR a0), some (eI (a1))], [eI (v26), eI (v23)]), f :: F, μ)
            refine b_ceq (t1 := 76) (t2 := 69) rfl rfl rfl (ev_w_in (by omega) (by omega)) (ev_w_in (by omega) (by omega)) (fun g28 => ?_) (fun g28 => ?_)
            · have b29 : 0 ≤ v23 ∧ v23 ≤ 1 := by omega
              refine w_t (np := 77) (l2 := [some (eR a0), some (eI (a1))]) (s2 := [eR a0]) rfl (s_an rfl (pos_g hI gA0 (by decide))) rfl ?_
              refine w_gf (np := 80) (v := eR v11) rfl rfl (hI.kd gA0 (by decide) (n := 14) rfl) (by rw [e12]; rfl) ?_
              refine w_t (np := 81) (l2 := [some (eR a0), some (eI (a1))]) (s2 := [eR a0, eR v11]) rfl (s_an rfl (pos_g hI gA0 (by decide))) rfl ?_
              refine w_gf (np := 84) (v := eR v1) rfl rfl (hI.kd gA0 (by decide) (n := 14) rfl) (by rw [e2]; rfl) ?_
              refine w_t (np := 85) (l2 := [some (eR a0), some (eI (a1))]) (s2 := [eI (a1), eR v1, eR v11]) rfl rfl rfl ?_
              refine w_t (np := 86) (l2 := [some (eR a0), some (eI (a1))]) (s2 := [eI (0), eI (a1), eR v1, eR v11]) rfl rfl rfl ?_
              refine w_cw (np := 89) (as := [eI (a1), eI (0)]) (l2 := [some (eR v1), some (eI (a1)), some (eI (0))]) (rest := [eR v11]) rfl rfl rfl (Nat.ble_eq.mp rfl) rfl rfl rfl (hI.kd b3 (by decide) (n := 8) rfl) rfl ?_
              refine s_22 (a1 := a1) (a2 := 0) hI b3 (by omega) (by decide) ?_
              intro v29 b30
              show ex_q (dt_fg L ρ) rc (d + 2, (170, 89, [some (eR a0), some (eI (a1))], [eJ (v29), eR v11]), f :: F, μ)
              refine w_cw (np := 92) (as := [eJ (v29)]) (l2 := [some (eR v11), some (eJ (v29)), none]) (rest := []) rfl rfl rfl (Nat.ble_eq.mp rfl) rfl rfl rfl (hI.kd b13 (by decide) (n := 4) rfl) rfl ?_
              refine s_103 hI b13 b30 ?_
              intro m31 I32 F33
              have F34 : Fr l_170 0 0 g μ m31 := F0.t F33 rfl
              show ex_q (dt_fg L ρ) rc (d + 2, (170, 92, [some (eR a0), some (eI (a1))], []), f :: F, m31)
              refine w_t (np := 93) (l2 := [some (eR a0), some (eI (a1))]) (s2 := [eR a0]) rfl (s_an rfl (pos_g I32 gA0 (by decide))) rfl ?_
              refine w_t (np := 94) (l2 := [some (eR a0), some (eI (a1))]) (s2 := [eR a0, eR a0]) rfl (s_an rfl (pos_g I32 gA0 (by decide))) rfl ?_
              refine w_gf (np := 97) (v := eR v11) rfl rfl (I32.kd gA0 (by decide) (n := 14) rfl) (by rw [(F33.k e12 gA0 (by decide) rfl)]; rfl) ?_
              refine j_gi (np := 100) rfl rfl rfl I32 b13 (by decide) (n := 4) rfl rfl (lo := 0) (hi := 12) rfl ?_
              intro v35 e36 b37
              refine w_cw (np := 103) (as := [eI (v35)]) (l2 := [some (eR a0), some (eI (v35))]) (rest := []) rfl rfl rfl (Nat.ble_eq.mp rfl) rfl rfl rfl (I32.kd gA0 (by decide) (n := 14) rfl) rfl ?_
              refine w_t (np := 1) (l2 := [some (eR a0), some (eI (v35))]) (s2 := [eR a0]) rfl (s_an rfl (pos_g I32 gA0 (by decide))) rfl ?_
              refine w_t (np := 2) (l2 := [some (eR a0), some (eI (v35))]) (s2 := [eI (0), eR a0]) rfl rfl rfl ?_
              refine j_pf (np := 5) (w := 0) rfl rfl I32 gA0 (by decide) (n := 14) rfl rfl (hO_i (lo := -2147483648) (hi := 2147483647) rfl (by decide)) ?_
              intro m38 I39 W40
              have F41 : Fr l_170 0 0 g μ m38 := F34.w W40 gA0 rfl
              refine w_t (np := 6) (l2 := [some (eR a0), some (eI (v35))]) (s2 := [eI (v35)]) rfl rfl rfl ?_
              refine b_ri rfl rfl ?_
              show ex_q (dt_fg L ρ) rc (d + 2, (170, 103, [some (eR a0), some (eI (a1))], [eI (v35)]), f :: F, m38)
              exact b_ri rfl rfl (K m38 (v35) I39 F41 (by omega))
            · refine w_t (np := 70) (l2 := [some (eR a0), some (eI (a1))]) (s2 := [eR a0]) rfl (s_an rfl (pos_g hI gA0 (by decide))) rfl ?_
              refine w_t (np := 72) (l2 := [some (eR a0), some (eI (a1))]) (s2 := [eI (6), eR a0]) rfl rfl rfl ?_
              refine w_cw (np := 75) (as := [eI (6)]) (l2 := [some (eR a0), some (eI (6))]) (rest := []) rfl rfl rfl (Nat.ble_eq.mp rfl) rfl rfl rfl (hI.kd gA0 (by decide) (n := 14) rfl) rfl ?_
              refine w_t (np := 1) (l2 := [some (eR a0), some (eI (6))]) (s2 := [eR a0]) rfl (s_an rfl (pos_g hI gA0 (by decide))) rfl ?_
              refine w_t (np := 2) (l2 := [some (eR a0), some (eI (6))]) (s2 := [eI (6), eR a0]) rfl rfl rfl ?_
              refine j_pf (np := 5) (w := 6) rfl rfl hI gA0 (by decide) (n := 14) rfl rfl (hO_i (lo := -2147483648) (hi := 2147483647) rfl (by decide)) ?_
              intro m29 I30 W31
              have F32 : Fr l_170 0 0 g μ m29 := F0.w W31 gA0 rfl
              refine w_t (np := 6) (l2 := [some (eR a0), some (eI (6))]) (s2 := [eI (-1)]) rfl rfl rfl ?_
              refine b_ri rfl rfl ?_
              show ex_q (dt_fg L ρ) rc (d + 2, (170, 75, [some (eR a0), some (eI (a1))], [eI (-1)]), f :: F, m29)
              exact b_ri rfl rfl (K m29 (-1) I30 F32 (by decide))
          · have b23 : 0 ≤ v19 ∧ v19 ≤ 0 := by omega
            refine w_t (np := 46) (l2 := [some (eR a0), some (eI (a1))]) (s2 := [eR a0]) rfl (s_an rfl (pos_g hI gA0 (by decide))) rfl ?_
            refine w_t (np := 47) (l2 := [some (eR a0), some (eI (a1))]) (s2 := [eI (5), eR a0]) rfl rfl rfl ?_
            refine w_cw (np := 50) (as := [eI (5)]) (l2 := [some (eR a0), some (eI (5))]) (rest := []) rfl rfl rfl (Nat.ble_eq.mp rfl) rfl rfl rfl (hI.kd gA0 (by decide) (n := 14) rfl) rfl ?_
            refine w_t (np := 1) (l2 := [some (eR a0), some (eI (5))]) (s2 := [eR a0]) rfl (s_an rfl (pos_g hI gA0 (by decide))) rfl ?_
            refine w_t (np := 2) (l2 := [some (eR a0), some (eI (5))]) (s2 := [eI (5), eR a0]) rfl rfl rfl ?_
            refine j_pf (np := 5) (w := 5) rfl rfl hI gA0 (by decide) (n := 14) rfl rfl (hO_i (lo := -2147483648) (hi := 2147483647) rfl (by decide)) ?_
            intro m23 I24 W25
            have F26 : Fr l_170 0 0 g μ m23 := F0.w W25 gA0 rfl
            refine w_t (np := 6) (l2 := [some (eR a0), some (eI (5))]) (s2 := [eI (-1)]) rfl rfl rfl ?_
            refine b_ri rfl rfl ?_
            show ex_q (dt_fg L ρ) rc (d + 2, (170, 50, [some (eR a0), some (eI (a1))], [eI (-1)]), f :: F, m23)
            exact b_ri rfl rfl (K m23 (-1) I24 F26 (by decide))
        · have b19 : 12 ≤ v15 ∧ v15 ≤ 12 := by omega
          refine w_t (np := 30) (l2 := [some (eR a0), some (eI (a1))]) (s2 := [eR a0]) rfl (s_an rfl (pos_g hI gA0 (by decide))) rfl ?_
          refine w_t (np := 31) (l2 := [some (eR a0), some (eI (a1))]) (s2 := [eI (3), eR a0]) rfl rfl rfl ?_
          refine w_cw (np := 34) (as := [eI (3)]) (l2 := [some (eR a0), some (eI (3))]) (rest := []) rfl rfl rfl (Nat.ble_eq.mp rfl) rfl rfl rfl (hI.kd gA0 (by decide) (n := 14) rfl) rfl ?_
          refine w_t (np := 1) (l2 := [some (eR a0), some (eI (3))]) (s2 := [eR a0]) rfl (s_an rfl (pos_g hI gA0 (by decide))) rfl ?_
          refine w_t (np := 2) (l2 := [some (eR a0), some (eI (3))]) (s2 := [eI (3), eR a0]) rfl rfl rfl ?_
          refine j_pf (np := 5) (w := 3) rfl rfl hI gA0 (by decide) (n := 14) rfl rfl (hO_i (lo := -2147483648) (hi := 2147483647) rfl (by decide)) ?_
          intro m19 I20 W21
          have F22 : Fr l_170 0 0 g μ m19 := F0.w W21 gA0 rfl
          refine w_t (np := 6) (l2 := [some (eR a0), some (eI (3))]) (s2 := [eI (-1)]) rfl rfl rfl ?_
          refine b_ri rfl rfl ?_
          show ex_q (dt_fg L ρ) rc (d + 2, (170, 34, [some (eR a0), some (eI (a1))], [eI (-1)]), f :: F, m19)
          exact b_ri rfl rfl (K m19 (-1) I20 F22 (by decide))
      · refine w_t (np := 13) (l2 := [some (eR v1), some (eI (a1))]) (s2 := [eI (1)]) rfl rfl rfl ?_
        refine w_go (t1 := 17) rfl rfl ?_
        refine b_rz rfl rfl (Or.inr rfl) ?_
        show ex_q (dt_fg L ρ) rc (d + 2, (170, 8, [some (eR a0), some (eI (a1))], [eI (1)]), f :: F, μ)
        refine b_ieq (t1 := 17) (t2 := 11) rfl rfl rfl rfl (fun g10 => absurd g10 (by decide)) (fun g10 => ?_)
        refine w_t (np := 12) (l2 := [some (eR a0), some (eI (a1))]) (s2 := [eR a0]) rfl (s_an rfl (pos_g hI gA0 (by decide))) rfl ?_
        refine w_t (np := 13) (l2 := [some (eR a0), some (eI (a1))]) (s2 := [eI (2), eR a0]) rfl rfl rfl ?_
        refine w_cw (np := 16) (as := [eI (2)]) (l2 := [some (eR a0), some (eI (2))]) (rest := []) rfl rfl rfl (Nat.ble_eq.mp rfl) rfl rfl rfl (hI.kd gA0 (by decide) (n := 14) rfl) rfl ?_
        refine w_t (np := 1) (l2 := [some (eR a0), some (eI (2))]) (s2 := [eR a0]) rfl (s_an rfl (pos_g hI gA0 (by decide))) rfl ?_
        refine w_t (np := 2) (l2 := [some (eR a0), some (eI (2))]) (s2 := [eI (2), eR a0]) rfl rfl rfl ?_
        refine j_pf (np := 5) (w := 2) rfl rfl hI gA0 (by decide) (n := 14) rfl rfl (hO_i (lo := -2147483648) (hi := 2147483647) rfl (by decide)) ?_
        intro m11 I12 W13
        have F14 : Fr l_170 0 0 g μ m11 := F0.w W13 gA0 rfl
        refine w_t (np := 6) (l2 := [some (eR a0), some (eI (2))]) (s2 := [eI (-1)]) rfl rfl rfl ?_
        refine b_ri rfl rfl ?_
        show ex_q (dt_fg L ρ) rc (d + 2, (170, 16, [some (eR a0), some (eI (a1))], [eI (-1)]), f :: F, m11)
        exact b_ri rfl rfl (K m11 (-1) I12 F14 (by decide))
  · refine w_t (np := 5) (l2 := [some (eR a0), some (eI (a1))]) (s2 := [eI (a1), eR v1]) rfl rfl rfl ?_
    refine w_cw (np := 8) (as := [eI (a1)]) (l2 := [some (eR v1), some (eI (a1))]) (rest := []) rfl rfl rfl (Nat.ble_eq.mp rfl) rfl rfl rfl (hI.kd b3 (by decide) (n := 8) rfl) rfl ?_
    refine w_t (np := 1) (l2 := [some (eR v1), some (eI (a1))]) (s2 := [eI (a1)]) rfl rfl rfl ?_
    refine b_ilt (t1 := 12) (t2 := 4) rfl rfl rfl (ev_w_in (by omega) (by omega)) (fun g5 => ?_) (fun g5 => ?_)
    · have b6 : -2147483648 ≤ a1 ∧ a1 ≤ -1 := by omega
      refine w_t (np := 13) (l2 := [some (eR v1), some (eI (a1))]) (s2 := [eI (1)]) rfl rfl rfl ?_
      refine w_go (t1 := 17) rfl rfl ?_
      refine b_rz rfl rfl (Or.inr rfl) ?_
      show ex_q (dt_fg L ρ) rc (d + 2, (170, 8, [some (eR a0), some (eI (a1))], [eI (1)]), f :: F, μ)
      refine b_ieq (t1 := 17) (t2 := 11) rfl rfl rfl rfl (fun g6 => absurd g6 (by decide)) (fun g6 => ?_)
      refine w_t (np := 12) (l2 := [some (eR a0), some (eI (a1))]) (s2 := [eR a0]) rfl (s_an rfl (pos_g hI gA0 (by decide))) rfl ?_
      refine w_t (np := 13) (l2 := [some (eR a0), some (eI (a1))]) (s2 := [eI (2), eR a0]) rfl rfl rfl ?_
      refine w_cw (np := 16) (as := [eI (2)]) (l2 := [some (eR a0), some (eI (2))]) (rest := []) rfl rfl rfl (Nat.ble_eq.mp rfl) rfl rfl rfl (hI.kd gA0 (by decide) (n := 14) rfl) rfl ?_
      refine w_t (np := 1) (l2 := [some (eR a0), some (eI (2))]) (s2 := [eR a0]) rfl (s_an rfl (pos_g hI gA0 (by decide))) rfl ?_
      refine w_t (np := 2) (l2 := [some (eR a0), some (eI (2))]) (s2 := [eI (2), eR a0]) rfl rfl rfl ?_
      refine j_pf (np := 5) (w := 2) rfl rfl hI gA0 (by decide) (n := 14) rfl rfl (hO_i (lo := -2147483648) (hi := 2147483647) rfl (by decide)) ?_
      intro m7 I8 W9
      have F10 : Fr l_170 0 0 g μ m7 := F0.w W9 gA0 rfl
      refine w_t (np := 6) (l2 := [some (eR a0), some (eI (2))]) (s2 := [eI (-1)]) rfl rfl rfl ?_
      refine b_ri rfl rfl ?_
      show ex_q (dt_fg L ρ) rc (d + 2, (170, 16, [some (eR a0), some (eI (a1))], [eI (-1)]), f :: F, m7)
      exact b_ri rfl rfl (K m7 (-1) I8 F10 (by decide))
    · have b6 : 0 ≤ a1 ∧ a1 ≤ 2147483647 := by omega
      refine w_t (np := 5) (l2 := [some (eR v1), some (eI (a1))]) (s2 := [eI (a1)]) rfl rfl rfl ?_
      refine w_t (np := 6) (l2 := [some (eR v1), some (eI (a1))]) (s2 := [eR v1, eI (a1)]) rfl (s_an rfl (pos_g hI b3 (by decide))) rfl ?_
      refine j_gi (np := 9) rfl rfl rfl hI b3 (by decide) (n := 8) rfl rfl (lo := 0) (hi := 890) rfl ?_
      intro v6 e7 b8
      refine b_clt (t1 := 16) (t2 := 12) rfl rfl rfl (ev_w_in (by omega) (by omega)) (ev_w_in (by omega) (by omega)) (fun g9 => ?_) (fun g9 => ?_)
      · have b10 : 0 ≤ a1 ∧ a1 ≤ 889 := by omega
        have b11 : 1 ≤ v6 ∧ v6 ≤ 890 := by omega
        refine w_t (np := 17) (l2 := [some (eR v1), some (eI (a1))]) (s2 := [eI (0)]) rfl rfl rfl ?_
        refine b_rz rfl rfl (Or.inl rfl) ?_
        show ex_q (dt_fg L ρ) rc (d + 2, (170, 8, [some (eR a0), some (eI (a1))], [eI (0)]), f :: F, μ)
        refine b_ieq (t1 := 17) (t2 := 11) rfl rfl rfl rfl (fun g10 => ?_) (fun g10 => absurd g10 (by decide))
        refine w_t (np := 18) (l2 := [some (eR a0), some (eI (a1))]) (s2 := [eR a0]) rfl (s_an rfl (pos_g hI gA0 (by decide))) rfl ?_
        refine j_gr (np := 21) rfl rfl hI gA0 (by decide) (n := 14) rfl rfl rfl ?_
        intro v11 e12 b13 z14
        have b13 : g v11 = 18 := Nat.eq_of_beq_eq_true b13
        refine j_gi (np := 24) rfl rfl rfl hI b13 (by decide) (n := 4) rfl rfl (lo := 0) (hi := 12) rfl ?_
        intro v15 e16 b17
        refine w_t (np := 26) (l2 := [some (eR a0), some (eI (a1))]) (s2 := [eI (12), eI (v15)]) rfl rfl rfl ?_
        refine b_clt (t1 := 35) (t2 := 29) rfl rfl rfl (ev_w_in (by omega) (by omega)) rfl (fun g18 => ?_) (fun g18 => ?_)
        · have b19 : 0 ≤ v15 ∧ v15 ≤ 11 := by omega
          refine w_t (np := 36) (l2 := [some (eR a0), some (eI (a1))]) (s2 := [eR a0]) rfl (s_an rfl (pos_g hI gA0 (by decide))) rfl ?_
          refine w_gf (np := 39) (v := eR v11) rfl rfl (hI.kd gA0 (by decide) (n := 14) rfl) (by rw [e12]; rfl) ?_
          refine j_gi (np := 42) rfl rfl rfl hI b13 (by decide) (n := 4) rfl rfl (lo := 0) (hi := 1) rfl ?_
          intro v19 e20 b21
          refine b_ine (t1 := 51) (t2 := 45) rfl rfl rfl (ev_w_in (by omega) (by omega)) (fun g22 => ?_) (fun g22 => ?_)
          · have b23 : 1 ≤ v19 ∧ v19 ≤ 1 := by omega
            refine w_t (np := 52) (l2 := [some (eR a0), some (eI (a1))]) (s2 := [eR a0]) rfl (s_an rfl (pos_g hI gA0 (by decide))) rfl ?_
            refine w_gf (np := 55) (v := eR v11) rfl rfl (hI.kd gA0 (by decide) (n := 14) rfl) (by rw [e12]; rfl) ?_
            refine j_gi (np := 58) rfl rfl rfl hI b13 (by decide) (n := 4) rfl rfl (lo := -2147483648) (hi := 2147483647) rfl ?_
            intro v23 e24 b25
            refine w_t (np := 59) (l2 := [some (eR a0), some (eI (a1))]) (s2 := [eR a0, eI (v23)]) rfl (s_an rfl (pos_g hI gA0 (by decide))) rfl ?_
            refine w_gf (np := 62) (v := eR v1) rfl rfl (hI.kd gA0 (by decide) (n := 14) rfl) (by rw [e2]; rfl) ?_
            refine w_t (np := 63) (l2 := [some (eR a0), some (eI (a1))]) (s2 := [eI (a1), eR v1, eI (v23)]) rfl rfl rfl ?_
            refine w_cw (np := 66) (as := [eI (a1)]) (l2 := [some (eR v1), some (eI (a1))]) (rest := [eI (v23)]) rfl rfl rfl (Nat.ble_eq.mp rfl) rfl rfl rfl (hI.kd b3 (by decide) (n := 8) rfl) rfl ?_
            refine s_19_2 (a1 := a1) hI b3 (by omega) ?_
            intro v26 b27
            show ex_q (dt_fg L ρ) rc (d + 2, (170, 66, [some (eR a0), some (eI (a1))], [eI (v26), eI (v23)]), f :: F, μ)
            refine b_ceq (t1 := 76) (t2 := 69) rfl rfl rfl (ev_w_in (by omega) (by omega)) (ev_w_in (by omega) (by omega)) (fun g28 => ?_) (fun g28 => ?_)
            · have b29 : 0 ≤ v23 ∧ v23 ≤ 1 := by omega
              refine w_t (np := 77) (l2 := [some (eR a0), some (eI (a1))]) (s2 := [eR a0]) rfl (s_an rfl (pos_g hI gA0 (by decide))) rfl ?_
              refine w_gf (np := 80) (v := eR v11) rfl rfl (hI.kd gA0 (by decide) (n := 14) rfl) (by rw [e12]; rfl) ?_
              refine w_t (np := 81) (l2 := [some (eR a0), some (eI (a1))]) (s2 := [eR a0, eR v11]) rfl (s_an rfl (pos_g hI gA0 (by decide))) rfl ?_
              refine w_gf (np := 84) (v := eR v1) rfl rfl (hI.kd gA0 (by decide) (n := 14) rfl) (by rw [e2]; rfl) ?_
              refine w_t (np := 85) (l2 := [some (eR a0), some (eI (a1))]) (s2 := [eI (a1), eR v1, eR v11]) rfl rfl rfl ?_
              refine w_t (np := 86) (l2 := [some (eR a0), some (eI (a1))]) (s2 := [eI (0), eI (a1), eR v1, eR v11]) rfl rfl rfl ?_
              refine w_cw (np := 89) (as := [eI (a1), eI (0)]) (l2 := [some (eR v1), some (eI (a1)), some (eI (0))]) (rest := [eR v11]) rfl rfl rfl (Nat.ble_eq.mp rfl) rfl rfl rfl (hI.kd b3 (by decide) (n := 8) rfl) rfl ?_
              refine s_22_2 (a1 := a1) (a2 := 0) hI b3 (by omega) (by decide) ?_
              intro v29 b30
              show ex_q (dt_fg L ρ) rc (d + 2, (170, 89, [some (eR a0), some (eI (a1))], [eJ (v29), eR v11]), f :: F, μ)
              refine w_cw (np := 92) (as := [eJ (v29)]) (l2 := [some (eR v11), some (eJ (v29)), none]) (rest := []) rfl rfl rfl (Nat.ble_eq.mp rfl) rfl rfl rfl (hI.kd b13 (by decide) (n := 4) rfl) rfl ?_
              refine s_103 hI b13 b30 ?_
              intro m31 I32 F33
              have F34 : Fr l_170 0 0 g μ m31 := F0.t F33 rfl
              show ex_q (dt_fg L ρ) rc (d + 2, (170, 92, [some (eR a0), some (eI (a1))], []), f :: F, m31)
              refine w_t (np := 93) (l2 := [some (eR a0), some (eI (a1))]) (s2 := [eR a0]) rfl (s_an rfl (pos_g I32 gA0 (by decide))) rfl ?_
              refine w_t (np := 94) (l2 := [some (eR a0), some (eI (a1))]) (s2 := [eR a0, eR a0]) rfl (s_an rfl (pos_g I32 gA0 (by decide))) rfl ?_
              refine w_gf (np := 97) (v := eR v11) rfl rfl (I32.kd gA0 (by decide) (n := 14) rfl) (by rw [(F33.k e12 gA0 (by decide) rfl)]; rfl) ?_
              refine j_gi (np := 100) rfl rfl rfl I32 b13 (by decide) (n := 4) rfl rfl (lo := 0) (hi := 12) rfl ?_
              intro v35 e36 b37
              refine w_cw (np := 103) (as := [eI (v35)]) (l2 := [some (eR a0), some (eI (v35))]) (rest := []) rfl rfl rfl (Nat.ble_eq.mp rfl) rfl rfl rfl (I32.kd gA0 (by decide) (n := 14) rfl) rfl ?_
              refine w_t (np := 1) (l2 := [some (eR a0), some (eI (v35))]) (s2 := [eR a0]) rfl (s_an rfl (pos_g I32 gA0 (by decide))) rfl ?_
              refine w_t (np := 2) (l2 := [some (eR a0), some (eI (v35))]) (s2 := [eI (0), eR a0]) rfl rfl rfl ?_
              refine j_pf (np := 5) (w := 0) rfl rfl I32 gA0 (by decide) (n := 14) rfl rfl (hO_i (lo := -2147483648) (hi := 2147483647) rfl (by decide)) ?_
              intro m38 I39 W40
              have F41 : Fr l_170 0 0 g μ m38 := F34.w W40 gA0 rfl
              refine w_t (np := 6) (l2 := [some (eR a0), some (eI (v35))]) (s2 := [eI (v35)]) rfl rfl rfl ?_
              refine b_ri rfl rfl ?_
              show ex_q (dt_fg L ρ) rc (d + 2, (170, 103, [some (eR a0), some (eI (a1))], [eI (v35)]), f :: F, m38)
              exact b_ri rfl rfl (K m38 (v35) I39 F41 (by omega))
            · refine w_t (np := 70) (l2 := [some (eR a0), some (eI (a1))]) (s2 := [eR a0]) rfl (s_an rfl (pos_g hI gA0 (by decide))) rfl ?_
              refine w_t (np := 72) (l2 := [some (eR a0), some (eI (a1))]) (s2 := [eI (6), eR a0]) rfl rfl rfl ?_
              refine w_cw (np := 75) (as := [eI (6)]) (l2 := [some (eR a0), some (eI (6))]) (rest := []) rfl rfl rfl (Nat.ble_eq.mp rfl) rfl rfl rfl (hI.kd gA0 (by decide) (n := 14) rfl) rfl ?_
              refine w_t (np := 1) (l2 := [some (eR a0), some (eI (6))]) (s2 := [eR a0]) rfl (s_an rfl (pos_g hI gA0 (by decide))) rfl ?_
              refine w_t (np := 2) (l2 := [some (eR a0), some (eI (6))]) (s2 := [eI (6), eR a0]) rfl rfl rfl ?_
              refine j_pf (np := 5) (w := 6) rfl rfl hI gA0 (by decide) (n := 14) rfl rfl (hO_i (lo := -2147483648) (hi := 2147483647) rfl (by decide)) ?_
              intro m29 I30 W31
              have F32 : Fr l_170 0 0 g μ m29 := F0.w W31 gA0 rfl
              refine w_t (np := 6) (l2 := [some (eR a0), some (eI (6))]) (s2 := [eI (-1)]) rfl rfl rfl ?_
              refine b_ri rfl rfl ?_
              show ex_q (dt_fg L ρ) rc (d + 2, (170, 75, [some (eR a0), some (eI (a1))], [eI (-1)]), f :: F, m29)
              exact b_ri rfl rfl (K m29 (-1) I30 F32 (by decide))
          · have b23 : 0 ≤ v19 ∧ v19 ≤ 0 := by omega
            refine w_t (np := 46) (l2 := [some (eR a0), some (eI (a1))]) (s2 := [eR a0]) rfl (s_an rfl (pos_g hI gA0 (by decide))) rfl ?_
            refine w_t (np := 47) (l2 := [some (eR a0), some (eI (a1))]) (s2 := [eI (5), eR a0]) rfl rfl rfl ?_
            refine w_cw (np := 50) (as := [eI (5)]) (l2 := [some (eR a0), some (eI (5))]) (rest := []) rfl rfl rfl (Nat.ble_eq.mp rfl) rfl rfl rfl (hI.kd gA0 (by decide) (n := 14) rfl) rfl ?_
            refine w_t (np := 1) (l2 := [some (eR a0), some (eI (5))]) (s2 := [eR a0]) rfl (s_an rfl (pos_g hI gA0 (by decide))) rfl ?_
            refine w_t (np := 2) (l2 := [some (eR a0), some (eI (5))]) (s2 := [eI (5), eR a0]) rfl rfl rfl ?_
            refine j_pf (np := 5) (w := 5) rfl rfl hI gA0 (by decide) (n := 14) rfl rfl (hO_i (lo := -2147483648) (hi := 2147483647) rfl (by decide)) ?_
            intro m23 I24 W25
            have F26 : Fr l_170 0 0 g μ m23 := F0.w W25 gA0 rfl
            refine w_t (np := 6) (l2 := [some (eR a0), some (eI (5))]) (s2 := [eI (-1)]) rfl rfl rfl ?_
            refine b_ri rfl rfl ?_
            show ex_q (dt_fg L ρ) rc (d + 2, (170, 50, [some (eR a0), some (eI (a1))], [eI (-1)]), f :: F, m23)
            exact b_ri rfl rfl (K m23 (-1) I24 F26 (by decide))
        · have b19 : 12 ≤ v15 ∧ v15 ≤ 12 := by omega
          refine w_t (np := 30) (l2 := [some (eR a0), some (eI (a1))]) (s2 := [eR a0]) rfl (s_an rfl (pos_g hI gA0 (by decide))) rfl ?_
          refine w_t (np := 31) (l2 := [some (eR a0), some (eI (a1))]) (s2 := [eI (3), eR a0]) rfl rfl rfl ?_
          refine w_cw (np := 34) (as := [eI (3)]) (l2 := [some (eR a0), some (eI (3))]) (rest := []) rfl rfl rfl (Nat.ble_eq.mp rfl) rfl rfl rfl (hI.kd gA0 (by decide) (n := 14) rfl) rfl ?_
          refine w_t (np := 1) (l2 := [some (eR a0), some (eI (3))]) (s2 := [eR a0]) rfl (s_an rfl (pos_g hI gA0 (by decide))) rfl ?_
          refine w_t (np := 2) (l2 := [some (eR a0), some (eI (3))]) (s2 := [eI (3), eR a0]) rfl rfl rfl ?_
          refine j_pf (np := 5) (w := 3) rfl rfl hI gA0 (by decide) (n := 14) rfl rfl (hO_i (lo := -2147483648) (hi := 2147483647) rfl (by decide)) ?_
          intro m19 I20 W21
          have F22 : Fr l_170 0 0 g μ m19 := F0.w W21 gA0 rfl
          refine w_t (np := 6) (l2 := [some (eR a0), some (eI (3))]) (s2 := [eI (-1)]) rfl rfl rfl ?_
          refine b_ri rfl rfl ?_
          show ex_q (dt_fg L ρ) rc (d + 2, (170, 34, [some (eR a0), some (eI (a1))], [eI (-1)]), f :: F, m19)
          exact b_ri rfl rfl (K m19 (-1) I20 F22 (by decide))
      · refine w_t (np := 13) (l2 := [some (eR v1), some (eI (a1))]) (s2 := [eI (1)]) rfl rfl rfl ?_
        refine w_go (t1 := 17) rfl rfl ?_
        refine b_rz rfl rfl (Or.inr rfl) ?_
        show ex_q (dt_fg L ρ) rc (d + 2, (170, 8, [some (eR a0), some (eI (a1))], [eI (1)]), f :: F, μ)
        refine b_ieq (t1 := 17) (t2 := 11) rfl rfl rfl rfl (fun g10 => absurd g10 (by decide)) (fun g10 => ?_)
        refine w_t (np := 12) (l2 := [some (eR a0), some (eI (a1))]) (s2 := [eR a0]) rfl (s_an rfl (pos_g hI gA0 (by decide))) rfl ?_
        refine w_t (np := 13) (l2 := [some (eR a0), some (eI (a1))]) (s2 := [eI (2), eR a0]) rfl rfl rfl ?_
        refine w_cw (np := 16) (as := [eI (2)]) (l2 := [some (eR a0), some (eI (2))]) (rest := []) rfl rfl rfl (Nat.ble_eq.mp rfl) rfl rfl rfl (hI.kd gA0 (by decide) (n := 14) rfl) rfl ?_
        refine w_t (np := 1) (l2 := [some (eR a0), some (eI (2))]) (s2 := [eR a0]) rfl (s_an rfl (pos_g hI gA0 (by decide))) rfl ?_
        refine w_t (np := 2) (l2 := [some (eR a0), some (eI (2))]) (s2 := [eI (2), eR a0]) rfl rfl rfl ?_
        refine j_pf (np := 5) (w := 2) rfl rfl hI gA0 (by decide) (n := 14) rfl rfl (hO_i (lo := -2147483648) (hi := 2147483647) rfl (by decide)) ?_
        intro m11 I12 W13
        have F14 : Fr l_170 0 0 g μ m11 := F0.w W13 gA0 rfl
        refine w_t (np := 6) (l2 := [some (eR a0), some (eI (2))]) (s2 := [eI (-1)]) rfl rfl rfl ?_
        refine b_ri rfl rfl ?_
        show ex_q (dt_fg L ρ) rc (d + 2, (170, 16, [some (eR a0), some (eI (a1))], [eI (-1)]), f :: F, m11)
        exact b_ri rfl rfl (K m11 (-1) I12 F14 (by decide))
def l_2 : List Nat := [10760, 10761, 10762, 12032, 11776, 11520, 11264, 11008]
theorem s_2 {L : Nat} {ρ : Nat → Int} {rc : eQ} {d : Nat} {f : eFr} {F : List eFr} {μ : eM} {g : Nat → Nat} {a0 : Nat} (hI : SI g μ) (gA0 : g a0 = 42) (K : ∀ (μ2 : eM), SI g μ2 → Fr l_2 0 0 g μ μ2 → ex_q (dt_fg L ρ) rc (d + 4, (f.1, f.2.1, f.2.2.1, f.2.2.2), F, μ2)) : ex_q (dt_fg L ρ) rc (d + 3, (2, 0, [some (eR a0), none, none], []), f :: F, μ) := by
  have F0 : Fr l_2 0 0 g μ μ := Fr.r
  refine w_t (np := 1) (l2 := [some (eR a0), none, none]) (s2 := [eR a0]) rfl (s_an rfl (pos_g hI gA0 (by decide))) rfl ?_
  refine w_t (np := 2) (l2 := [some (eR a0), none, none]) (s2 := [eR a0, eR a0]) rfl (s_an rfl (pos_g hI gA0 (by decide))) rfl ?_
  refine j_gr (np := 5) rfl rfl hI gA0 (by decide) (n := 10) rfl rfl rfl ?_
  intro v1 e2 b3 z4
  rcases hor2 b3 with b3 | b3
  · refine j_gr (np := 8) rfl rfl hI b3 (by decide) (n := 8) rfl rfl rfl ?_
    intro v5 e6 b7 z8
    rcases hor2 b7 with b7 | b7
    · refine j_gi (np := 11) rfl rfl rfl hI b7 (by decide) (n := 3) rfl rfl (lo := 0) (hi := 64) rfl ?_
      intro v9 e10 b11
      refine j_pf (np := 14) (w := v9) rfl rfl hI gA0 (by decide) (n := 10) rfl rfl (hO_i (lo := 0) (hi := 512) rfl (by omega)) ?_
      intro m12 I13 W14
      have F15 : Fr l_2 0 0 g μ m12 := F0.w W14 gA0 rfl
      refine w_t (np := 15) (l2 := [some (eR a0), none, none]) (s2 := [eR a0]) rfl (s_an rfl (pos_g I13 gA0 (by decide))) rfl ?_
      refine w_t (np := 16) (l2 := [some (eR a0), none, none]) (s2 := [eI (0), eR a0]) rfl rfl rfl ?_
      refine j_pf (np := 19) (w := 0) rfl rfl I13 gA0 (by decide) (n := 10) rfl rfl (hO_i (lo := -2147483648) (hi := 2147483647) rfl (by decide)) ?_
      intro m16 I17 W18
      have F19 : Fr l_2 0 0 g μ m16 := F15.w W18 gA0 rfl
      refine w_t (np := 20) (l2 := [some (eR a0), none, none]) (s2 := [eR a0]) rfl (s_an rfl (pos_g I17 gA0 (by decide))) rfl ?_
      refine w_t (np := 21) (l2 := [some (eR a0), none, none]) (s2 := [eI (0), eR a0]) rfl rfl rfl ?_
      refine j_pf (np := 24) (w := 0) rfl rfl I17 gA0 (by decide) (n := 10) rfl rfl (hO_i (lo := 0) (hi := 64) rfl (by decide)) ?_
      intro m20 I21 W22
      have F23 : Fr l_2 0 0 g μ m20 := F19.w W22 gA0 rfl
      refine w_t (np := 25) (l2 := [some (eR a0), none, none]) (s2 := [eI (0)]) rfl rfl rfl ?_
      refine w_t (np := 26) (l2 := [some (eR a0), some (eI (0)), none]) (s2 := []) rfl rfl rfl ?_
      have hL26 : ∀ (n24 : Nat) (m28 : eM) (i26 : Int), SI g m28 → Fr l_2 0 0 g μ m28 → (0 ≤ i26 ∧ i26 ≤ 512) → m28.1 a0 5 = ((v1 : Nat) : Int) → m28.1 v1 4 = ((v5 : Nat) : Int) → m28.1 v5 2 = v9 → m28.1 a0 7 = v9 → m28.1 a0 8 = 0 → m28.1 a0 9 = 0 → n24 = (512 - i26).toNat → ex_q (dt_fg L ρ) rc (d + 3, (2, 26, [some (eR a0), some (eI (i26)), none], []), f :: F, m28) := by
        intro n24
        induction n24 using Nat.strongRecOn with
        | _ n24 ih25 =>
        intro m28 i26 I29 F30 b27 k31 k32 k33 k34 k35 k36 hn37
        refine w_t (np := 27) (l2 := [some (eR a0), some (eI (i26)), none]) (s2 := [eI (i26)]) rfl rfl rfl ?_
        refine w_t (np := 28) (l2 := [some (eR a0), some (eI (i26)), none]) (s2 := [eR a0, eI (i26)]) rfl (s_an rfl (pos_g I29 gA0 (by decide))) rfl ?_
        refine w_gf (np := 31) (v := eI (v9)) rfl rfl (I29.kd gA0 (by decide) (n := 10) rfl) (by rw [k34]; rfl) ?_
        refine b_cge (t1 := 61) (t2 := 34) rfl rfl rfl (ev_w_in (by omega) (by omega)) (ev_w_in (by omega) (by omega)) (fun g38 => ?_) (fun g38 => ?_)
        · refine w_t (np := 62) (l2 := [some (eR a0), some (eI (i26)), none]) (s2 := [eI (0)]) rfl rfl rfl ?_
          refine w_t (np := 63) (l2 := [some (eR a0), some (eI (0)), none]) (s2 := []) rfl rfl rfl ?_
          have hL63 : ∀ (n39 : Nat) (m43 : eM) (i41 : Int), SI g m43 → Fr l_2 0 0 g μ m43 → (0 ≤ i41 ∧ i41 ≤ 890) → m43.1 a0 5 = ((v1 : Nat) : Int) → m43.1 v1 4 = ((v5 : Nat) : Int) → m43.1 v5 2 = v9 → m43.1 a0 7 = v9 → m43.1 a0 8 = 0 → m43.1 a0 9 = 0 → n39 = (890 - i41).toNat → ex_q (dt_fg L ρ) rc (d + 3, (2, 63, [some (eR a0), some (eI (i41)), none], []), f :: F, m43) := by
            intro n39
            induction n39 using Nat.strongRecOn with
            | _ n39 ih40 =>
            intro m43 i41 I44 F45 b42 k46 k47 k48 k49 k50 k51 hn52
            refine w_t (np := 64) (l2 := [some (eR a0), some (eI (i41)), none]) (s2 := [eI (i41)]) rfl rfl rfl ?_
            refine w_t (np := 65) (l2 := [some (eR a0), some (eI (i41)), none]) (s2 := [eR a0, eI (i41)]) rfl (s_an rfl (pos_g I44 gA0 (by decide))) rfl ?_
            refine w_gf (np := 68) (v := eR v1) rfl rfl (I44.kd gA0 (by decide) (n := 10) rfl) (by rw [k46]; rfl) ?_
            refine j_gi (np := 71) rfl rfl rfl I44 b3 (by decide) (n := 8) rfl rfl (lo := 0) (hi := 50) rfl ?_
            intro v53 e54 b55
            refine b_cge (t1 := 93) (t2 := 74) rfl rfl rfl (ev_w_in (by omega) (by omega)) (ev_w_in (by omega) (by omega)) (fun g56 => ?_) (fun g56 => ?_)
            · refine w_t (np := 94) (l2 := [some (eR a0), some (eI (i41)), none]) (s2 := [eI (0)]) rfl rfl rfl ?_
              refine w_t (np := 95) (l2 := [some (eR a0), some (eI (0)), none]) (s2 := []) rfl rfl rfl ?_
              have hL95 : ∀ (n57 : Nat) (m62 : eM) (i59 : Int) (o61 : Option eV), SI g m62 → Fr l_2 0 0 g μ m62 → (0 ≤ i59 ∧ i59 ≤ 512) → m62.1 a0 5 = ((v1 : Nat) : Int) → m62.1 v1 4 = ((v5 : Nat) : Int) → m62.1 v5 2 = v9 → m62.1 a0 7 = v9 → m62.1 v1 7 = v53 → n57 = (512 - i59).toNat → ex_q (dt_fg L ρ) rc (d + 3, (2, 95, [some (eR a0), some (eI (i59)), o61], []), f :: F, m62) := by
                intro n57
                induction n57 using Nat.strongRecOn with
                | _ n57 ih58 =>
                intro m62 i59 o61 I63 F64 b60 k65 k66 k67 k68 k69 hn70
                refine w_t (np := 96) (l2 := [some (eR a0), some (eI (i59)), o61]) (s2 := [eI (i59)]) rfl rfl rfl ?_
                refine w_t (np := 97) (l2 := [some (eR a0), some (eI (i59)), o61]) (s2 := [eR a0, eI (i59)]) rfl (s_an rfl (pos_g I63 gA0 (by decide))) rfl ?_
                refine w_gf (np := 100) (v := eI (v9)) rfl rfl (I63.kd gA0 (by decide) (n := 10) rfl) (by rw [k68]; rfl) ?_
                refine b_cge (t1 := 186) (t2 := 103) rfl rfl rfl (ev_w_in (by omega) (by omega)) (ev_w_in (by omega) (by omega)) (fun g71 => ?_) (fun g71 => ?_)
                · exact v_rv rfl rfl (K m62 I63 F64)
                · have b72 : 0 ≤ i59 ∧ i59 ≤ 63 := by omega
                  have b73 : 1 ≤ v9 ∧ v9 ≤ 64 := by omega
                  refine w_t (np := 104) (l2 := [some (eR a0), some (eI (i59)), o61]) (s2 := [eR a0]) rfl (s_an rfl (pos_g I63 gA0 (by decide))) rfl ?_
                  refine j_gr (np := 107) rfl rfl I63 gA0 (by decide) (n := 10) rfl rfl rfl ?_
                  intro v72 e73 b74 z75
                  have b74 : g v72 = 43 := Nat.eq_of_beq_eq_true b74
                  refine w_t (np := 108) (l2 := [some (eR a0), some (eI (i59)), o61]) (s2 := [eI (i59), eR v72]) rfl rfl rfl ?_
                  refine j_al (np := 109) rfl rfl I63 b74 (by decide) (n := 512) rfl rfl (lo := -2147483648) (hi := 2147483647) (fun _ => rfl) (by omega) (by omega) ?_
                  intro v76 e77 b78
                  refine w_t (np := 111) (l2 := [some (eR a0), some (eI (i59)), o61]) (s2 := [eI (10), eI (v76)]) rfl rfl rfl ?_
                  refine b_cne (t1 := 118) (t2 := 114) rfl rfl rfl (ev_w_in (by omega) (by omega)) rfl (fun g79 => ?_) (fun g79 => ?_)
                  · refine w_t (np := 119) (l2 := [some (eR a0), some (eI (i59)), o61]) (s2 := [eI (0)]) rfl rfl rfl ?_
                    refine w_t (np := 120) (l2 := [some (eR a0), some (eI (i59)), some (eI (0))]) (s2 := []) rfl rfl rfl ?_
                    refine w_t (np := 121) (l2 := [some (eR a0), some (eI (i59)), some (eI (0))]) (s2 := [eR a0]) rfl (s_an rfl (pos_g I63 gA0 (by decide))) rfl ?_
                    refine w_t (np := 122) (l2 := [some (eR a0), some (eI (i59)), some (eI (0))]) (s2 := [eR a0, eR a0]) rfl rfl rfl ?_
                    refine j_gi (np := 125) rfl rfl rfl I63 gA0 (by decide) (n := 10) rfl rfl (lo := -2147483648) (hi := 2147483647) rfl ?_
                    intro v80 e81 b82
                    refine w_t (np := 126) (l2 := [some (eR a0), some (eI (i59)), some (eI (0))]) (s2 := [eI (0), eI (v80), eR a0]) rfl rfl rfl ?_
                    refine b_ieq (t1 := 133) (t2 := 129) rfl rfl rfl rfl (fun g83 => ?_) (fun g83 => absurd g83 (by decide))
                    refine w_t (np := 134) (l2 := [some (eR a0), some (eI (i59)), some (eI (0))]) (s2 := [eI (0), eI (v80), eR a0]) rfl rfl rfl ?_
                    refine w_t (np := 135) (l2 := [some (eR a0), some (eI (i59)), some (eI (0))]) (s2 := [eI (v80), eR a0]) rfl (b_iadd (by rw [Int.add_zero]; exact ev_w_in (by omega) (by omega))) rfl ?_
                    refine j_pf (np := 138) (w := v80) rfl rfl I63 gA0 (by decide) (n := 10) rfl rfl (hO_i (lo := -2147483648) (hi := 2147483647) rfl (by omega)) ?_
                    intro m84 I85 W86
                    have F87 : Fr l_2 0 0 g μ m84 := F64.w W86 gA0 rfl
                    refine w_t (np := 139) (l2 := [some (eR a0), some (eI (i59)), some (eI (0))]) (s2 := [eR a0]) rfl (s_an rfl (pos_g I85 gA0 (by decide))) rfl ?_
                    refine j_gr (np := 142) rfl rfl I85 gA0 (by decide) (n := 10) rfl rfl rfl ?_
                    intro v88 e89 b90 z91
                    have b90 : g v88 = 46 := Nat.eq_of_beq_eq_true b90
                    refine w_t (np := 143) (l2 := [some (eR a0), some (eI (i59)), some (eI (0))]) (s2 := [eI (i59), eR v88]) rfl rfl rfl ?_
                    refine w_t (np := 144) (l2 := [some (eR a0), some (eI (i59)), some (eI (0))]) (s2 := [eI (0), eI (i59), eR v88]) rfl rfl rfl ?_
                    refine b_ieq (t1 := 168) (t2 := 147) rfl rfl rfl rfl (fun g92 => ?_) (fun g92 => absurd g92 (by decide))
                    refine w_t (np := 169) (l2 := [some (eR a0), some (eI (i59)), some (eI (0))]) (s2 := [eI (-1), eI (i59), eR v88]) rfl rfl rfl ?_
                    refine j_as (np := 170) rfl rfl I85 b90 (by decide) (n := 512) rfl rfl (lo := -2147483648) (hi := 2147483647) (fun _ => rfl) (by omega) (by omega) (by decide) ?_
                    intro m93 I94 W95
                    have F96 : Fr l_2 0 0 g μ m93 := F87.v W95 b90 rfl rfl
                    refine w_t (np := 171) (l2 := [some (eR a0), some (eI (i59)), some (eI (0))]) (s2 := [eR a0]) rfl (s_an rfl (pos_g I94 gA0 (by decide))) rfl ?_
                    refine w_t (np := 172) (l2 := [some (eR a0), some (eI (i59)), some (eI (0))]) (s2 := [eR a0, eR a0]) rfl (s_an rfl (pos_g I94 gA0 (by decide))) rfl ?_
                    refine w_gf (np := 175) (v := eR v88) rfl rfl (I94.kd gA0 (by decide) (n := 10) rfl) (by rw [(W95.addr e89 b90 gA0 (by decide))]; rfl) ?_
                    refine w_t (np := 176) (l2 := [some (eR a0), some (eI (i59)), some (eI (0))]) (s2 := [eI (i59), eR v88, eR a0]) rfl rfl rfl ?_
                    refine j_al (np := 177) rfl rfl I94 b90 (by decide) (n := 512) rfl rfl (lo := -2147483648) (hi := 2147483647) (fun _ => rfl) (by omega) (by omega) ?_
                    intro v97 e98 b99
                    refine w_cw (np := 180) (as := [eI (v97)]) (l2 := [some (eR a0), some (eI (v97)), none, none]) (rest := []) rfl rfl rfl (Nat.ble_eq.mp rfl) rfl rfl rfl (I94.kd gA0 (by decide) (n := 10) rfl) rfl ?_
                    refine s_6 (a1 := v97) I94 gA0 (by omega) ?_
                    intro m100 I101 F102
                    have F103 : Fr l_2 0 0 g μ m100 := F96.t F102 rfl
                    show ex_q (dt_fg L ρ) rc (d + 3, (2, 180, [some (eR a0), some (eI (i59)), some (eI (0))], []), f :: F, m100)
                    obtain ⟨v104, e105⟩ : ∃ zz : Int, zz = (i59) + (1) := ⟨_, rfl⟩
                    have b106 : 1 ≤ v104 ∧ v104 ≤ 64 := by omega
                    refine w_t (np := 183) (l2 := [some (eR a0), some (eI (v104)), some (eI (0))]) (s2 := []) rfl (b_iinc rfl (by rw [← e105]; exact ev_w_in (by omega) (by omega)) rfl) rfl ?_
                    refine w_go (t1 := 95) rfl rfl ?_
                    exact ih58 (512 - (v104)).toNat (by omega) m100 (v104) (some (eI (0))) I101 F103 (by omega) (F102.k (W95.addr (W86.slot k65 (by decide)) b90 gA0 (by decide)) gA0 (by decide) rfl) (F102.k (W95.addr (W86.addr k66 gA0 b3 (by decide)) b90 b3 (by decide)) b3 (by decide) rfl) (F102.k (W95.addr (W86.addr k67 gA0 b7 (by decide)) b90 b7 (by decide)) b7 (by decide) rfl) (F102.k (W95.addr (W86.slot k68 (by decide)) b90 gA0 (by decide)) gA0 (by decide) rfl) (F102.k (W95.addr (W86.addr k69 gA0 b3 (by decide)) b90 b3 (by decide)) b3 (by decide) rfl)    rfl
                  · have b80 : 10 ≤ v76 ∧ v76 ≤ 10 := by omega
                    refine w_t (np := 115) (l2 := [some (eR a0), some (eI (i59)), o61]) (s2 := [eI (1)]) rfl rfl rfl ?_
                    refine w_go (t1 := 119) rfl rfl ?_
                    refine w_t (np := 120) (l2 := [some (eR a0), some (eI (i59)), some (eI (1))]) (s2 := []) rfl rfl rfl ?_
                    refine w_t (np := 121) (l2 := [some (eR a0), some (eI (i59)), some (eI (1))]) (s2 := [eR a0]) rfl (s_an rfl (pos_g I63 gA0 (by decide))) rfl ?_
                    refine w_t (np := 122) (l2 := [some (eR a0), some (eI (i59)), some (eI (1))]) (s2 := [eR a0, eR a0]) rfl rfl rfl ?_
                    refine j_gi (np := 125) rfl rfl rfl I63 gA0 (by decide) (n := 10) rfl rfl (lo := -2147483648) (hi := 2147483647) rfl ?_
                    intro v80 e81 b82
                    refine w_t (np := 126) (l2 := [some (eR a0), some (eI (i59)), some (eI (1))]) (s2 := [eI (1), eI (v80), eR a0]) rfl rfl rfl ?_
                    refine b_ieq (t1 := 133) (t2 := 129) rfl rfl rfl rfl (fun g83 => absurd g83 (by decide)) (fun g83 => ?_)
                    refine w_t (np := 130) (l2 := [some (eR a0), some (eI (i59)), some (eI (1))]) (s2 := [eI (1), eI (v80), eR a0]) rfl rfl rfl ?_
                    refine w_go (t1 := 134) rfl rfl ?_
                    obtain ⟨v84, e85, b86⟩ : ∃ zz : Int, ev_w ((v80) + (1)) = zz ∧ (-2147483648 ≤ zz ∧ zz ≤ 2147483647) := ⟨_, rfl, hw_bd _⟩
                    refine w_t (np := 135) (l2 := [some (eR a0), some (eI (i59)), some (eI (1))]) (s2 := [eI (v84), eR a0]) rfl (b_iadd e85) rfl ?_
                    refine j_pf (np := 138) (w := v84) rfl rfl I63 gA0 (by decide) (n := 10) rfl rfl (hO_i (lo := -2147483648) (hi := 2147483647) rfl (by omega)) ?_
                    intro m87 I88 W89
                    have F90 : Fr l_2 0 0 g μ m87 := F64.w W89 gA0 rfl
                    refine w_t (np := 139) (l2 := [some (eR a0), some (eI (i59)), some (eI (1))]) (s2 := [eR a0]) rfl (s_an rfl (pos_g I88 gA0 (by decide))) rfl ?_
                    refine j_gr (np := 142) rfl rfl I88 gA0 (by decide) (n := 10) rfl rfl rfl ?_
                    intro v91 e92 b93 z94
                    have b93 : g v91 = 46 := Nat.eq_of_beq_eq_true b93
                    refine w_t (np := 143) (l2 := [some (eR a0), some (eI (i59)), some (eI (1))]) (s2 := [eI (i59), eR v91]) rfl rfl rfl ?_
                    refine w_t (np := 144) (l2 := [some (eR a0), some (eI (i59)), some (eI (1))]) (s2 := [eI (1), eI (i59), eR v91]) rfl rfl rfl ?_
                    refine b_ieq (t1 := 168) (t2 := 147) rfl rfl rfl rfl (fun g95 => absurd g95 (by decide)) (fun g95 => ?_)
                    refine w_t (np := 148) (l2 := [some (eR a0), some (eI (i59)), some (eI (1))]) (s2 := [eR a0, eI (i59), eR v91]) rfl (s_an rfl (pos_g I88 gA0 (by decide))) rfl ?_
                    refine j_gr (np := 151) rfl rfl I88 gA0 (by decide) (n := 10) rfl rfl rfl ?_
                    intro v96 e97 b98 z99
                    have b98 : g v96 = 45 := Nat.eq_of_beq_eq_true b98
                    refine w_t (np := 152) (l2 := [some (eR a0), some (eI (i59)), some (eI (1))]) (s2 := [eI (i59), eR v96, eI (i59), eR v91]) rfl rfl rfl ?_
                    refine j_b3 (np := 153) rfl rfl I88 b98 (by decide) (n := 512) rfl rfl (lo := 0) (hi := 1) (fun _ => rfl) (by omega) (by omega) ?_
                    intro v100 e101 b102
                    refine b_ine (t1 := 168) (t2 := 156) rfl rfl rfl (ev_w_in (by omega) (by omega)) (fun g103 => ?_) (fun g103 => ?_)
                    · have b104 : 1 ≤ v100 ∧ v100 ≤ 1 := by omega
                      refine w_t (np := 169) (l2 := [some (eR a0), some (eI (i59)), some (eI (1))]) (s2 := [eI (-1), eI (i59), eR v91]) rfl rfl rfl ?_
                      refine j_as (np := 170) rfl rfl I88 b93 (by decide) (n := 512) rfl rfl (lo := -2147483648) (hi := 2147483647) (fun _ => rfl) (by omega) (by omega) (by decide) ?_
                      intro m104 I105 W106
                      have F107 : Fr l_2 0 0 g μ m104 := F90.v W106 b93 rfl rfl
                      refine w_t (np := 171) (l2 := [some (eR a0), some (eI (i59)), some (eI (1))]) (s2 := [eR a0]) rfl (s_an rfl (pos_g I105 gA0 (by decide))) rfl ?_
                      refine w_t (np := 172) (l2 := [some (eR a0), some (eI (i59)), some (eI (1))]) (s2 := [eR a0, eR a0]) rfl (s_an rfl (pos_g I105 gA0 (by decide))) rfl ?_
                      refine w_gf (np := 175) (v := eR v91) rfl rfl (I105.kd gA0 (by decide) (n := 10) rfl) (by rw [(W106.addr e92 b93 gA0 (by decide))]; rfl) ?_
                      refine w_t (np := 176) (l2 := [some (eR a0), some (eI (i59)), some (eI (1))]) (s2 := [eI (i59), eR v91, eR a0]) rfl rfl rfl ?_
                      refine j_al (np := 177) rfl rfl I105 b93 (by decide) (n := 512) rfl rfl (lo := -2147483648) (hi := 2147483647) (fun _ => rfl) (by omega) (by omega) ?_
                      intro v108 e109 b110
                      refine w_cw (np := 180) (as := [eI (v108)]) (l2 := [some (eR a0), some (eI (v108)), none, none]) (rest := []) rfl rfl rfl (Nat.ble_eq.mp rfl) rfl rfl rfl (I105.kd gA0 (by decide) (n := 10) rfl) rfl ?_
                      refine s_6 (a1 := v108) I105 gA0 (by omega) ?_
                      intro m111 I112 F113
                      have F114 : Fr l_2 0 0 g μ m111 := F107.t F113 rfl
                      show ex_q (dt_fg L ρ) rc (d + 3, (2, 180, [some (eR a0), some (eI (i59)), some (eI (1))], []), f :: F, m111)
                      obtain ⟨v115, e116⟩ : ∃ zz : Int, zz = (i59) + (1) := ⟨_, rfl⟩
                      have b117 : 1 ≤ v115 ∧ v115 ≤ 64 := by omega
                      refine w_t (np := 183) (l2 := [some (eR a0), some (eI (v115)), some (eI (1))]) (s2 := []) rfl (b_iinc rfl (by rw [← e116]; exact ev_w_in (by omega) (by omega)) rfl) rfl ?_
                      refine w_go (t1 := 95) rfl rfl ?_
                      exact ih58 (512 - (v115)).toNat (by omega) m111 (v115) (some (eI (1))) I112 F114 (by omega) (F113.k (W106.addr (W89.slot k65 (by decide)) b93 gA0 (by decide)) gA0 (by decide) rfl) (F113.k (W106.addr (W89.addr k66 gA0 b3 (by decide)) b93 b3 (by decide)) b3 (by decide) rfl) (F113.k (W106.addr (W89.addr k67 gA0 b7 (by decide)) b93 b7 (by decide)) b7 (by decide) rfl) (F113.k (W106.addr (W89.slot k68 (by decide)) b93 gA0 (by decide)) gA0 (by decide) rfl) (F113.k (W106.addr (W89.addr k69 gA0 b3 (by decide)) b93 b3 (by decide)) b3 (by decide) rfl)    rfl
                    · have b104 : 0 ≤ v100 ∧ v100 ≤ 0 := by omega
                      refine w_t (np := 157) (l2 := [some (eR a0), some (eI (i59)), some (eI (1))]) (s2 := [eR a0, eI (i59), eR v91]) rfl (s_an rfl (pos_g I88 gA0 (by decide))) rfl ?_
                      refine j_gr (np := 160) rfl rfl I88 gA0 (by decide) (n := 10) rfl rfl rfl ?_
                      intro v104 e105 b106 z107
                      have b106 : g v104 = 44 := Nat.eq_of_beq_eq_true b106
                      refine w_t (np := 161) (l2 := [some (eR a0), some (eI (i59)), some (eI (1))]) (s2 := [eI (i59), eR v104, eI (i59), eR v91]) rfl rfl rfl ?_
                      refine j_ll (np := 162) rfl rfl I88 b106 (by decide) (n := 512) rfl rfl (lo := -9223372036854775808) (hi := 9223372036854775807) (fun _ => rfl) (by omega) (by omega) ?_
                      intro v108 e109 b110
                      refine w_cu (np := 165) (as := [eJ (v108)]) (l2 := [some (eJ (v108)), none, none, none, none, none, none]) (rest := [eI (i59), eR v91]) rfl rfl rfl (Nat.ble_eq.mp rfl) rfl rfl rfl rfl ?_
                      refine s_5 I88 b110 ?_
                      intro v111 b112
                      show ex_q (dt_fg L ρ) rc (d + 3, (2, 165, [some (eR a0), some (eI (i59)), some (eI (1))], [eI (v111), eI (i59), eR v91]), f :: F, m87)
                      refine w_go (t1 := 169) rfl rfl ?_
                      refine j_as (np := 170) rfl rfl I88 b93 (by decide) (n := 512) rfl rfl (lo := -2147483648) (hi := 2147483647) (fun _ => rfl) (by omega) (by omega) (by omega) ?_
                      intro m113 I114 W115
                      have F116 : Fr l_2 0 0 g μ m113 := F90.v W115 b93 rfl rfl
                      refine w_t (np := 171) (l2 := [some (eR a0), some (eI (i59)), some (eI (1))]) (s2 := [eR a0]) rfl (s_an rfl (pos_g I114 gA0 (by decide))) rfl ?_
                      refine w_t (np := 172) (l2 := [some (eR a0), some (eI (i59)), some (eI (1))]) (s2 := [eR a0, eR a0]) rfl (s_an rfl (pos_g I114 gA0 (by decide))) rfl ?_
                      refine w_gf (np := 175) (v := eR v91) rfl rfl (I114.kd gA0 (by decide) (n := 10) rfl) (by rw [(W115.addr e92 b93 gA0 (by decide))]; rfl) ?_
                      refine w_t (np := 176) (l2 := [some (eR a0), some (eI (i59)), some (eI (1))]) (s2 := [eI (i59), eR v91, eR a0]) rfl rfl rfl ?_
                      refine j_al (np := 177) rfl rfl I114 b93 (by decide) (n := 512) rfl rfl (lo := -2147483648) (hi := 2147483647) (fun _ => rfl) (by omega) (by omega) ?_
                      intro v117 e118 b119
                      refine w_cw (np := 180) (as := [eI (v117)]) (l2 := [some (eR a0), some (eI (v117)), none, none]) (rest := []) rfl rfl rfl (Nat.ble_eq.mp rfl) rfl rfl rfl (I114.kd gA0 (by decide) (n := 10) rfl) rfl ?_
                      refine s_6 (a1 := v117) I114 gA0 (by omega) ?_
                      intro m120 I121 F122
                      have F123 : Fr l_2 0 0 g μ m120 := F116.t F122 rfl
                      show ex_q (dt_fg L ρ) rc (d + 3, (2, 180, [some (eR a0), some (eI (i59)), some (eI (1))], []), f :: F, m120)
                      obtain ⟨v124, e125⟩ : ∃ zz : Int, zz = (i59) + (1) := ⟨_, rfl⟩
                      have b126 : 1 ≤ v124 ∧ v124 ≤ 64 := by omega
                      refine w_t (np := 183) (l2 := [some (eR a0), some (eI (v124)), some (eI (1))]) (s2 := []) rfl (b_iinc rfl (by rw [← e125]; exact ev_w_in (by omega) (by omega)) rfl) rfl ?_
                      refine w_go (t1 := 95) rfl rfl ?_
                      exact ih58 (512 - (v124)).toNat (by omega) m120 (v124) (some (eI (1))) I121 F123 (by omega) (F122.k (W115.addr (W89.slot k65 (by decide)) b93 gA0 (by decide)) gA0 (by decide) rfl) (F122.k (W115.addr (W89.addr k66 gA0 b3 (by decide)) b93 b3 (by decide)) b3 (by decide) rfl) (F122.k (W115.addr (W89.addr k67 gA0 b7 (by decide)) b93 b7 (by decide)) b7 (by decide) rfl) (F122.k (W115.addr (W89.slot k68 (by decide)) b93 gA0 (by decide)) gA0 (by decide) rfl) (F122.k (W115.addr (W89.addr k69 gA0 b3 (by decide)) b93 b3 (by decide)) b3 (by decide) rfl)    rfl
              exact hL95 _ m43 (0) (none) I44 F45 (by decide) k46 k47 k48 k49 e54    rfl
            · have b57 : 0 ≤ i41 ∧ i41 ≤ 49 := by omega
              have b58 : 1 ≤ v53 ∧ v53 ≤ 50 := by omega
              refine w_t (np := 75) (l2 := [some (eR a0), some (eI (i41)), none]) (s2 := [eR a0]) rfl (s_an rfl (pos_g I44 gA0 (by decide))) rfl ?_
              refine w_t (np := 76) (l2 := [some (eR a0), some (eI (i41)), none]) (s2 := [eI (i41), eR a0]) rfl rfl rfl ?_
              refine w_t (np := 77) (l2 := [some (eR a0), some (eI (i41)), none]) (s2 := [eR a0, eI (i41), eR a0]) rfl (s_an rfl (pos_g I44 gA0 (by decide))) rfl ?_
              refine j_gr (np := 80) rfl rfl I44 gA0 (by decide) (n := 10) rfl rfl rfl ?_
              intro v57 e58 b59 z60
              have b59 : g v57 = 35 := Nat.eq_of_beq_eq_true b59
              refine w_t (np := 81) (l2 := [some (eR a0), some (eI (i41)), none]) (s2 := [eI (i41), eR v57, eI (i41), eR a0]) rfl rfl rfl ?_
              refine w_cw (np := 84) (as := [eI (i41)]) (l2 := [some (eR v57), some (eI (i41)), none, none]) (rest := [eI (i41), eR a0]) rfl rfl rfl (Nat.ble_eq.mp rfl) rfl rfl rfl (I44.kd b59 (by decide) (n := 15) rfl) rfl ?_
              refine s_117 (a1 := i41) I44 b59 (by omega) ?_
              intro v61 b62
              show ex_q (dt_fg L ρ) rc (d + 3, (2, 84, [some (eR a0), some (eI (i41)), none], [eI (v61), eI (i41), eR a0]), f :: F, m43)
              refine w_cw (np := 87) (as := [eI (i41), eI (v61)]) (l2 := [some (eR a0), some (eI (i41)), some (eI (v61)), none, none, none, none, none]) (rest := []) rfl rfl rfl (Nat.ble_eq.mp rfl) rfl rfl rfl (I44.kd gA0 (by decide) (n := 10) rfl) rfl ?_
              refine s_3 (a1 := i41) (a2 := v61) I44 gA0 (by omega) (by omega) ?_
              intro m63 I64 F65
              have F66 : Fr l_2 0 0 g μ m63 := F45.t F65 rfl
              show ex_q (dt_fg L ρ) rc (d + 3, (2, 87, [some (eR a0), some (eI (i41)), none], []), f :: F, m63)
              obtain ⟨v67, e68⟩ : ∃ zz : Int, zz = (i41) + (1) := ⟨_, rfl⟩
              have b69 : 1 ≤ v67 ∧ v67 ≤ 50 := by omega
              refine w_t (np := 90) (l2 := [some (eR a0), some (eI (v67)), none]) (s2 := []) rfl (b_iinc rfl (by rw [← e68]; exact ev_w_in (by omega) (by omega)) rfl) rfl ?_
              refine w_go (t1 := 63) rfl rfl ?_
              exact ih40 (890 - (v67)).toNat (by omega) m63 (v67) I64 F66 (by omega) (F65.k k46 gA0 (by decide) rfl) (F65.k k47 b3 (by decide) rfl) (F65.k k48 b7 (by decide) rfl) (F65.k k49 gA0 (by decide) rfl) (F65.k k50 gA0 (by decide) rfl) (F65.k k51 gA0 (by decide) rfl)    rfl
          exact hL63 _ m28 (0) I29 F30 (by decide) k31 k32 k33 k34 k35 k36    rfl
        · have b39 : 0 ≤ i26 ∧ i26 ≤ 63 := by omega
          have b40 : 1 ≤ v9 ∧ v9 ≤ 64 := by omega
          refine w_t (np := 35) (l2 := [some (eR a0), some (eI (i26)), none]) (s2 := [eR a0]) rfl (s_an rfl (pos_g I29 gA0 (by decide))) rfl ?_
          refine j_gr (np := 38) rfl rfl I29 gA0 (by decide) (n := 10) rfl rfl rfl ?_
          intro v39 e40 b41 z42
          have b41 : g v39 = 43 := Nat.eq_of_beq_eq_true b41
          refine w_t (np := 39) (l2 := [some (eR a0), some (eI (i26)), none]) (s2 := [eI (i26), eR v39]) rfl rfl rfl ?_
          refine w_t (np := 40) (l2 := [some (eR a0), some (eI (i26)), none]) (s2 := [eI (0), eI (i26), eR v39]) rfl rfl rfl ?_
          refine j_as (np := 41) rfl rfl I29 b41 (by decide) (n := 512) rfl rfl (lo := -2147483648) (hi := 2147483647) (fun _ => rfl) (by omega) (by omega) (by decide) ?_
          intro m43 I44 W45
          have F46 : Fr l_2 0 0 g μ m43 := F30.v W45 b41 rfl rfl
          refine w_t (np := 42) (l2 := [some (eR a0), some (eI (i26)), none]) (s2 := [eR a0]) rfl (s_an rfl (pos_g I44 gA0 (by decide))) rfl ?_
          refine j_gr (np := 45) rfl rfl I44 gA0 (by decide) (n := 10) rfl rfl rfl ?_
          intro v47 e48 b49 z50
          have b49 : g v47 = 44 := Nat.eq_of_beq_eq_true b49
          refine w_t (np := 46) (l2 := [some (eR a0), some (eI (i26)), none]) (s2 := [eI (i26), eR v47]) rfl rfl rfl ?_
          refine w_t (np := 47) (l2 := [some (eR a0), some (eI (i26)), none]) (s2 := [eJ (0), eI (i26), eR v47]) rfl rfl rfl ?_
          refine j_sl (np := 48) rfl rfl I44 b49 (by decide) (n := 512) rfl rfl (lo := -9223372036854775808) (hi := 9223372036854775807) (fun _ => rfl) (by omega) (by omega) (by decide) ?_
          intro m51 I52 W53
          have F54 : Fr l_2 0 0 g μ m51 := F46.v W53 b49 rfl rfl
          refine w_t (np := 49) (l2 := [some (eR a0), some (eI (i26)), none]) (s2 := [eR a0]) rfl (s_an rfl (pos_g I52 gA0 (by decide))) rfl ?_
          refine j_gr (np := 52) rfl rfl I52 gA0 (by decide) (n := 10) rfl rfl rfl ?_
          intro v55 e56 b57 z58
          have b57 : g v55 = 45 := Nat.eq_of_beq_eq_true b57
          refine w_t (np := 53) (l2 := [some (eR a0), some (eI (i26)), none]) (s2 := [eI (i26), eR v55]) rfl rfl rfl ?_
          refine w_t (np := 54) (l2 := [some (eR a0), some (eI (i26)), none]) (s2 := [eI (0), eI (i26), eR v55]) rfl rfl rfl ?_
          refine j_sb3 (np := 55) rfl rfl I52 b57 (by decide) (n := 512) rfl rfl (lo := 0) (hi := 1) (fun _ => rfl) (by omega) (by omega) (by decide) (by decide) ?_
          intro m59 I60 W61
          have F62 : Fr l_2 0 0 g μ m59 := F54.v W61 b57 rfl rfl
          obtain ⟨v63, e64⟩ : ∃ zz : Int, zz = (i26) + (1) := ⟨_, rfl⟩
          have b65 : 1 ≤ v63 ∧ v63 ≤ 64 := by omega
          refine w_t (np := 58) (l2 := [some (eR a0), some (eI (v63)), none]) (s2 := []) rfl (b_iinc rfl (by rw [← e64]; exact ev_w_in (by omega) (by omega)) rfl) rfl ?_
          refine w_go (t1 := 26) rfl rfl ?_
          exact ih25 (512 - (v63)).toNat (by omega) m59 (v63) I60 F62 (by omega) (W61.addr (W53.addr (W45.addr k31 b41 gA0 (by decide)) b49 gA0 (by decide)) b57 gA0 (by decide)) (W61.addr (W53.addr (W45.addr k32 b41 b3 (by decide)) b49 b3 (by decide)) b57 b3 (by decide)) (W61.addr (W53.addr (W45.addr k33 b41 b7 (by decide)) b49 b7 (by decide)) b57 b7 (by decide)) (W61.addr (W53.addr (W45.addr k34 b41 gA0 (by decide)) b49 gA0 (by decide)) b57 gA0 (by decide)) (W61.addr (W53.addr (W45.addr k35 b41 gA0 (by decide)) b49 gA0 (by decide)) b57 gA0 (by decide)) (W61.addr (W53.addr (W45.addr k36 b41 gA0 (by decide)) b49 gA0 (by decide)) b57 gA0 (by decide))    rfl
      exact hL26 _ m20 (0) I21 F23 (by decide) (W22.slot (W18.slot (W14.slot e2 (by decide)) (by decide)) (by decide)) (W22.addr (W18.addr (W14.addr e6 gA0 b3 (by decide)) gA0 b3 (by decide)) gA0 b3 (by decide)) (W22.addr (W18.addr (W14.addr e10 gA0 b7 (by decide)) gA0 b7 (by decide)) gA0 b7 (by decide)) (W22.slot (W18.slot W14.at (by decide)) (by decide)) (W22.slot W18.at (by decide)) W22.at    rfl
    · refine j_gi (np := 11) rfl rfl rfl hI b7 (by decide) (n := 3) rfl rfl (lo := 0) (hi := 512) rfl ?_
      intro v9 e10 b11
      refine j_pf (np := 14) (w := v9) rfl rfl hI gA0 (by decide) (n := 10) rfl rfl (hO_i (lo := 0) (hi := 512) rfl (by omega)) ?_
      intro m12 I13 W14
      have F15 : Fr l_2 0 0 g μ m12 := F0.w W14 gA0 rfl
      refine w_t (np := 15) (l2 := [some (eR a0), none, none]) (s2 := [eR a0]) rfl (s_an rfl (pos_g I13 gA0 (by decide))) rfl ?_
      refine w_t (np := 16) (l2 := [some (eR a0), none, none]) (s2 := [eI (0), eR a0]) rfl rfl rfl ?_
      refine j_pf (np := 19) (w := 0) rfl rfl I13 gA0 (by decide) (n := 10) rfl rfl (hO_i (lo := -2147483648) (hi := 2147483647) rfl (by decide)) ?_
      intro m16 I17 W18
      have F19 : Fr l_2 0 0 g μ m16 := F15.w W18 gA0 rfl
      refine w_t (np := 20) (l2 := [some (eR a0), none, none]) (s2 := [eR a0]) rfl (s_an rfl (pos_g I17 gA0 (by decide))) rfl ?_
      refine w_t (np := 21) (l2 := [some (eR a0), none, none]) (s2 := [eI (0), eR a0]) rfl rfl rfl ?_
      refine j_pf (np := 24) (w := 0) rfl rfl I17 gA0 (by decide) (n := 10) rfl rfl (hO_i (lo := 0) (hi := 64) rfl (by decide)) ?_
      intro m20 I21 W22
      have F23 : Fr l_2 0 0 g μ m20 := F19.w W22 gA0 rfl
      refine w_t (np := 25) (l2 := [some (eR a0), none, none]) (s2 := [eI (0)]) rfl rfl rfl ?_
      refine w_t (np := 26) (l2 := [some (eR a0), some (eI (0)), none]) (s2 := []) rfl rfl rfl ?_
      have hL26 : ∀ (n24 : Nat) (m28 : eM) (i26 : Int), SI g m28 → Fr l_2 0 0 g μ m28 → (0 ≤ i26 ∧ i26 ≤ 512) → m28.1 a0 5 = ((v1 : Nat) : Int) → m28.1 v1 4 = ((v5 : Nat) : Int) → m28.1 v5 2 = v9 → m28.1 a0 7 = v9 → m28.1 a0 8 = 0 → m28.1 a0 9 = 0 → n24 = (512 - i26).toNat → ex_q (dt_fg L ρ) rc (d + 3, (2, 26, [some (eR a0), some (eI (i26)), none], []), f :: F, m28) := by
        intro n24
        induction n24 using Nat.strongRecOn with
        | _ n24 ih25 =>
        intro m28 i26 I29 F30 b27 k31 k32 k33 k34 k35 k36 hn37
        refine w_t (np := 27) (l2 := [some (eR a0), some (eI (i26)), none]) (s2 := [eI (i26)]) rfl rfl rfl ?_
        refine w_t (np := 28) (l2 := [some (eR a0), some (eI (i26)), none]) (s2 := [eR a0, eI (i26)]) rfl (s_an rfl (pos_g I29 gA0 (by decide))) rfl ?_
        refine w_gf (np := 31) (v := eI (v9)) rfl rfl (I29.kd gA0 (by decide) (n := 10) rfl) (by rw [k34]; rfl) ?_
        refine b_cge (t1 := 61) (t2 := 34) rfl rfl rfl (ev_w_in (by omega) (by omega)) (ev_w_in (by omega) (by omega)) (fun g38 => ?_) (fun g38 => ?_)
        · refine w_t (np := 62) (l2 := [some (eR a0), some (eI (i26)), none]) (s2 := [eI (0)]) rfl rfl rfl ?_
          refine w_t (np := 63) (l2 := [some (eR a0), some (eI (0)), none]) (s2 := []) rfl rfl rfl ?_
          have hL63 : ∀ (n39 : Nat) (m43 : eM) (i41 : Int), SI g m43 → Fr l_2 0 0 g μ m43 → (0 ≤ i41 ∧ i41 ≤ 890) → m43.1 a0 5 = ((v1 : Nat) : Int) → m43.1 v1 4 = ((v5 : Nat) : Int) → m43.1 v5 2 = v9 → m43.1 a0 7 = v9 → m43.1 a0 8 = 0 → m43.1 a0 9 = 0 → n39 = (890 - i41).toNat → ex_q (dt_fg L ρ) rc (d + 3, (2, 63, [some (eR a0), some (eI (i41)), none], []), f :: F, m43) := by
            intro n39
            induction n39 using Nat.strongRecOn with
            | _ n39 ih40 =>
            intro m43 i41 I44 F45 b42 k46 k47 k48 k49 k50 k51 hn52
            refine w_t (np := 64) (l2 := [some (eR a0), some (eI (i41)), none]) (s2 := [eI (i41)]) rfl rfl rfl ?_
            refine w_t (np := 65) (l2 := [some (eR a0), some (eI (i41)), none]) (s2 := [eR a0, eI (i41)]) rfl (s_an rfl (pos_g I44 gA0 (by decide))) rfl ?_
            refine w_gf (np := 68) (v := eR v1) rfl rfl (I44.kd gA0 (by decide) (n := 10) rfl) (by rw [k46]; rfl) ?_
            refine j_gi (np := 71) rfl rfl rfl I44 b3 (by decide) (n := 8) rfl rfl (lo := 0) (hi := 50) rfl ?_
            intro v53 e54 b55
            refine b_cge (t1 := 93) (t2 := 74) rfl rfl rfl (ev_w_in (by omega) (by omega)) (ev_w_in (by omega) (by omega)) (fun g56 => ?_) (fun g56 => ?_)
            · refine w_t (np := 94) (l2 := [some (eR a0), some (eI (i41)), none]) (s2 := [eI (0)]) rfl rfl rfl ?_
              refine w_t (np := 95) (l2 := [some (eR a0), some (eI (0)), none]) (s2 := []) rfl rfl rfl ?_
              have hL95 : ∀ (n57 : Nat) (m62 : eM) (i59 : Int) (o61 : Option eV), SI g m62 → Fr l_2 0 0 g μ m62 → (0 ≤ i59 ∧ i59 ≤ 512) → m62.1 a0 5 = ((v1 : Nat) : Int) → m62.1 v1 4 = ((v5 : Nat) : Int) → m62.1 v5 2 = v9 → m62.1 a0 7 = v9 → m62.1 v1 7 = v53 → n57 = (512 - i59).toNat → ex_q (dt_fg L ρ) rc (d + 3, (2, 95, [some (eR a0), some (eI (i59)), o61], []), f :: F, m62) := by
                intro n57
                induction n57 using Nat.strongRecOn with
                | _ n57 ih58 =>
                intro m62 i59 o61 I63 F64 b60 k65 k66 k67 k68 k69 hn70
                refine w_t (np := 96) (l2 := [some (eR a0), some (eI (i59)), o61]) (s2 := [eI (i59)]) rfl rfl rfl ?_
                refine w_t (np := 97) (l2 := [some (eR a0), some (eI (i59)), o61]) (s2 := [eR a0, eI (i59)]) rfl (s_an rfl (pos_g I63 gA0 (by decide))) rfl ?_
                refine w_gf (np := 100) (v := eI (v9)) rfl rfl (I63.kd gA0 (by decide) (n := 10) rfl) (by rw [k68]; rfl) ?_
                refine b_cge (t1 := 186) (t2 := 103) rfl rfl rfl (ev_w_in (by omega) (by omega)) (ev_w_in (by omega) (by omega)) (fun g71 => ?_) (fun g71 => ?_)
                · exact v_rv rfl rfl (K m62 I63 F64)
                · have b72 : 0 ≤ i59 ∧ i59 ≤ 511 := by omega
                  have b73 : 1 ≤ v9 ∧ v9 ≤ 512 := by omega
                  refine w_t (np := 104) (l2 := [some (eR a0), some (eI (i59)), o61]) (s2 := [eR a0]) rfl (s_an rfl (pos_g I63 gA0 (by decide))) rfl ?_
                  refine j_gr (np := 107) rfl rfl I63 gA0 (by decide) (n := 10) rfl rfl rfl ?_
                  intro v72 e73 b74 z75
                  have b74 : g v72 = 43 := Nat.eq_of_beq_eq_true b74
                  refine w_t (np := 108) (l2 := [some (eR a0), some (eI (i59)), o61]) (s2 := [eI (i59), eR v72]) rfl rfl rfl ?_
                  refine j_al (np := 109) rfl rfl I63 b74 (by decide) (n := 512) rfl rfl (lo := -2147483648) (hi := 2147483647) (fun _ => rfl) (by omega) (by omega) ?_
                  intro v76 e77 b78
                  refine w_t (np := 111) (l2 := [some (eR a0), some (eI (i59)), o61]) (s2 := [eI (10), eI (v76)]) rfl rfl rfl ?_
                  refine b_cne (t1 := 118) (t2 := 114) rfl rfl rfl (ev_w_in (by omega) (by omega)) rfl (fun g79 => ?_) (fun g79 => ?_)
                  · refine w_t (np := 119) (l2 := [some (eR a0), some (eI (i59)), o61]) (s2 := [eI (0)]) rfl rfl rfl ?_
                    refine w_t (np := 120) (l2 := [some (eR a0), some (eI (i59)), some (eI (0))]) (s2 := []) rfl rfl rfl ?_
                    refine w_t (np := 121) (l2 := [some (eR a0), some (eI (i59)), some (eI (0))]) (s2 := [eR a0]) rfl (s_an rfl (pos_g I63 gA0 (by decide))) rfl ?_
                    refine w_t (np := 122) (l2 := [some (eR a0), some (eI (i59)), some (eI (0))]) (s2 := [eR a0, eR a0]) rfl rfl rfl ?_
                    refine j_gi (np := 125) rfl rfl rfl I63 gA0 (by decide) (n := 10) rfl rfl (lo := -2147483648) (hi := 2147483647) rfl ?_
                    intro v80 e81 b82
                    refine w_t (np := 126) (l2 := [some (eR a0), some (eI (i59)), some (eI (0))]) (s2 := [eI (0), eI (v80), eR a0]) rfl rfl rfl ?_
                    refine b_ieq (t1 := 133) (t2 := 129) rfl rfl rfl rfl (fun g83 => ?_) (fun g83 => absurd g83 (by decide))
                    refine w_t (np := 134) (l2 := [some (eR a0), some (eI (i59)), some (eI (0))]) (s2 := [eI (0), eI (v80), eR a0]) rfl rfl rfl ?_
                    refine w_t (np := 135) (l2 := [some (eR a0), some (eI (i59)), some (eI (0))]) (s2 := [eI (v80), eR a0]) rfl (b_iadd (by rw [Int.add_zero]; exact ev_w_in (by omega) (by omega))) rfl ?_
                    refine j_pf (np := 138) (w := v80) rfl rfl I63 gA0 (by decide) (n := 10) rfl rfl (hO_i (lo := -2147483648) (hi := 2147483647) rfl (by omega)) ?_
                    intro m84 I85 W86
                    have F87 : Fr l_2 0 0 g μ m84 := F64.w W86 gA0 rfl
                    refine w_t (np := 139) (l2 := [some (eR a0), some (eI (i59)), some (eI (0))]) (s2 := [eR a0]) rfl (s_an rfl (pos_g I85 gA0 (by decide))) rfl ?_
                    refine j_gr (np := 142) rfl rfl I85 gA0 (by decide) (n := 10) rfl rfl rfl ?_
                    intro v88 e89 b90 z91
                    have b90 : g v88 = 46 := Nat.eq_of_beq_eq_true b90
                    refine w_t (np := 143) (l2 := [some (eR a0), some (eI (i59)), some (eI (0))]) (s2 := [eI (i59), eR v88]) rfl rfl rfl ?_
                    refine w_t (np := 144) (l2 := [some (eR a0), some (eI (i59)), some (eI (0))]) (s2 := [eI (0), eI (i59), eR v88]) rfl rfl rfl ?_
                    refine b_ieq (t1 := 168) (t2 := 147) rfl rfl rfl rfl (fun g92 => ?_) (fun g92 => absurd g92 (by decide))
                    refine w_t (np := 169) (l2 := [some (eR a0), some (eI (i59)), some (eI (0))]) (s2 := [eI (-1), eI (i59), eR v88]) rfl rfl rfl ?_
                    refine j_as (np := 170) rfl rfl I85 b90 (by decide) (n := 512) rfl rfl (lo := -2147483648) (hi := 2147483647) (fun _ => rfl) (by omega) (by omega) (by decide) ?_
                    intro m93 I94 W95
                    have F96 : Fr l_2 0 0 g μ m93 := F87.v W95 b90 rfl rfl
                    refine w_t (np := 171) (l2 := [some (eR a0), some (eI (i59)), some (eI (0))]) (s2 := [eR a0]) rfl (s_an rfl (pos_g I94 gA0 (by decide))) rfl ?_
                    refine w_t (np := 172) (l2 := [some (eR a0), some (eI (i59)), some (eI (0))]) (s2 := [eR a0, eR a0]) rfl (s_an rfl (pos_g I94 gA0 (by decide))) rfl ?_
                    refine w_gf (np := 175) (v := eR v88) rfl rfl (I94.kd gA0 (by decide) (n := 10) rfl) (by rw [(W95.addr e89 b90 gA0 (by decide))]; rfl) ?_
                    refine w_t (np := 176) (l2 := [some (eR a0), some (eI (i59)), some (eI (0))]) (s2 := [eI (i59), eR v88, eR a0]) rfl rfl rfl ?_
                    refine j_al (np := 177) rfl rfl I94 b90 (by decide) (n := 512) rfl rfl (lo := -2147483648) (hi := 2147483647) (fun _ => rfl) (by omega) (by omega) ?_
                    intro v97 e98 b99
                    refine w_cw (np := 180) (as := [eI (v97)]) (l2 := [some (eR a0), some (eI (v97)), none, none]) (rest := []) rfl rfl rfl (Nat.ble_eq.mp rfl) rfl rfl rfl (I94.kd gA0 (by decide) (n := 10) rfl) rfl ?_
                    refine s_6 (a1 := v97) I94 gA0 (by omega) ?_
                    intro m100 I101 F102
                    have F103 : Fr l_2 0 0 g μ m100 := F96.t F102 rfl
                    show ex_q (dt_fg L ρ) rc (d + 3, (2, 180, [some (eR a0), some (eI (i59)), some (eI (0))], []), f :: F, m100)
                    obtain ⟨v104, e105⟩ : ∃ zz : Int, zz = (i59) + (1) := ⟨_, rfl⟩
                    have b106 : 1 ≤ v104 ∧ v104 ≤ 512 := by omega
                    refine w_t (np := 183) (l2 := [some (eR a0), some (eI (v104)), some (eI (0))]) (s2 := []) rfl (b_iinc rfl (by rw [← e105]; exact ev_w_in (by omega) (by omega)) rfl) rfl ?_
                    refine w_go (t1 := 95) rfl rfl ?_
                    exact ih58 (512 - (v104)).toNat (by omega) m100 (v104) (some (eI (0))) I101 F103 (by omega) (F102.k (W95.addr (W86.slot k65 (by decide)) b90 gA0 (by decide)) gA0 (by decide) rfl) (F102.k (W95.addr (W86.addr k66 gA0 b3 (by decide)) b90 b3 (by decide)) b3 (by decide) rfl) (F102.k (W95.addr (W86.addr k67 gA0 b7 (by decide)) b90 b7 (by decide)) b7 (by decide) rfl) (F102.k (W95.addr (W86.slot k68 (by decide)) b90 gA0 (by decide)) gA0 (by decide) rfl) (F102.k (W95.addr (W86.addr k69 gA0 b3 (by decide)) b90 b3 (by decide)) b3 (by decide) rfl)    rfl
                  · have b80 : 10 ≤ v76 ∧ v76 ≤ 10 := by omega
                    refine w_t (np := 115) (l2 := [some (eR a0), some (eI (i59)), o61]) (s2 := [eI (1)]) rfl rfl rfl ?_
                    refine w_go (t1 := 119) rfl rfl ?_
                    refine w_t (np := 120) (l2 := [some (eR a0), some (eI (i59)), some (eI (1))]) (s2 := []) rfl rfl rfl ?_
                    refine w_t (np := 121) (l2 := [some (eR a0), some (eI (i59)), some (eI (1))]) (s2 := [eR a0]) rfl (s_an rfl (pos_g I63 gA0 (by decide))) rfl ?_
                    refine w_t (np := 122) (l2 := [some (eR a0), some (eI (i59)), some (eI (1))]) (s2 := [eR a0, eR a0]) rfl rfl rfl ?_
                    refine j_gi (np := 125) rfl rfl rfl I63 gA0 (by decide) (n := 10) rfl rfl (lo := -2147483648) (hi := 2147483647) rfl ?_
                    intro v80 e81 b82
                    refine w_t (np := 126) (l2 := [some (eR a0), some (eI (i59)), some (eI (1))]) (s2 := [eI (1), eI (v80), eR a0]) rfl rfl rfl ?_
                    refine b_ieq (t1 := 133) (t2 := 129) rfl rfl rfl rfl (fun g83 => absurd g83 (by decide)) (fun g83 => ?_)
                    refine w_t (np := 130) (l2 := [some (eR a0), some (eI (i59)), some (eI (1))]) (s2 := [eI (1), eI (v80), eR a0]) rfl rfl rfl ?_
                    refine w_go (t1 := 134) rfl rfl ?_
                    obtain ⟨v84, e85, b86⟩ : ∃ zz : Int, ev_w ((v80) + (1)) = zz ∧ (-2147483648 ≤ zz ∧ zz ≤ 2147483647) := ⟨_, rfl, hw_bd _⟩
                    refine w_t (np := 135) (l2 := [some (eR a0), some (eI (i59)), some (eI (1))]) (s2 := [eI (v84), eR a0]) rfl (b_iadd e85) rfl ?_
                    refine j_pf (np := 138) (w := v84) rfl rfl I63 gA0 (by decide) (n := 10) rfl rfl (hO_i (lo := -2147483648) (hi := 2147483647) rfl (by omega)) ?_
                    intro m87 I88 W89
                    have F90 : Fr l_2 0 0 g μ m87 := F64.w W89 gA0 rfl
                    refine w_t (np := 139) (l2 := [some (eR a0), some (eI (i59)), some (eI (1))]) (s2 := [eR a0]) rfl (s_an rfl (pos_g I88 gA0 (by decide))) rfl ?_
                    refine j_gr (np := 142) rfl rfl I88 gA0 (by decide) (n := 10) rfl rfl rfl ?_
                    intro v91 e92 b93 z94
                    have b93 : g v91 = 46 := Nat.eq_of_beq_eq_true b93
                    refine w_t (np := 143) (l2 := [some (eR a0), some (eI (i59)), some (eI (1))]) (s2 := [eI (i59), eR v91]) rfl rfl rfl ?_
                    refine w_t (np := 144) (l2 := [some (eR a0), some (eI (i59)), some (eI (1))]) (s2 := [eI (1), eI (i59), eR v91]) rfl rfl rfl ?_
                    refine b_ieq (t1 := 168) (t2 := 147) rfl rfl rfl rfl (fun g95 => absurd g95 (by decide)) (fun g95 => ?_)
                    refine w_t (np := 148) (l2 := [some (eR a0), some (eI (i59)), some (eI (1))]) (s2 := [eR a0, eI (i59), eR v91]) rfl (s_an rfl (pos_g I88 gA0 (by decide))) rfl ?_
                    refine j_gr (np := 151) rfl rfl I88 gA0 (by decide) (n := 10) rfl rfl rfl ?_
                    intro v96 e97 b98 z99
                    have b98 : g v96 = 45 := Nat.eq_of_beq_eq_true b98
                    refine w_t (np := 152) (l2 := [some (eR a0), some (eI (i59)), some (eI (1))]) (s2 := [eI (i59), eR v96, eI (i59), eR v91]) rfl rfl rfl ?_
                    refine j_b3 (np := 153) rfl rfl I88 b98 (by decide) (n := 512) rfl rfl (lo := 0) (hi := 1) (fun _ => rfl) (by omega) (by omega) ?_
                    intro v100 e101 b102
                    refine b_ine (t1 := 168) (t2 := 156) rfl rfl rfl (ev_w_in (by omega) (by omega)) (fun g103 => ?_) (fun g103 => ?_)
                    · have b104 : 1 ≤ v100 ∧ v100 ≤ 1 := by omega
                      refine w_t (np := 169) (l2 := [some (eR a0), some (eI (i59)), some (eI (1))]) (s2 := [eI (-1), eI (i59), eR v91]) rfl rfl rfl ?_
                      refine j_as (np := 170) rfl rfl I88 b93 (by decide) (n := 512) rfl rfl (lo := -2147483648) (hi := 2147483647) (fun _ => rfl) (by omega) (by omega) (by decide) ?_
                      intro m104 I105 W106
                      have F107 : Fr l_2 0 0 g μ m104 := F90.v W106 b93 rfl rfl
                      refine w_t (np := 171) (l2 := [some (eR a0), some (eI (i59)), some (eI (1))]) (s2 := [eR a0]) rfl (s_an rfl (pos_g I105 gA0 (by decide))) rfl ?_
                      refine w_t (np := 172) (l2 := [some (eR a0), some (eI (i59)), some (eI (1))]) (s2 := [eR a0, eR a0]) rfl (s_an rfl (pos_g I105 gA0 (by decide))) rfl ?_
                      refine w_gf (np := 175) (v := eR v91) rfl rfl (I105.kd gA0 (by decide) (n := 10) rfl) (by rw [(W106.addr e92 b93 gA0 (by decide))]; rfl) ?_
                      refine w_t (np := 176) (l2 := [some (eR a0), some (eI (i59)), some (eI (1))]) (s2 := [eI (i59), eR v91, eR a0]) rfl rfl rfl ?_
                      refine j_al (np := 177) rfl rfl I105 b93 (by decide) (n := 512) rfl rfl (lo := -2147483648) (hi := 2147483647) (fun _ => rfl) (by omega) (by omega) ?_
                      intro v108 e109 b110
                      refine w_cw (np := 180) (as := [eI (v108)]) (l2 := [some (eR a0), some (eI (v108)), none, none]) (rest := []) rfl rfl rfl (Nat.ble_eq.mp rfl) rfl rfl rfl (I105.kd gA0 (by decide) (n := 10) rfl) rfl ?_
                      refine s_6 (a1 := v108) I105 gA0 (by omega) ?_
                      intro m111 I112 F113
                      have F114 : Fr l_2 0 0 g μ m111 := F107.t F113 rfl
                      show ex_q (dt_fg L ρ) rc (d + 3, (2, 180, [some (eR a0), some (eI (i59)), some (eI (1))], []), f :: F, m111)
                      obtain ⟨v115, e116⟩ : ∃ zz : Int, zz = (i59) + (1) := ⟨_, rfl⟩
                      have b117 : 1 ≤ v115 ∧ v115 ≤ 512 := by omega
                      refine w_t (np := 183) (l2 := [some (eR a0), some (eI (v115)), some (eI (1))]) (s2 := []) rfl (b_iinc rfl (by rw [← e116]; exact ev_w_in (by omega) (by omega)) rfl) rfl ?_
                      refine w_go (t1 := 95) rfl rfl ?_
                      exact ih58 (512 - (v115)).toNat (by omega) m111 (v115) (some (eI (1))) I112 F114 (by omega) (F113.k (W106.addr (W89.slot k65 (by decide)) b93 gA0 (by decide)) gA0 (by decide) rfl) (F113.k (W106.addr (W89.addr k66 gA0 b3 (by decide)) b93 b3 (by decide)) b3 (by decide) rfl) (F113.k (W106.addr (W89.addr k67 gA0 b7 (by decide)) b93 b7 (by decide)) b7 (by decide) rfl) (F113.k (W106.addr (W89.slot k68 (by decide)) b93 gA0 (by decide)) gA0 (by decide) rfl) (F113.k (W106.addr (W89.addr k69 gA0 b3 (by decide)) b93 b3 (by decide)) b3 (by decide) rfl)    rfl
                    · have b104 : 0 ≤ v100 ∧ v100 ≤ 0 := by omega
                      refine w_t (np := 157) (l2 := [some (eR a0), some (eI (i59)), some (eI (1))]) (s2 := [eR a0, eI (i59), eR v91]) rfl (s_an rfl (pos_g I88 gA0 (by decide))) rfl ?_
                      refine j_gr (np := 160) rfl rfl I88 gA0 (by decide) (n := 10) rfl rfl rfl ?_
                      intro v104 e105 b106 z107
                      have b106 : g v104 = 44 := Nat.eq_of_beq_eq_true b106
                      refine w_t (np := 161) (l2 := [some (eR a0), some (eI (i59)), some (eI (1))]) (s2 := [eI (i59), eR v104, eI (i59), eR v91]) rfl rfl rfl ?_
                      refine j_ll (np := 162) rfl rfl I88 b106 (by decide) (n := 512) rfl rfl (lo := -9223372036854775808) (hi := 9223372036854775807) (fun _ => rfl) (by omega) (by omega) ?_
                      intro v108 e109 b110
                      refine w_cu (np := 165) (as := [eJ (v108)]) (l2 := [some (eJ (v108)), none, none, none, none, none, none]) (rest := [eI (i59), eR v91]) rfl rfl rfl (Nat.ble_eq.mp rfl) rfl rfl rfl rfl ?_
                      refine s_5 I88 b110 ?_
                      intro v111 b112
                      show ex_q (dt_fg L ρ) rc (d + 3, (2, 165, [some (eR a0), some (eI (i59)), some (eI (1))], [eI (v111), eI (i59), eR v91]), f :: F, m87)
                      refine w_go (t1 := 169) rfl rfl ?_
                      refine j_as (np := 170) rfl rfl I88 b93 (by decide) (n := 512) rfl rfl (lo := -2147483648) (hi := 2147483647) (fun _ => rfl) (by omega) (by omega) (by omega) ?_
                      intro m113 I114 W115
                      have F116 : Fr l_2 0 0 g μ m113 := F90.v W115 b93 rfl rfl
                      refine w_t (np := 171) (l2 := [some (eR a0), some (eI (i59)), some (eI (1))]) (s2 := [eR a0]) rfl (s_an rfl (pos_g I114 gA0 (by decide))) rfl ?_
                      refine w_t (np := 172) (l2 := [some (eR a0), some (eI (i59)), some (eI (1))]) (s2 := [eR a0, eR a0]) rfl (s_an rfl (pos_g I114 gA0 (by decide))) rfl ?_
                      refine w_gf (np := 175) (v := eR v91) rfl rfl (I114.kd gA0 (by decide) (n := 10) rfl) (by rw [(W115.addr e92 b93 gA0 (by decide))]; rfl) ?_
                      refine w_t (np := 176) (l2 := [some (eR a0), some (eI (i59)), some (eI (1))]) (s2 := [eI (i59), eR v91, eR a0]) rfl rfl rfl ?_
                      refine j_al (np := 177) rfl rfl I114 b93 (by decide) (n := 512) rfl rfl (lo := -2147483648) (hi := 2147483647) (fun _ => rfl) (by omega) (by omega) ?_
                      intro v117 e118 b119
                      refine w_cw (np := 180) (as := [eI (v117)]) (l2 := [some (eR a0), some (eI (v117)), none, none]) (rest := []) rfl rfl rfl (Nat.ble_eq.mp rfl) rfl rfl rfl (I114.kd gA0 (by decide) (n := 10) rfl) rfl ?_
                      refine s_6 (a1 := v117) I114 gA0 (by omega) ?_
                      intro m120 I121 F122
                      have F123 : Fr l_2 0 0 g μ m120 := F116.t F122 rfl
                      show ex_q (dt_fg L ρ) rc (d + 3, (2, 180, [some (eR a0), some (eI (i59)), some (eI (1))], []), f :: F, m120)
                      obtain ⟨v124, e125⟩ : ∃ zz : Int, zz = (i59) + (1) := ⟨_, rfl⟩
                      have b126 : 1 ≤ v124 ∧ v124 ≤ 512 := by omega
                      refine w_t (np := 183) (l2 := [some (eR a0), some (eI (v124)), some (eI (1))]) (s2 := []) rfl (b_iinc rfl (by rw [← e125]; exact ev_w_in (by omega) (by omega)) rfl) rfl ?_
                      refine w_go (t1 := 95) rfl rfl ?_
                      exact ih58 (512 - (v124)).toNat (by omega) m120 (v124) (some (eI (1))) I121 F123 (by omega) (F122.k (W115.addr (W89.slot k65 (by decide)) b93 gA0 (by decide)) gA0 (by decide) rfl) (F122.k (W115.addr (W89.addr k66 gA0 b3 (by decide)) b93 b3 (by decide)) b3 (by decide) rfl) (F122.k (W115.addr (W89.addr k67 gA0 b7 (by decide)) b93 b7 (by decide)) b7 (by decide) rfl) (F122.k (W115.addr (W89.slot k68 (by decide)) b93 gA0 (by decide)) gA0 (by decide) rfl) (F122.k (W115.addr (W89.addr k69 gA0 b3 (by decide)) b93 b3 (by decide)) b3 (by decide) rfl)    rfl
              exact hL95 _ m43 (0) (none) I44 F45 (by decide) k46 k47 k48 k49 e54    rfl
            · have b57 : 0 ≤ i41 ∧ i41 ≤ 49 := by omega
              have b58 : 1 ≤ v53 ∧ v53 ≤ 50 := by omega
              refine w_t (np := 75) (l2 := [some (eR a0), some (eI (i41)), none]) (s2 := [eR a0]) rfl (s_an rfl (pos_g I44 gA0 (by decide))) rfl ?_
              refine w_t (np := 76) (l2 := [some (eR a0), some (eI (i41)), none]) (s2 := [eI (i41), eR a0]) rfl rfl rfl ?_
              refine w_t (np := 77) (l2 := [some (eR a0), some (eI (i41)), none]) (s2 := [eR a0, eI (i41), eR a0]) rfl (s_an rfl (pos_g I44 gA0 (by decide))) rfl ?_
              refine j_gr (np := 80) rfl rfl I44 gA0 (by decide) (n := 10) rfl rfl rfl ?_
              intro v57 e58 b59 z60
              have b59 : g v57 = 35 := Nat.eq_of_beq_eq_true b59
              refine w_t (np := 81) (l2 := [some (eR a0), some (eI (i41)), none]) (s2 := [eI (i41), eR v57, eI (i41), eR a0]) rfl rfl rfl ?_
              refine w_cw (np := 84) (as := [eI (i41)]) (l2 := [some (eR v57), some (eI (i41)), none, none]) (rest := [eI (i41), eR a0]) rfl rfl rfl (Nat.ble_eq.mp rfl) rfl rfl rfl (I44.kd b59 (by decide) (n := 15) rfl) rfl ?_
              refine s_117 (a1 := i41) I44 b59 (by omega) ?_
              intro v61 b62
              show ex_q (dt_fg L ρ) rc (d + 3, (2, 84, [some (eR a0), some (eI (i41)), none], [eI (v61), eI (i41), eR a0]), f :: F, m43)
              refine w_cw (np := 87) (as := [eI (i41), eI (v61)]) (l2 := [some (eR a0), some (eI (i41)), some (eI (v61)), none, none, none, none, none]) (rest := []) rfl rfl rfl (Nat.ble_eq.mp rfl) rfl rfl rfl (I44.kd gA0 (by decide) (n := 10) rfl) rfl ?_
              refine s_3 (a1 := i41) (a2 := v61) I44 gA0 (by omega) (by omega) ?_
              intro m63 I64 F65
              have F66 : Fr l_2 0 0 g μ m63 := F45.t F65 rfl
              show ex_q (dt_fg L ρ) rc (d + 3, (2, 87, [some (eR a0), some (eI (i41)), none], []), f :: F, m63)
              obtain ⟨v67, e68⟩ : ∃ zz : Int, zz = (i41) + (1) := ⟨_, rfl⟩
              have b69 : 1 ≤ v67 ∧ v67 ≤ 50 := by omega
              refine w_t (np := 90) (l2 := [some (eR a0), some (eI (v67)), none]) (s2 := []) rfl (b_iinc rfl (by rw [← e68]; exact ev_w_in (by omega) (by omega)) rfl) rfl ?_
              refine w_go (t1 := 63) rfl rfl ?_
              exact ih40 (890 - (v67)).toNat (by omega) m63 (v67) I64 F66 (by omega) (F65.k k46 gA0 (by decide) rfl) (F65.k k47 b3 (by decide) rfl) (F65.k k48 b7 (by decide) rfl) (F65.k k49 gA0 (by decide) rfl) (F65.k k50 gA0 (by decide) rfl) (F65.k k51 gA0 (by decide) rfl)    rfl
          exact hL63 _ m28 (0) I29 F30 (by decide) k31 k32 k33 k34 k35 k36    rfl
        · have b39 : 0 ≤ i26 ∧ i26 ≤ 511 := by omega
          have b40 : 1 ≤ v9 ∧ v9 ≤ 512 := by omega
          refine w_t (np := 35) (l2 := [some (eR a0), some (eI (i26)), none]) (s2 := [eR a0]) rfl (s_an rfl (pos_g I29 gA0 (by decide))) rfl ?_
          refine j_gr (np := 38) rfl rfl I29 gA0 (by decide) (n := 10) rfl rfl rfl ?_
          intro v39 e40 b41 z42
          have b41 : g v39 = 43 := Nat.eq_of_beq_eq_true b41
          refine w_t (np := 39) (l2 := [some (eR a0), some (eI (i26)), none]) (s2 := [eI (i26), eR v39]) rfl rfl rfl ?_
          refine w_t (np := 40) (l2 := [some (eR a0), some (eI (i26)), none]) (s2 := [eI (0), eI (i26), eR v39]) rfl rfl rfl ?_
          refine j_as (np := 41) rfl rfl I29 b41 (by decide) (n := 512) rfl rfl (lo := -2147483648) (hi := 2147483647) (fun _ => rfl) (by omega) (by omega) (by decide) ?_
          intro m43 I44 W45
          have F46 : Fr l_2 0 0 g μ m43 := F30.v W45 b41 rfl rfl
          refine w_t (np := 42) (l2 := [some (eR a0), some (eI (i26)), none]) (s2 := [eR a0]) rfl (s_an rfl (pos_g I44 gA0 (by decide))) rfl ?_
          refine j_gr (np := 45) rfl rfl I44 gA0 (by decide) (n := 10) rfl rfl rfl ?_
          intro v47 e48 b49 z50
          have b49 : g v47 = 44 := Nat.eq_of_beq_eq_true b49
          refine w_t (np := 46) (l2 := [some (eR a0), some (eI (i26)), none]) (s2 := [eI (i26), eR v47]) rfl rfl rfl ?_
          refine w_t (np := 47) (l2 := [some (eR a0), some (eI (i26)), none]) (s2 := [eJ (0), eI (i26), eR v47]) rfl rfl rfl ?_
          refine j_sl (np := 48) rfl rfl I44 b49 (by decide) (n := 512) rfl rfl (lo := -9223372036854775808) (hi := 9223372036854775807) (fun _ => rfl) (by omega) (by omega) (by decide) ?_
          intro m51 I52 W53
          have F54 : Fr l_2 0 0 g μ m51 := F46.v W53 b49 rfl rfl
          refine w_t (np := 49) (l2 := [some (eR a0), some (eI (i26)), none]) (s2 := [eR a0]) rfl (s_an rfl (pos_g I52 gA0 (by decide))) rfl ?_
          refine j_gr (np := 52) rfl rfl I52 gA0 (by decide) (n := 10) rfl rfl rfl ?_
          intro v55 e56 b57 z58
          have b57 : g v55 = 45 := Nat.eq_of_beq_eq_true b57
          refine w_t (np := 53) (l2 := [some (eR a0), some (eI (i26)), none]) (s2 := [eI (i26), eR v55]) rfl rfl rfl ?_
          refine w_t (np := 54) (l2 := [some (eR a0), some (eI (i26)), none]) (s2 := [eI (0), eI (i26), eR v55]) rfl rfl rfl ?_
          refine j_sb3 (np := 55) rfl rfl I52 b57 (by decide) (n := 512) rfl rfl (lo := 0) (hi := 1) (fun _ => rfl) (by omega) (by omega) (by decide) (by decide) ?_
          intro m59 I60 W61
          have F62 : Fr l_2 0 0 g μ m59 := F54.v W61 b57 rfl rfl
          obtain ⟨v63, e64⟩ : ∃ zz : Int, zz = (i26) + (1) := ⟨_, rfl⟩
          have b65 : 1 ≤ v63 ∧ v63 ≤ 512 := by omega
          refine w_t (np := 58) (l2 := [some (eR a0), some (eI (v63)), none]) (s2 := []) rfl (b_iinc rfl (by rw [← e64]; exact ev_w_in (by omega) (by omega)) rfl) rfl ?_
          refine w_go (t1 := 26) rfl rfl ?_
          exact ih25 (512 - (v63)).toNat (by omega) m59 (v63) I60 F62 (by omega) (W61.addr (W53.addr (W45.addr k31 b41 gA0 (by decide)) b49 gA0 (by decide)) b57 gA0 (by decide)) (W61.addr (W53.addr (W45.addr k32 b41 b3 (by decide)) b49 b3 (by decide)) b57 b3 (by decide)) (W61.addr (W53.addr (W45.addr k33 b41 b7 (by decide)) b49 b7 (by decide)) b57 b7 (by decide)) (W61.addr (W53.addr (W45.addr k34 b41 gA0 (by decide)) b49 gA0 (by decide)) b57 gA0 (by decide)) (W61.addr (W53.addr (W45.addr k35 b41 gA0 (by decide)) b49 gA0 (by decide)) b57 gA0 (by decide)) (W61.addr (W53.addr (W45.addr k36 b41 gA0 (by decide)) b49 gA0 (by decide)) b57 gA0 (by decide))    rfl
      exact hL26 _ m20 (0) I21 F23 (by decide) (W22.slot (W18.slot (W14.slot e2 (by decide)) (by decide)) (by decide)) (W22.addr (W18.addr (W14.addr e6 gA0 b3 (by decide)) gA0 b3 (by decide)) gA0 b3 (by decide)) (W22.addr (W18.addr (W14.addr e10 gA0 b7 (by decide)) gA0 b7 (by decide)) gA0 b7 (by decide)) (W22.slot (W18.slot W14.at (by decide)) (by decide)) (W22.slot W18.at (by decide)) W22.at    rfl
  · refine j_gr (np := 8) rfl rfl hI b3 (by decide) (n := 8) rfl rfl rfl ?_
    intro v5 e6 b7 z8
    rcases hor2 b7 with b7 | b7
    · refine j_gi (np := 11) rfl rfl rfl hI b7 (by decide) (n := 3) rfl rfl (lo := 0) (hi := 64) rfl ?_
      intro v9 e10 b11
      refine j_pf (np := 14) (w := v9) rfl rfl hI gA0 (by decide) (n := 10) rfl rfl (hO_i (lo := 0) (hi := 512) rfl (by omega)) ?_
      intro m12 I13 W14
      have F15 : Fr l_2 0 0 g μ m12 := F0.w W14 gA0 rfl
      refine w_t (np := 15) (l2 := [some (eR a0), none, none]) (s2 := [eR a0]) rfl (s_an rfl (pos_g I13 gA0 (by decide))) rfl ?_
      refine w_t (np := 16) (l2 := [some (eR a0), none, none]) (s2 := [eI (0), eR a0]) rfl rfl rfl ?_
      refine j_pf (np := 19) (w := 0) rfl rfl I13 gA0 (by decide) (n := 10) rfl rfl (hO_i (lo := -2147483648) (hi := 2147483647) rfl (by decide)) ?_
      intro m16 I17 W18
      have F19 : Fr l_2 0 0 g μ m16 := F15.w W18 gA0 rfl
      refine w_t (np := 20) (l2 := [some (eR a0), none, none]) (s2 := [eR a0]) rfl (s_an rfl (pos_g I17 gA0 (by decide))) rfl ?_
      refine w_t (np := 21) (l2 := [some (eR a0), none, none]) (s2 := [eI (0), eR a0]) rfl rfl rfl ?_
      refine j_pf (np := 24) (w := 0) rfl rfl I17 gA0 (by decide) (n := 10) rfl rfl (hO_i (lo := 0) (hi := 64) rfl (by decide)) ?_
      intro m20 I21 W22
      have F23 : Fr l_2 0 0 g μ m20 := F19.w W22 gA0 rfl
      refine w_t (np := 25) (l2 := [some (eR a0), none, none]) (s2 := [eI (0)]) rfl rfl rfl ?_
      refine w_t (np := 26) (l2 := [some (eR a0), some (eI (0)), none]) (s2 := []) rfl rfl rfl ?_
      have hL26 : ∀ (n24 : Nat) (m28 : eM) (i26 : Int), SI g m28 → Fr l_2 0 0 g μ m28 → (0 ≤ i26 ∧ i26 ≤ 512) → m28.1 a0 5 = ((v1 : Nat) : Int) → m28.1 v1 4 = ((v5 : Nat) : Int) → m28.1 v5 2 = v9 → m28.1 a0 7 = v9 → m28.1 a0 8 = 0 → m28.1 a0 9 = 0 → n24 = (512 - i26).toNat → ex_q (dt_fg L ρ) rc (d + 3, (2, 26, [some (eR a0), some (eI (i26)), none], []), f :: F, m28) := by
        intro n24
        induction n24 using Nat.strongRecOn with
        | _ n24 ih25 =>
        intro m28 i26 I29 F30 b27 k31 k32 k33 k34 k35 k36 hn37
        refine w_t (np := 27) (l2 := [some (eR a0), some (eI (i26)), none]) (s2 := [eI (i26)]) rfl rfl rfl ?_
        refine w_t (np := 28) (l2 := [some (eR a0), some (eI (i26)), none]) (s2 := [eR a0, eI (i26)]) rfl (s_an rfl (pos_g I29 gA0 (by decide))) rfl ?_
        refine w_gf (np := 31) (v := eI (v9)) rfl rfl (I29.kd gA0 (by decide) (n := 10) rfl) (by rw [k34]; rfl) ?_
        refine b_cge (t1 := 61) (t2 := 34) rfl rfl rfl (ev_w_in (by omega) (by omega)) (ev_w_in (by omega) (by omega)) (fun g38 => ?_) (fun g38 => ?_)
        · refine w_t (np := 62) (l2 := [some (eR a0), some (eI (i26)), none]) (s2 := [eI (0)]) rfl rfl rfl ?_
          refine w_t (np := 63) (l2 := [some (eR a0), some (eI (0)), none]) (s2 := []) rfl rfl rfl ?_
          have hL63 : ∀ (n39 : Nat) (m43 : eM) (i41 : Int), SI g m43 → Fr l_2 0 0 g μ m43 → (0 ≤ i41 ∧ i41 ≤ 890) → m43.1 a0 5 = ((v1 : Nat) : Int) → m43.1 v1 4 = ((v5 : Nat) : Int) → m43.1 v5 2 = v9 → m43.1 a0 7 = v9 → m43.1 a0 8 = 0 → m43.1 a0 9 = 0 → n39 = (890 - i41).toNat → ex_q (dt_fg L ρ) rc (d + 3, (2, 63, [some (eR a0), some (eI (i41)), none], []), f :: F, m43) := by
            intro n39
            induction n39 using Nat.strongRecOn with
            | _ n39 ih40 =>
            intro m43 i41 I44 F45 b42 k46 k47 k48 k49 k50 k51 hn52
            refine w_t (np := 64) (l2 := [some (eR a0), some (eI (i41)), none]) (s2 := [eI (i41)]) rfl rfl rfl ?_
            refine w_t (np := 65) (l2 := [some (eR a0), some (eI (i41)), none]) (s2 := [eR a0, eI (i41)]) rfl (s_an rfl (pos_g I44 gA0 (by decide))) rfl ?_
            refine w_gf (np := 68) (v := eR v1) rfl rfl (I44.kd gA0 (by decide) (n := 10) rfl) (by rw [k46]; rfl) ?_
            refine j_gi (np := 71) rfl rfl rfl I44 b3 (by decide) (n := 8) rfl rfl (lo := 0) (hi := 890) rfl ?_
            intro v53 e54 b55
            refine b_cge (t1 := 93) (t2 := 74) rfl rfl rfl (ev_w_in (by omega) (by omega)) (ev_w_in (by omega) (by omega)) (fun g56 => ?_) (fun g56 => ?_)
            · refine w_t (np := 94) (l2 := [some (eR a0), some (eI (i41)), none]) (s2 := [eI (0)]) rfl rfl rfl ?_
              refine w_t (np := 95) (l2 := [some (eR a0), some (eI (0)), none]) (s2 := []) rfl rfl rfl ?_
              have hL95 : ∀ (n57 : Nat) (m62 : eM) (i59 : Int) (o61 : Option eV), SI g m62 → Fr l_2 0 0 g μ m62 → (0 ≤ i59 ∧ i59 ≤ 512) → m62.1 a0 5 = ((v1 : Nat) : Int) → m62.1 v1 4 = ((v5 : Nat) : Int) → m62.1 v5 2 = v9 → m62.1 a0 7 = v9 → m62.1 v1 7 = v53 → n57 = (512 - i59).toNat → ex_q (dt_fg L ρ) rc (d + 3, (2, 95, [some (eR a0), some (eI (i59)), o61], []), f :: F, m62) := by
                intro n57
                induction n57 using Nat.strongRecOn with
                | _ n57 ih58 =>
                intro m62 i59 o61 I63 F64 b60 k65 k66 k67 k68 k69 hn70
                refine w_t (np := 96) (l2 := [some (eR a0), some (eI (i59)), o61]) (s2 := [eI (i59)]) rfl rfl rfl ?_
                refine w_t (np := 97) (l2 := [some (eR a0), some (eI (i59)), o61]) (s2 := [eR a0, eI (i59)]) rfl (s_an rfl (pos_g I63 gA0 (by decide))) rfl ?_
                refine w_gf (np := 100) (v := eI (v9)) rfl rfl (I63.kd gA0 (by decide) (n := 10) rfl) (by rw [k68]; rfl) ?_
                refine b_cge (t1 := 186) (t2 := 103) rfl rfl rfl (ev_w_in (by omega) (by omega)) (ev_w_in (by omega) (by omega)) (fun g71 => ?_) (fun g71 => ?_)
                · exact v_rv rfl rfl (K m62 I63 F64)
                · have b72 : 0 ≤ i59 ∧ i59 ≤ 63 := by omega
                  have b73 : 1 ≤ v9 ∧ v9 ≤ 64 := by omega
                  refine w_t (np := 104) (l2 := [some (eR a0), some (eI (i59)), o61]) (s2 := [eR a0]) rfl (s_an rfl (pos_g I63 gA0 (by decide))) rfl ?_
                  refine j_gr (np := 107) rfl rfl I63 gA0 (by decide) (n := 10) rfl rfl rfl ?_
                  intro v72 e73 b74 z75
                  have b74 : g v72 = 43 := Nat.eq_of_beq_eq_true b74
                  refine w_t (np := 108) (l2 := [some (eR a0), some (eI (i59)), o61]) (s2 := [eI (i59), eR v72]) rfl rfl rfl ?_
                  refine j_al (np := 109) rfl rfl I63 b74 (by decide) (n := 512) rfl rfl (lo := -2147483648) (hi := 2147483647) (fun _ => rfl) (by omega) (by omega) ?_
                  intro v76 e77 b78
                  refine w_t (np := 111) (l2 := [some (eR a0), some (eI (i59)), o61]) (s2 := [eI (10), eI (v76)]) rfl rfl rfl ?_
                  refine b_cne (t1 := 118) (t2 := 114) rfl rfl rfl (ev_w_in (by omega) (by omega)) rfl (fun g79 => ?_) (fun g79 => ?_)
                  · refine w_t (np := 119) (l2 := [some (eR a0), some (eI (i59)), o61]) (s2 := [eI (0)]) rfl rfl rfl ?_
                    refine w_t (np := 120) (l2 := [some (eR a0), some (eI (i59)), some (eI (0))]) (s2 := []) rfl rfl rfl ?_
                    refine w_t (np := 121) (l2 := [some (eR a0), some (eI (i59)), some (eI (0))]) (s2 := [eR a0]) rfl (s_an rfl (pos_g I63 gA0 (by decide))) rfl ?_
                    refine w_t (np := 122) (l2 := [some (eR a0), some (eI (i59)), some (eI (0))]) (s2 := [eR a0, eR a0]) rfl rfl rfl ?_
                    refine j_gi (np := 125) rfl rfl rfl I63 gA0 (by decide) (n := 10) rfl rfl (lo := -2147483648) (hi := 2147483647) rfl ?_
                    intro v80 e81 b82
                    refine w_t (np := 126) (l2 := [some (eR a0), some (eI (i59)), some (eI (0))]) (s2 := [eI (0), eI (v80), eR a0]) rfl rfl rfl ?_
                    refine b_ieq (t1 := 133) (t2 := 129) rfl rfl rfl rfl (fun g83 => ?_) (fun g83 => absurd g83 (by decide))
                    refine w_t (np := 134) (l2 := [some (eR a0), some (eI (i59)), some (eI (0))]) (s2 := [eI (0), eI (v80), eR a0]) rfl rfl rfl ?_
                    refine w_t (np := 135) (l2 := [some (eR a0), some (eI (i59)), some (eI (0))]) (s2 := [eI (v80), eR a0]) rfl (b_iadd (by rw [Int.add_zero]; exact ev_w_in (by omega) (by omega))) rfl ?_
                    refine j_pf (np := 138) (w := v80) rfl rfl I63 gA0 (by decide) (n := 10) rfl rfl (hO_i (lo := -2147483648) (hi := 2147483647) rfl (by omega)) ?_
                    intro m84 I85 W86
                    have F87 : Fr l_2 0 0 g μ m84 := F64.w W86 gA0 rfl
                    refine w_t (np := 139) (l2 := [some (eR a0), some (eI (i59)), some (eI (0))]) (s2 := [eR a0]) rfl (s_an rfl (pos_g I85 gA0 (by decide))) rfl ?_
                    refine j_gr (np := 142) rfl rfl I85 gA0 (by decide) (n := 10) rfl rfl rfl ?_
                    intro v88 e89 b90 z91
                    have b90 : g v88 = 46 := Nat.eq_of_beq_eq_true b90
                    refine w_t (np := 143) (l2 := [some (eR a0), some (eI (i59)), some (eI (0))]) (s2 := [eI (i59), eR v88]) rfl rfl rfl ?_
                    refine w_t (np := 144) (l2 := [some (eR a0), some (eI (i59)), some (eI (0))]) (s2 := [eI (0), eI (i59), eR v88]) rfl rfl rfl ?_
                    refine b_ieq (t1 := 168) (t2 := 147) rfl rfl rfl rfl (fun g92 => ?_) (fun g92 => absurd g92 (by decide))
                    refine w_t (np := 169) (l2 := [some (eR a0), some (eI (i59)), some (eI (0))]) (s2 := [eI (-1), eI (i59), eR v88]) rfl rfl rfl ?_
                    refine j_as (np := 170) rfl rfl I85 b90 (by decide) (n := 512) rfl rfl (lo := -2147483648) (hi := 2147483647) (fun _ => rfl) (by omega) (by omega) (by decide) ?_
                    intro m93 I94 W95
                    have F96 : Fr l_2 0 0 g μ m93 := F87.v W95 b90 rfl rfl
                    refine w_t (np := 171) (l2 := [some (eR a0), some (eI (i59)), some (eI (0))]) (s2 := [eR a0]) rfl (s_an rfl (pos_g I94 gA0 (by decide))) rfl ?_
                    refine w_t (np := 172) (l2 := [some (eR a0), some (eI (i59)), some (eI (0))]) (s2 := [eR a0, eR a0]) rfl (s_an rfl (pos_g I94 gA0 (by decide))) rfl ?_
                    refine w_gf (np := 175) (v := eR v88) rfl rfl (I94.kd gA0 (by decide) (n := 10) rfl) (by rw [(W95.addr e89 b90 gA0 (by decide))]; rfl) ?_
                    refine w_t (np := 176) (l2 := [some (eR a0), some (eI (i59)), some (eI (0))]) (s2 := [eI (i59), eR v88, eR a0]) rfl rfl rfl ?_
                    refine j_al (np := 177) rfl rfl I94 b90 (by decide) (n := 512) rfl rfl (lo := -2147483648) (hi := 2147483647) (fun _ => rfl) (by omega) (by omega) ?_
                    intro v97 e98 b99
                    refine w_cw (np := 180) (as := [eI (v97)]) (l2 := [some (eR a0), some (eI (v97)), none, none]) (rest := []) rfl rfl rfl (Nat.ble_eq.mp rfl) rfl rfl rfl (I94.kd gA0 (by decide) (n := 10) rfl) rfl ?_
                    refine s_6 (a1 := v97) I94 gA0 (by omega) ?_
                    intro m100 I101 F102
                    have F103 : Fr l_2 0 0 g μ m100 := F96.t F102 rfl
                    show ex_q (dt_fg L ρ) rc (d + 3, (2, 180, [some (eR a0), some (eI (i59)), some (eI (0))], []), f :: F, m100)
                    obtain ⟨v104, e105⟩ : ∃ zz : Int, zz = (i59) + (1) := ⟨_, rfl⟩
                    have b106 : 1 ≤ v104 ∧ v104 ≤ 64 := by omega
                    refine w_t (np := 183) (l2 := [some (eR a0), some (eI (v104)), some (eI (0))]) (s2 := []) rfl (b_iinc rfl (by rw [← e105]; exact ev_w_in (by omega) (by omega)) rfl) rfl ?_
                    refine w_go (t1 := 95) rfl rfl ?_
                    exact ih58 (512 - (v104)).toNat (by omega) m100 (v104) (some (eI (0))) I101 F103 (by omega) (F102.k (W95.addr (W86.slot k65 (by decide)) b90 gA0 (by decide)) gA0 (by decide) rfl) (F102.k (W95.addr (W86.addr k66 gA0 b3 (by decide)) b90 b3 (by decide)) b3 (by decide) rfl) (F102.k (W95.addr (W86.addr k67 gA0 b7 (by decide)) b90 b7 (by decide)) b7 (by decide) rfl) (F102.k (W95.addr (W86.slot k68 (by decide)) b90 gA0 (by decide)) gA0 (by decide) rfl) (F102.k (W95.addr (W86.addr k69 gA0 b3 (by decide)) b90 b3 (by decide)) b3 (by decide) rfl)    rfl
                  · have b80 : 10 ≤ v76 ∧ v76 ≤ 10 := by omega
                    refine w_t (np := 115) (l2 := [some (eR a0), some (eI (i59)), o61]) (s2 := [eI (1)]) rfl rfl rfl ?_
                    refine w_go (t1 := 119) rfl rfl ?_
                    refine w_t (np := 120) (l2 := [some (eR a0), some (eI (i59)), some (eI (1))]) (s2 := []) rfl rfl rfl ?_
                    refine w_t (np := 121) (l2 := [some (eR a0), some (eI (i59)), some (eI (1))]) (s2 := [eR a0]) rfl (s_an rfl (pos_g I63 gA0 (by decide))) rfl ?_
                    refine w_t (np := 122) (l2 := [some (eR a0), some (eI (i59)), some (eI (1))]) (s2 := [eR a0, eR a0]) rfl rfl rfl ?_
                    refine j_gi (np := 125) rfl rfl rfl I63 gA0 (by decide) (n := 10) rfl rfl (lo := -2147483648) (hi := 2147483647) rfl ?_
                    intro v80 e81 b82
                    refine w_t (np := 126) (l2 := [some (eR a0), some (eI (i59)), some (eI (1))]) (s2 := [eI (1), eI (v80), eR a0]) rfl rfl rfl ?_
                    refine b_ieq (t1 := 133) (t2 := 129) rfl rfl rfl rfl (fun g83 => absurd g83 (by decide)) (fun g83 => ?_)
                    refine w_t (np := 130) (l2 := [some (eR a0), some (eI (i59)), some (eI (1))]) (s2 := [eI (1), eI (v80), eR a0]) rfl rfl rfl ?_
                    refine w_go (t1 := 134) rfl rfl ?_
                    obtain ⟨v84, e85, b86⟩ : ∃ zz : Int, ev_w ((v80) + (1)) = zz ∧ (-2147483648 ≤ zz ∧ zz ≤ 2147483647) := ⟨_, rfl, hw_bd _⟩
                    refine w_t (np := 135) (l2 := [some (eR a0), some (eI (i59)), some (eI (1))]) (s2 := [eI (v84), eR a0]) rfl (b_iadd e85) rfl ?_
                    refine j_pf (np := 138) (w := v84) rfl rfl I63 gA0 (by decide) (n := 10) rfl rfl (hO_i (lo := -2147483648) (hi := 2147483647) rfl (by omega)) ?_
                    intro m87 I88 W89
                    have F90 : Fr l_2 0 0 g μ m87 := F64.w W89 gA0 rfl
                    refine w_t (np := 139) (l2 := [some (eR a0), some (eI (i59)), some (eI (1))]) (s2 := [eR a0]) rfl (s_an rfl (pos_g I88 gA0 (by decide))) rfl ?_
                    refine j_gr (np := 142) rfl rfl I88 gA0 (by decide) (n := 10) rfl rfl rfl ?_
                    intro v91 e92 b93 z94
                    have b93 : g v91 = 46 := Nat.eq_of_beq_eq_true b93
                    refine w_t (np := 143) (l2 := [some (eR a0), some (eI (i59)), some (eI (1))]) (s2 := [eI (i59), eR v91]) rfl rfl rfl ?_
                    refine w_t (np := 144) (l2 := [some (eR a0), some (eI (i59)), some (eI (1))]) (s2 := [eI (1), eI (i59), eR v91]) rfl rfl rfl ?_
                    refine b_ieq (t1 := 168) (t2 := 147) rfl rfl rfl rfl (fun g95 => absurd g95 (by decide)) (fun g95 => ?_)
                    refine w_t (np := 148) (l2 := [some (eR a0), some (eI (i59)), some (eI (1))]) (s2 := [eR a0, eI (i59), eR v91]) rfl (s_an rfl (pos_g I88 gA0 (by decide))) rfl ?_
                    refine j_gr (np := 151) rfl rfl I88 gA0 (by decide) (n := 10) rfl rfl rfl ?_
                    intro v96 e97 b98 z99
                    have b98 : g v96 = 45 := Nat.eq_of_beq_eq_true b98
                    refine w_t (np := 152) (l2 := [some (eR a0), some (eI (i59)), some (eI (1))]) (s2 := [eI (i59), eR v96, eI (i59), eR v91]) rfl rfl rfl ?_
                    refine j_b3 (np := 153) rfl rfl I88 b98 (by decide) (n := 512) rfl rfl (lo := 0) (hi := 1) (fun _ => rfl) (by omega) (by omega) ?_
                    intro v100 e101 b102
                    refine b_ine (t1 := 168) (t2 := 156) rfl rfl rfl (ev_w_in (by omega) (by omega)) (fun g103 => ?_) (fun g103 => ?_)
                    · have b104 : 1 ≤ v100 ∧ v100 ≤ 1 := by omega
                      refine w_t (np := 169) (l2 := [some (eR a0), some (eI (i59)), some (eI (1))]) (s2 := [eI (-1), eI (i59), eR v91]) rfl rfl rfl ?_
                      refine j_as (np := 170) rfl rfl I88 b93 (by decide) (n := 512) rfl rfl (lo := -2147483648) (hi := 2147483647) (fun _ => rfl) (by omega) (by omega) (by decide) ?_
                      intro m104 I105 W106
                      have F107 : Fr l_2 0 0 g μ m104 := F90.v W106 b93 rfl rfl
                      refine w_t (np := 171) (l2 := [some (eR a0), some (eI (i59)), some (eI (1))]) (s2 := [eR a0]) rfl (s_an rfl (pos_g I105 gA0 (by decide))) rfl ?_
                      refine w_t (np := 172) (l2 := [some (eR a0), some (eI (i59)), some (eI (1))]) (s2 := [eR a0, eR a0]) rfl (s_an rfl (pos_g I105 gA0 (by decide))) rfl ?_
                      refine w_gf (np := 175) (v := eR v91) rfl rfl (I105.kd gA0 (by decide) (n := 10) rfl) (by rw [(W106.addr e92 b93 gA0 (by decide))]; rfl) ?_
                      refine w_t (np := 176) (l2 := [some (eR a0), some (eI (i59)), some (eI (1))]) (s2 := [eI (i59), eR v91, eR a0]) rfl rfl rfl ?_
                      refine j_al (np := 177) rfl rfl I105 b93 (by decide) (n := 512) rfl rfl (lo := -2147483648) (hi := 2147483647) (fun _ => rfl) (by omega) (by omega) ?_
                      intro v108 e109 b110
                      refine w_cw (np := 180) (as := [eI (v108)]) (l2 := [some (eR a0), some (eI (v108)), none, none]) (rest := []) rfl rfl rfl (Nat.ble_eq.mp rfl) rfl rfl rfl (I105.kd gA0 (by decide) (n := 10) rfl) rfl ?_
                      refine s_6 (a1 := v108) I105 gA0 (by omega) ?_
                      intro m111 I112 F113
                      have F114 : Fr l_2 0 0 g μ m111 := F107.t F113 rfl
                      show ex_q (dt_fg L ρ) rc (d + 3, (2, 180, [some (eR a0), some (eI (i59)), some (eI (1))], []), f :: F, m111)
                      obtain ⟨v115, e116⟩ : ∃ zz : Int, zz = (i59) + (1) := ⟨_, rfl⟩
                      have b117 : 1 ≤ v115 ∧ v115 ≤ 64 := by omega
                      refine w_t (np := 183) (l2 := [some (eR a0), some (eI (v115)), some (eI (1))]) (s2 := []) rfl (b_iinc rfl (by rw [← e116]; exact ev_w_in (by omega) (by omega)) rfl) rfl ?_
                      refine w_go (t1 := 95) rfl rfl ?_
                      exact ih58 (512 - (v115)).toNat (by omega) m111 (v115) (some (eI (1))) I112 F114 (by omega) (F113.k (W106.addr (W89.slot k65 (by decide)) b93 gA0 (by decide)) gA0 (by decide) rfl) (F113.k (W106.addr (W89.addr k66 gA0 b3 (by decide)) b93 b3 (by decide)) b3 (by decide) rfl) (F113.k (W106.addr (W89.addr k67 gA0 b7 (by decide)) b93 b7 (by decide)) b7 (by decide) rfl) (F113.k (W106.addr (W89.slot k68 (by decide)) b93 gA0 (by decide)) gA0 (by decide) rfl) (F113.k (W106.addr (W89.addr k69 gA0 b3 (by decide)) b93 b3 (by decide)) b3 (by decide) rfl)    rfl
                    · have b104 : 0 ≤ v100 ∧ v100 ≤ 0 := by omega
                      refine w_t (np := 157) (l2 := [some (eR a0), some (eI (i59)), some (eI (1))]) (s2 := [eR a0, eI (i59), eR v91]) rfl (s_an rfl (pos_g I88 gA0 (by decide))) rfl ?_
                      refine j_gr (np := 160) rfl rfl I88 gA0 (by decide) (n := 10) rfl rfl rfl ?_
                      intro v104 e105 b106 z107
                      have b106 : g v104 = 44 := Nat.eq_of_beq_eq_true b106
                      refine w_t (np := 161) (l2 := [some (eR a0), some (eI (i59)), some (eI (1))]) (s2 := [eI (i59), eR v104, eI (i59), eR v91]) rfl rfl rfl ?_
                      refine j_ll (np := 162) rfl rfl I88 b106 (by decide) (n := 512) rfl rfl (lo := -9223372036854775808) (hi := 9223372036854775807) (fun _ => rfl) (by omega) (by omega) ?_
                      intro v108 e109 b110
                      refine w_cu (np := 165) (as := [eJ (v108)]) (l2 := [some (eJ (v108)), none, none, none, none, none, none]) (rest := [eI (i59), eR v91]) rfl rfl rfl (Nat.ble_eq.mp rfl) rfl rfl rfl rfl ?_
                      refine s_5 I88 b110 ?_
                      intro v111 b112
                      show ex_q (dt_fg L ρ) rc (d + 3, (2, 165, [some (eR a0), some (eI (i59)), some (eI (1))], [eI (v111), eI (i59), eR v91]), f :: F, m87)
                      refine w_go (t1 := 169) rfl rfl ?_
                      refine j_as (np := 170) rfl rfl I88 b93 (by decide) (n := 512) rfl rfl (lo := -2147483648) (hi := 2147483647) (fun _ => rfl) (by omega) (by omega) (by omega) ?_
                      intro m113 I114 W115
                      have F116 : Fr l_2 0 0 g μ m113 := F90.v W115 b93 rfl rfl
                      refine w_t (np := 171) (l2 := [some (eR a0), some (eI (i59)), some (eI (1))]) (s2 := [eR a0]) rfl (s_an rfl (pos_g I114 gA0 (by decide))) rfl ?_
                      refine w_t (np := 172) (l2 := [some (eR a0), some (eI (i59)), some (eI (1))]) (s2 := [eR a0, eR a0]) rfl (s_an rfl (pos_g I114 gA0 (by decide))) rfl ?_
                      refine w_gf (np := 175) (v := eR v91) rfl rfl (I114.kd gA0 (by decide) (n := 10) rfl) (by rw [(W115.addr e92 b93 gA0 (by decide))]; rfl) ?_
                      refine w_t (np := 176) (l2 := [some (eR a0), some (eI (i59)), some (eI (1))]) (s2 := [eI (i59), eR v91, eR a0]) rfl rfl rfl ?_
                      refine j_al (np := 177) rfl rfl I114 b93 (by decide) (n := 512) rfl rfl (lo := -2147483648) (hi := 2147483647) (fun _ => rfl) (by omega) (by omega) ?_
                      intro v117 e118 b119
                      refine w_cw (np := 180) (as := [eI (v117)]) (l2 := [some (eR a0), some (eI (v117)), none, none]) (rest := []) rfl rfl rfl (Nat.ble_eq.mp rfl) rfl rfl rfl (I114.kd gA0 (by decide) (n := 10) rfl) rfl ?_
                      refine s_6 (a1 := v117) I114 gA0 (by omega) ?_
                      intro m120 I121 F122
                      have F123 : Fr l_2 0 0 g μ m120 := F116.t F122 rfl
                      show ex_q (dt_fg L ρ) rc (d + 3, (2, 180, [some (eR a0), some (eI (i59)), some (eI (1))], []), f :: F, m120)
                      obtain ⟨v124, e125⟩ : ∃ zz : Int, zz = (i59) + (1) := ⟨_, rfl⟩
                      have b126 : 1 ≤ v124 ∧ v124 ≤ 64 := by omega
                      refine w_t (np := 183) (l2 := [some (eR a0), some (eI (v124)), some (eI (1))]) (s2 := []) rfl (b_iinc rfl (by rw [← e125]; exact ev_w_in (by omega) (by omega)) rfl) rfl ?_
                      refine w_go (t1 := 95) rfl rfl ?_
                      exact ih58 (512 - (v124)).toNat (by omega) m120 (v124) (some (eI (1))) I121 F123 (by omega) (F122.k (W115.addr (W89.slot k65 (by decide)) b93 gA0 (by decide)) gA0 (by decide) rfl) (F122.k (W115.addr (W89.addr k66 gA0 b3 (by decide)) b93 b3 (by decide)) b3 (by decide) rfl) (F122.k (W115.addr (W89.addr k67 gA0 b7 (by decide)) b93 b7 (by decide)) b7 (by decide) rfl) (F122.k (W115.addr (W89.slot k68 (by decide)) b93 gA0 (by decide)) gA0 (by decide) rfl) (F122.k (W115.addr (W89.addr k69 gA0 b3 (by decide)) b93 b3 (by decide)) b3 (by decide) rfl)    rfl
              exact hL95 _ m43 (0) (none) I44 F45 (by decide) k46 k47 k48 k49 e54    rfl
            · have b57 : 0 ≤ i41 ∧ i41 ≤ 889 := by omega
              have b58 : 1 ≤ v53 ∧ v53 ≤ 890 := by omega
              refine w_t (np := 75) (l2 := [some (eR a0), some (eI (i41)), none]) (s2 := [eR a0]) rfl (s_an rfl (pos_g I44 gA0 (by decide))) rfl ?_
              refine w_t (np := 76) (l2 := [some (eR a0), some (eI (i41)), none]) (s2 := [eI (i41), eR a0]) rfl rfl rfl ?_
              refine w_t (np := 77) (l2 := [some (eR a0), some (eI (i41)), none]) (s2 := [eR a0, eI (i41), eR a0]) rfl (s_an rfl (pos_g I44 gA0 (by decide))) rfl ?_
              refine j_gr (np := 80) rfl rfl I44 gA0 (by decide) (n := 10) rfl rfl rfl ?_
              intro v57 e58 b59 z60
              have b59 : g v57 = 35 := Nat.eq_of_beq_eq_true b59
              refine w_t (np := 81) (l2 := [some (eR a0), some (eI (i41)), none]) (s2 := [eI (i41), eR v57, eI (i41), eR a0]) rfl rfl rfl ?_
              refine w_cw (np := 84) (as := [eI (i41)]) (l2 := [some (eR v57), some (eI (i41)), none, none]) (rest := [eI (i41), eR a0]) rfl rfl rfl (Nat.ble_eq.mp rfl) rfl rfl rfl (I44.kd b59 (by decide) (n := 15) rfl) rfl ?_
              refine s_117 (a1 := i41) I44 b59 (by omega) ?_
              intro v61 b62
              show ex_q (dt_fg L ρ) rc (d + 3, (2, 84, [some (eR a0), some (eI (i41)), none], [eI (v61), eI (i41), eR a0]), f :: F, m43)
              refine w_cw (np := 87) (as := [eI (i41), eI (v61)]) (l2 := [some (eR a0), some (eI (i41)), some (eI (v61)), none, none, none, none, none]) (rest := []) rfl rfl rfl (Nat.ble_eq.mp rfl) rfl rfl rfl (I44.kd gA0 (by decide) (n := 10) rfl) rfl ?_
              refine s_3 (a1 := i41) (a2 := v61) I44 gA0 (by omega) (by omega) ?_
              intro m63 I64 F65
              have F66 : Fr l_2 0 0 g μ m63 := F45.t F65 rfl
              show ex_q (dt_fg L ρ) rc (d + 3, (2, 87, [some (eR a0), some (eI (i41)), none], []), f :: F, m63)
              obtain ⟨v67, e68⟩ : ∃ zz : Int, zz = (i41) + (1) := ⟨_, rfl⟩
              have b69 : 1 ≤ v67 ∧ v67 ≤ 890 := by omega
              refine w_t (np := 90) (l2 := [some (eR a0), some (eI (v67)), none]) (s2 := []) rfl (b_iinc rfl (by rw [← e68]; exact ev_w_in (by omega) (by omega)) rfl) rfl ?_
              refine w_go (t1 := 63) rfl rfl ?_
              exact ih40 (890 - (v67)).toNat (by omega) m63 (v67) I64 F66 (by omega) (F65.k k46 gA0 (by decide) rfl) (F65.k k47 b3 (by decide) rfl) (F65.k k48 b7 (by decide) rfl) (F65.k k49 gA0 (by decide) rfl) (F65.k k50 gA0 (by decide) rfl) (F65.k k51 gA0 (by decide) rfl)    rfl
          exact hL63 _ m28 (0) I29 F30 (by decide) k31 k32 k33 k34 k35 k36    rfl
        · have b39 : 0 ≤ i26 ∧ i26 ≤ 63 := by omega
          have b40 : 1 ≤ v9 ∧ v9 ≤ 64 := by omega
          refine w_t (np := 35) (l2 := [some (eR a0), some (eI (i26)), none]) (s2 := [eR a0]) rfl (s_an rfl (pos_g I29 gA0 (by decide))) rfl ?_
          refine j_gr (np := 38) rfl rfl I29 gA0 (by decide) (n := 10) rfl rfl rfl ?_
          intro v39 e40 b41 z42
          have b41 : g v39 = 43 := Nat.eq_of_beq_eq_true b41
          refine w_t (np := 39) (l2 := [some (eR a0), some (eI (i26)), none]) (s2 := [eI (i26), eR v39]) rfl rfl rfl ?_
          refine w_t (np := 40) (l2 := [some (eR a0), some (eI (i26)), none]) (s2 := [eI (0), eI (i26), eR v39]) rfl rfl rfl ?_
          refine j_as (np := 41) rfl rfl I29 b41 (by decide) (n := 512) rfl rfl (lo := -2147483648) (hi := 2147483647) (fun _ => rfl) (by omega) (by omega) (by decide) ?_
          intro m43 I44 W45
          have F46 : Fr l_2 0 0 g μ m43 := F30.v W45 b41 rfl rfl
          refine w_t (np := 42) (l2 := [some (eR a0), some (eI (i26)), none]) (s2 := [eR a0]) rfl (s_an rfl (pos_g I44 gA0 (by decide))) rfl ?_
          refine j_gr (np := 45) rfl rfl I44 gA0 (by decide) (n := 10) rfl rfl rfl ?_
          intro v47 e48 b49 z50
          have b49 : g v47 = 44 := Nat.eq_of_beq_eq_true b49
          refine w_t (np := 46) (l2 := [some (eR a0), some (eI (i26)), none]) (s2 := [eI (i26), eR v47]) rfl rfl rfl ?_
          refine w_t (np := 47) (l2 := [some (eR a0), some (eI (i26)), none]) (s2 := [eJ (0), eI (i26), eR v47]) rfl rfl rfl ?_
          refine j_sl (np := 48) rfl rfl I44 b49 (by decide) (n := 512) rfl rfl (lo := -9223372036854775808) (hi := 9223372036854775807) (fun _ => rfl) (by omega) (by omega) (by decide) ?_
          intro m51 I52 W53
          have F54 : Fr l_2 0 0 g μ m51 := F46.v W53 b49 rfl rfl
          refine w_t (np := 49) (l2 := [some (eR a0), some (eI (i26)), none]) (s2 := [eR a0]) rfl (s_an rfl (pos_g I52 gA0 (by decide))) rfl ?_
          refine j_gr (np := 52) rfl rfl I52 gA0 (by decide) (n := 10) rfl rfl rfl ?_
          intro v55 e56 b57 z58
          have b57 : g v55 = 45 := Nat.eq_of_beq_eq_true b57
          refine w_t (np := 53) (l2 := [some (eR a0), some (eI (i26)), none]) (s2 := [eI (i26), eR v55]) rfl rfl rfl ?_
          refine w_t (np := 54) (l2 := [some (eR a0), some (eI (i26)), none]) (s2 := [eI (0), eI (i26), eR v55]) rfl rfl rfl ?_
          refine j_sb3 (np := 55) rfl rfl I52 b57 (by decide) (n := 512) rfl rfl (lo := 0) (hi := 1) (fun _ => rfl) (by omega) (by omega) (by decide) (by decide) ?_
          intro m59 I60 W61
          have F62 : Fr l_2 0 0 g μ m59 := F54.v W61 b57 rfl rfl
          obtain ⟨v63, e64⟩ : ∃ zz : Int, zz = (i26) + (1) := ⟨_, rfl⟩
          have b65 : 1 ≤ v63 ∧ v63 ≤ 64 := by omega
          refine w_t (np := 58) (l2 := [some (eR a0), some (eI (v63)), none]) (s2 := []) rfl (b_iinc rfl (by rw [← e64]; exact ev_w_in (by omega) (by omega)) rfl) rfl ?_
          refine w_go (t1 := 26) rfl rfl ?_
          exact ih25 (512 - (v63)).toNat (by omega) m59 (v63) I60 F62 (by omega) (W61.addr (W53.addr (W45.addr k31 b41 gA0 (by decide)) b49 gA0 (by decide)) b57 gA0 (by decide)) (W61.addr (W53.addr (W45.addr k32 b41 b3 (by decide)) b49 b3 (by decide)) b57 b3 (by decide)) (W61.addr (W53.addr (W45.addr k33 b41 b7 (by decide)) b49 b7 (by decide)) b57 b7 (by decide)) (W61.addr (W53.addr (W45.addr k34 b41 gA0 (by decide)) b49 gA0 (by decide)) b57 gA0 (by decide)) (W61.addr (W53.addr (W45.addr k35 b41 gA0 (by decide)) b49 gA0 (by decide)) b57 gA0 (by decide)) (W61.addr (W53.addr (W45.addr k36 b41 gA0 (by decide)) b49 gA0 (by decide)) b57 gA0 (by decide))    rfl
      exact hL26 _ m20 (0) I21 F23 (by decide) (W22.slot (W18.slot (W14.slot e2 (by decide)) (by decide)) (by decide)) (W22.addr (W18.addr (W14.addr e6 gA0 b3 (by decide)) gA0 b3 (by decide)) gA0 b3 (by decide)) (W22.addr (W18.addr (W14.addr e10 gA0 b7 (by decide)) gA0 b7 (by decide)) gA0 b7 (by decide)) (W22.slot (W18.slot W14.at (by decide)) (by decide)) (W22.slot W18.at (by decide)) W22.at    rfl
    · refine j_gi (np := 11) rfl rfl rfl hI b7 (by decide) (n := 3) rfl rfl (lo := 0) (hi := 512) rfl ?_
      intro v9 e10 b11
      refine j_pf (np := 14) (w := v9) rfl rfl hI gA0 (by decide) (n := 10) rfl rfl (hO_i (lo := 0) (hi := 512) rfl (by omega)) ?_
      intro m12 I13 W14
      have F15 : Fr l_2 0 0 g μ m12 := F0.w W14 gA0 rfl
      refine w_t (np := 15) (l2 := [some (eR a0), none, none]) (s2 := [eR a0]) rfl (s_an rfl (pos_g I13 gA0 (by decide))) rfl ?_
      refine w_t (np := 16) (l2 := [some (eR a0), none, none]) (s2 := [eI (0), eR a0]) rfl rfl rfl ?_
      refine j_pf (np := 19) (w := 0) rfl rfl I13 gA0 (by decide) (n := 10) rfl rfl (hO_i (lo := -2147483648) (hi := 2147483647) rfl (by decide)) ?_
      intro m16 I17 W18
      have F19 : Fr l_2 0 0 g μ m16 := F15.w W18 gA0 rfl
      refine w_t (np := 20) (l2 := [some (eR a0), none, none]) (s2 := [eR a0]) rfl (s_an rfl (pos_g I17 gA0 (by decide))) rfl ?_
      refine w_t (np := 21) (l2 := [some (eR a0), none, none]) (s2 := [eI (0), eR a0]) rfl rfl rfl ?_
      refine j_pf (np := 24) (w := 0) rfl rfl I17 gA0 (by decide) (n := 10) rfl rfl (hO_i (lo := 0) (hi := 64) rfl (by decide)) ?_
      intro m20 I21 W22
      have F23 : Fr l_2 0 0 g μ m20 := F19.w W22 gA0 rfl
      refine w_t (np := 25) (l2 := [some (eR a0), none, none]) (s2 := [eI (0)]) rfl rfl rfl ?_
      refine w_t (np := 26) (l2 := [some (eR a0), some (eI (0)), none]) (s2 := []) rfl rfl rfl ?_
      have hL26 : ∀ (n24 : Nat) (m28 : eM) (i26 : Int), SI g m28 → Fr l_2 0 0 g μ m28 → (0 ≤ i26 ∧ i26 ≤ 512) → m28.1 a0 5 = ((v1 : Nat) : Int) → m28.1 v1 4 = ((v5 : Nat) : Int) → m28.1 v5 2 = v9 → m28.1 a0 7 = v9 → m28.1 a0 8 = 0 → m28.1 a0 9 = 0 → n24 = (512 - i26).toNat → ex_q (dt_fg L ρ) rc (d + 3, (2, 26, [some (eR a0), some (eI (i26)), none], []), f :: F, m28) := by
        intro n24
        induction n24 using Nat.strongRecOn with
        | _ n24 ih25 =>
        intro m28 i26 I29 F30 b27 k31 k32 k33 k34 k35 k36 hn37
        refine w_t (np := 27) (l2 := [some (eR a0), some (eI (i26)), none]) (s2 := [eI (i26)]) rfl rfl rfl ?_
        refine w_t (np := 28) (l2 := [some (eR a0), some (eI (i26)), none]) (s2 := [eR a0, eI (i26)]) rfl (s_an rfl (pos_g I29 gA0 (by decide))) rfl ?_
        refine w_gf (np := 31) (v := eI (v9)) rfl rfl (I29.kd gA0 (by decide) (n := 10) rfl) (by rw [k34]; rfl) ?_
        refine b_cge (t1 := 61) (t2 := 34) rfl rfl rfl (ev_w_in (by omega) (by omega)) (ev_w_in (by omega) (by omega)) (fun g38 => ?_) (fun g38 => ?_)
        · refine w_t (np := 62) (l2 := [some (eR a0), some (eI (i26)), none]) (s2 := [eI (0)]) rfl rfl rfl ?_
          refine w_t (np := 63) (l2 := [some (eR a0), some (eI (0)), none]) (s2 := []) rfl rfl rfl ?_
          have hL63 : ∀ (n39 : Nat) (m43 : eM) (i41 : Int), SI g m43 → Fr l_2 0 0 g μ m43 → (0 ≤ i41 ∧ i41 ≤ 890) → m43.1 a0 5 = ((v1 : Nat) : Int) → m43.1 v1 4 = ((v5 : Nat) : Int) → m43.1 v5 2 = v9 → m43.1 a0 7 = v9 → m43.1 a0 8 = 0 → m43.1 a0 9 = 0 → n39 = (890 - i41).toNat → ex_q (dt_fg L ρ) rc (d + 3, (2, 63, [some (eR a0), some (eI (i41)), none], []), f :: F, m43) := by
            intro n39
            induction n39 using Nat.strongRecOn with
            | _ n39 ih40 =>
            intro m43 i41 I44 F45 b42 k46 k47 k48 k49 k50 k51 hn52
            refine w_t (np := 64) (l2 := [some (eR a0), some (eI (i41)), none]) (s2 := [eI (i41)]) rfl rfl rfl ?_
            refine w_t (np := 65) (l2 := [some (eR a0), some (eI (i41)), none]) (s2 := [eR a0, eI (i41)]) rfl (s_an rfl (pos_g I44 gA0 (by decide))) rfl ?_
            refine w_gf (np := 68) (v := eR v1) rfl rfl (I44.kd gA0 (by decide) (n := 10) rfl) (by rw [k46]; rfl) ?_
            refine j_gi (np := 71) rfl rfl rfl I44 b3 (by decide) (n := 8) rfl rfl (lo := 0) (hi := 890) rfl ?_
            intro v53 e54 b55
            refine b_cge (t1 := 93) (t2 := 74) rfl rfl rfl (ev_w_in (by omega) (by omega)) (ev_w_in (by omega) (by omega)) (fun g56 => ?_) (fun g56 => ?_)
            · refine w_t (np := 94) (l2 := [some (eR a0), some (eI (i41)), none]) (s2 := [eI (0)]) rfl rfl rfl ?_
              refine w_t (np := 95) (l2 := [some (eR a0), some (eI (0)), none]) (s2 := []) rfl rfl rfl ?_
              have hL95 : ∀ (n57 : Nat) (m62 : eM) (i59 : Int) (o61 : Option eV), SI g m62 → Fr l_2 0 0 g μ m62 → (0 ≤ i59 ∧ i59 ≤ 512) → m62.1 a0 5 = ((v1 : Nat) : Int) → m62.1 v1 4 = ((v5 : Nat) : Int) → m62.1 v5 2 = v9 → m62.1 a0 7 = v9 → m62.1 v1 7 = v53 → n57 = (512 - i59).toNat → ex_q (dt_fg L ρ) rc (d + 3, (2, 95, [some (eR a0), some (eI (i59)), o61], []), f :: F, m62) := by
                intro n57
                induction n57 using Nat.strongRecOn with
                | _ n57 ih58 =>
                intro m62 i59 o61 I63 F64 b60 k65 k66 k67 k68 k69 hn70
                refine w_t (np := 96) (l2 := [some (eR a0), some (eI (i59)), o61]) (s2 := [eI (i59)]) rfl rfl rfl ?_
                refine w_t (np := 97) (l2 := [some (eR a0), some (eI (i59)), o61]) (s2 := [eR a0, eI (i59)]) rfl (s_an rfl (pos_g I63 gA0 (by decide))) rfl ?_
                refine w_gf (np := 100) (v := eI (v9)) rfl rfl (I63.kd gA0 (by decide) (n := 10) rfl) (by rw [k68]; rfl) ?_
                refine b_cge (t1 := 186) (t2 := 103) rfl rfl rfl (ev_w_in (by omega) (by omega)) (ev_w_in (by omega) (by omega)) (fun g71 => ?_) (fun g71 => ?_)
                · exact v_rv rfl rfl (K m62 I63 F64)
                · have b72 : 0 ≤ i59 ∧ i59 ≤ 511 := by omega
                  have b73 : 1 ≤ v9 ∧ v9 ≤ 512 := by omega
                  refine w_t (np := 104) (l2 := [some (eR a0), some (eI (i59)), o61]) (s2 := [eR a0]) rfl (s_an rfl (pos_g I63 gA0 (by decide))) rfl ?_
                  refine j_gr (np := 107) rfl rfl I63 gA0 (by decide) (n := 10) rfl rfl rfl ?_
                  intro v72 e73 b74 z75
                  have b74 : g v72 = 43 := Nat.eq_of_beq_eq_true b74
                  refine w_t (np := 108) (l2 := [some (eR a0), some (eI (i59)), o61]) (s2 := [eI (i59), eR v72]) rfl rfl rfl ?_
                  refine j_al (np := 109) rfl rfl I63 b74 (by decide) (n := 512) rfl rfl (lo := -2147483648) (hi := 2147483647) (fun _ => rfl) (by omega) (by omega) ?_
                  intro v76 e77 b78
                  refine w_t (np := 111) (l2 := [some (eR a0), some (eI (i59)), o61]) (s2 := [eI (10), eI (v76)]) rfl rfl rfl ?_
                  refine b_cne (t1 := 118) (t2 := 114) rfl rfl rfl (ev_w_in (by omega) (by omega)) rfl (fun g79 => ?_) (fun g79 => ?_)
                  · refine w_t (np := 119) (l2 := [some (eR a0), some (eI (i59)), o61]) (s2 := [eI (0)]) rfl rfl rfl ?_
                    refine w_t (np := 120) (l2 := [some (eR a0), some (eI (i59)), some (eI (0))]) (s2 := []) rfl rfl rfl ?_
                    refine w_t (np := 121) (l2 := [some (eR a0), some (eI (i59)), some (eI (0))]) (s2 := [eR a0]) rfl (s_an rfl (pos_g I63 gA0 (by decide))) rfl ?_
                    refine w_t (np := 122) (l2 := [some (eR a0), some (eI (i59)), some (eI (0))]) (s2 := [eR a0, eR a0]) rfl rfl rfl ?_
                    refine j_gi (np := 125) rfl rfl rfl I63 gA0 (by decide) (n := 10) rfl rfl (lo := -2147483648) (hi := 2147483647) rfl ?_
                    intro v80 e81 b82
                    refine w_t (np := 126) (l2 := [some (eR a0), some (eI (i59)), some (eI (0))]) (s2 := [eI (0), eI (v80), eR a0]) rfl rfl rfl ?_
                    refine b_ieq (t1 := 133) (t2 := 129) rfl rfl rfl rfl (fun g83 => ?_) (fun g83 => absurd g83 (by decide))
                    refine w_t (np := 134) (l2 := [some (eR a0), some (eI (i59)), some (eI (0))]) (s2 := [eI (0), eI (v80), eR a0]) rfl rfl rfl ?_
                    refine w_t (np := 135) (l2 := [some (eR a0), some (eI (i59)), some (eI (0))]) (s2 := [eI (v80), eR a0]) rfl (b_iadd (by rw [Int.add_zero]; exact ev_w_in (by omega) (by omega))) rfl ?_
                    refine j_pf (np := 138) (w := v80) rfl rfl I63 gA0 (by decide) (n := 10) rfl rfl (hO_i (lo := -2147483648) (hi := 2147483647) rfl (by omega)) ?_
                    intro m84 I85 W86
                    have F87 : Fr l_2 0 0 g μ m84 := F64.w W86 gA0 rfl
                    refine w_t (np := 139) (l2 := [some (eR a0), some (eI (i59)), some (eI (0))]) (s2 := [eR a0]) rfl (s_an rfl (pos_g I85 gA0 (by decide))) rfl ?_
                    refine j_gr (np := 142) rfl rfl I85 gA0 (by decide) (n := 10) rfl rfl rfl ?_
                    intro v88 e89 b90 z91
                    have b90 : g v88 = 46 := Nat.eq_of_beq_eq_true b90
                    refine w_t (np := 143) (l2 := [some (eR a0), some (eI (i59)), some (eI (0))]) (s2 := [eI (i59), eR v88]) rfl rfl rfl ?_
                    refine w_t (np := 144) (l2 := [some (eR a0), some (eI (i59)), some (eI (0))]) (s2 := [eI (0), eI (i59), eR v88]) rfl rfl rfl ?_
                    refine b_ieq (t1 := 168) (t2 := 147) rfl rfl rfl rfl (fun g92 => ?_) (fun g92 => absurd g92 (by decide))
                    refine w_t (np := 169) (l2 := [some (eR a0), some (eI (i59)), some (eI (0))]) (s2 := [eI (-1), eI (i59), eR v88]) rfl rfl rfl ?_
                    refine j_as (np := 170) rfl rfl I85 b90 (by decide) (n := 512) rfl rfl (lo := -2147483648) (hi := 2147483647) (fun _ => rfl) (by omega) (by omega) (by decide) ?_
                    intro m93 I94 W95
                    have F96 : Fr l_2 0 0 g μ m93 := F87.v W95 b90 rfl rfl
                    refine w_t (np := 171) (l2 := [some (eR a0), some (eI (i59)), some (eI (0))]) (s2 := [eR a0]) rfl (s_an rfl (pos_g I94 gA0 (by decide))) rfl ?_
                    refine w_t (np := 172) (l2 := [some (eR a0), some (eI (i59)), some (eI (0))]) (s2 := [eR a0, eR a0]) rfl (s_an rfl (pos_g I94 gA0 (by decide))) rfl ?_
                    refine w_gf (np := 175) (v := eR v88) rfl rfl (I94.kd gA0 (by decide) (n := 10) rfl) (by rw [(W95.addr e89 b90 gA0 (by decide))]; rfl) ?_
                    refine w_t (np := 176) (l2 := [some (eR a0), some (eI (i59)), some (eI (0))]) (s2 := [eI (i59), eR v88, eR a0]) rfl rfl rfl ?_
                    refine j_al (np := 177) rfl rfl I94 b90 (by decide) (n := 512) rfl rfl (lo := -2147483648) (hi := 2147483647) (fun _ => rfl) (by omega) (by omega) ?_
                    intro v97 e98 b99
                    refine w_cw (np := 180) (as := [eI (v97)]) (l2 := [some (eR a0), some (eI (v97)), none, none]) (rest := []) rfl rfl rfl (Nat.ble_eq.mp rfl) rfl rfl rfl (I94.kd gA0 (by decide) (n := 10) rfl) rfl ?_
                    refine s_6 (a1 := v97) I94 gA0 (by omega) ?_
                    intro m100 I101 F102
                    have F103 : Fr l_2 0 0 g μ m100 := F96.t F102 rfl
                    show ex_q (dt_fg L ρ) rc (d + 3, (2, 180, [some (eR a0), some (eI (i59)), some (eI (0))], []), f :: F, m100)
                    obtain ⟨v104, e105⟩ : ∃ zz : Int, zz = (i59) + (1) := ⟨_, rfl⟩
                    have b106 : 1 ≤ v104 ∧ v104 ≤ 512 := by omega
                    refine w_t (np := 183) (l2 := [some (eR a0), some (eI (v104)), some (eI (0))]) (s2 := []) rfl (b_iinc rfl (by rw [← e105]; exact ev_w_in (by omega) (by omega)) rfl) rfl ?_
                    refine w_go (t1 := 95) rfl rfl ?_
                    exact ih58 (512 - (v104)).toNat (by omega) m100 (v104) (some (eI (0))) I101 F103 (by omega) (F102.k (W95.addr (W86.slot k65 (by decide)) b90 gA0 (by decide)) gA0 (by decide) rfl) (F102.k (W95.addr (W86.addr k66 gA0 b3 (by decide)) b90 b3 (by decide)) b3 (by decide) rfl) (F102.k (W95.addr (W86.addr k67 gA0 b7 (by decide)) b90 b7 (by decide)) b7 (by decide) rfl) (F102.k (W95.addr (W86.slot k68 (by decide)) b90 gA0 (by decide)) gA0 (by decide) rfl) (F102.k (W95.addr (W86.addr k69 gA0 b3 (by decide)) b90 b3 (by decide)) b3 (by decide) rfl)    rfl
                  · have b80 : 10 ≤ v76 ∧ v76 ≤ 10 := by omega
                    refine w_t (np := 115) (l2 := [some (eR a0), some (eI (i59)), o61]) (s2 := [eI (1)]) rfl rfl rfl ?_
                    refine w_go (t1 := 119) rfl rfl ?_
                    refine w_t (np := 120) (l2 := [some (eR a0), some (eI (i59)), some (eI (1))]) (s2 := []) rfl rfl rfl ?_
                    refine w_t (np := 121) (l2 := [some (eR a0), some (eI (i59)), some (eI (1))]) (s2 := [eR a0]) rfl (s_an rfl (pos_g I63 gA0 (by decide))) rfl ?_
                    refine w_t (np := 122) (l2 := [some (eR a0), some (eI (i59)), some (eI (1))]) (s2 := [eR a0, eR a0]) rfl rfl rfl ?_
                    refine j_gi (np := 125) rfl rfl rfl I63 gA0 (by decide) (n := 10) rfl rfl (lo := -2147483648) (hi := 2147483647) rfl ?_
                    intro v80 e81 b82
                    refine w_t (np := 126) (l2 := [some (eR a0), some (eI (i59)), some (eI (1))]) (s2 := [eI (1), eI (v80), eR a0]) rfl rfl rfl ?_
                    refine b_ieq (t1 := 133) (t2 := 129) rfl rfl rfl rfl (fun g83 => absurd g83 (by decide)) (fun g83 => ?_)
                    refine w_t (np := 130) (l2 := [some (eR a0), some (eI (i59)), some (eI (1))]) (s2 := [eI (1), eI (v80), eR a0]) rfl rfl rfl ?_
                    refine w_go (t1 := 134) rfl rfl ?_
                    obtain ⟨v84, e85, b86⟩ : ∃ zz : Int, ev_w ((v80) + (1)) = zz ∧ (-2147483648 ≤ zz ∧ zz ≤ 2147483647) := ⟨_, rfl, hw_bd _⟩
                    refine w_t (np := 135) (l2 := [some (eR a0), some (eI (i59)), some (eI (1))]) (s2 := [eI (v84), eR a0]) rfl (b_iadd e85) rfl ?_
                    refine j_pf (np := 138) (w := v84) rfl rfl I63 gA0 (by decide) (n := 10) rfl rfl (hO_i (lo := -2147483648) (hi := 2147483647) rfl (by omega)) ?_
                    intro m87 I88 W89
                    have F90 : Fr l_2 0 0 g μ m87 := F64.w W89 gA0 rfl
                    refine w_t (np := 139) (l2 := [some (eR a0), some (eI (i59)), some (eI (1))]) (s2 := [eR a0]) rfl (s_an rfl (pos_g I88 gA0 (by decide))) rfl ?_
                    refine j_gr (np := 142) rfl rfl I88 gA0 (by decide) (n := 10) rfl rfl rfl ?_
                    intro v91 e92 b93 z94
                    have b93 : g v91 = 46 := Nat.eq_of_beq_eq_true b93
                    refine w_t (np := 143) (l2 := [some (eR a0), some (eI (i59)), some (eI (1))]) (s2 := [eI (i59), eR v91]) rfl rfl rfl ?_
                    refine w_t (np := 144) (l2 := [some (eR a0), some (eI (i59)), some (eI (1))]) (s2 := [eI (1), eI (i59), eR v91]) rfl rfl rfl ?_
                    refine b_ieq (t1 := 168) (t2 := 147) rfl rfl rfl rfl (fun g95 => absurd g95 (by decide)) (fun g95 => ?_)
                    refine w_t (np := 148) (l2 := [some (eR a0), some (eI (i59)), some (eI (1))]) (s2 := [eR a0, eI (i59), eR v91]) rfl (s_an rfl (pos_g I88 gA0 (by decide))) rfl ?_
                    refine j_gr (np := 151) rfl rfl I88 gA0 (by decide) (n := 10) rfl rfl rfl ?_
                    intro v96 e97 b98 z99
                    have b98 : g v96 = 45 := Nat.eq_of_beq_eq_true b98
                    refine w_t (np := 152) (l2 := [some (eR a0), some (eI (i59)), some (eI (1))]) (s2 := [eI (i59), eR v96, eI (i59), eR v91]) rfl rfl rfl ?_
                    refine j_b3 (np := 153) rfl rfl I88 b98 (by decide) (n := 512) rfl rfl (lo := 0) (hi := 1) (fun _ => rfl) (by omega) (by omega) ?_
                    intro v100 e101 b102
                    refine b_ine (t1 := 168) (t2 := 156) rfl rfl rfl (ev_w_in (by omega) (by omega)) (fun g103 => ?_) (fun g103 => ?_)
                    · have b104 : 1 ≤ v100 ∧ v100 ≤ 1 := by omega
                      refine w_t (np := 169) (l2 := [some (eR a0), some (eI (i59)), some (eI (1))]) (s2 := [eI (-1), eI (i59), eR v91]) rfl rfl rfl ?_
                      refine j_as (np := 170) rfl rfl I88 b93 (by decide) (n := 512) rfl rfl (lo := -2147483648) (hi := 2147483647) (fun _ => rfl) (by omega) (by omega) (by decide) ?_
                      intro m104 I105 W106
                      have F107 : Fr l_2 0 0 g μ m104 := F90.v W106 b93 rfl rfl
                      refine w_t (np := 171) (l2 := [some (eR a0), some (eI (i59)), some (eI (1))]) (s2 := [eR a0]) rfl (s_an rfl (pos_g I105 gA0 (by decide))) rfl ?_
                      refine w_t (np := 172) (l2 := [some (eR a0), some (eI (i59)), some (eI (1))]) (s2 := [eR a0, eR a0]) rfl (s_an rfl (pos_g I105 gA0 (by decide))) rfl ?_
                      refine w_gf (np := 175) (v := eR v91) rfl rfl (I105.kd gA0 (by decide) (n := 10) rfl) (by rw [(W106.addr e92 b93 gA0 (by decide))]; rfl) ?_
                      refine w_t (np := 176) (l2 := [some (eR a0), some (eI (i59)), some (eI (1))]) (s2 := [eI (i59), eR v91, eR a0]) rfl rfl rfl ?_
                      refine j_al (np := 177) rfl rfl I105 b93 (by decide) (n := 512) rfl rfl (lo := -2147483648) (hi := 2147483647) (fun _ => rfl) (by omega) (by omega) ?_
                      intro v108 e109 b110
                      refine w_cw (np := 180) (as := [eI (v108)]) (l2 := [some (eR a0), some (eI (v108)), none, none]) (rest := []) rfl rfl rfl (Nat.ble_eq.mp rfl) rfl rfl rfl (I105.kd gA0 (by decide) (n := 10) rfl) rfl ?_
                      refine s_6 (a1 := v108) I105 gA0 (by omega) ?_
                      intro m111 I112 F113
                      have F114 : Fr l_2 0 0 g μ m111 := F107.t F113 rfl
                      show ex_q (dt_fg L ρ) rc (d + 3, (2, 180, [some (eR a0), some (eI (i59)), some (eI (1))], []), f :: F, m111)
                      obtain ⟨v115, e116⟩ : ∃ zz : Int, zz = (i59) + (1) := ⟨_, rfl⟩
                      have b117 : 1 ≤ v115 ∧ v115 ≤ 512 := by omega
                      refine w_t (np := 183) (l2 := [some (eR a0), some (eI (v115)), some (eI (1))]) (s2 := []) rfl (b_iinc rfl (by rw [← e116]; exact ev_w_in (by omega) (by omega)) rfl) rfl ?_
                      refine w_go (t1 := 95) rfl rfl ?_
                      exact ih58 (512 - (v115)).toNat (by omega) m111 (v115) (some (eI (1))) I112 F114 (by omega) (F113.k (W106.addr (W89.slot k65 (by decide)) b93 gA0 (by decide)) gA0 (by decide) rfl) (F113.k (W106.addr (W89.addr k66 gA0 b3 (by decide)) b93 b3 (by decide)) b3 (by decide) rfl) (F113.k (W106.addr (W89.addr k67 gA0 b7 (by decide)) b93 b7 (by decide)) b7 (by decide) rfl) (F113.k (W106.addr (W89.slot k68 (by decide)) b93 gA0 (by decide)) gA0 (by decide) rfl) (F113.k (W106.addr (W89.addr k69 gA0 b3 (by decide)) b93 b3 (by decide)) b3 (by decide) rfl)    rfl
                    · have b104 : 0 ≤ v100 ∧ v100 ≤ 0 := by omega
                      refine w_t (np := 157) (l2 := [some (eR a0), some (eI (i59)), some (eI (1))]) (s2 := [eR a0, eI (i59), eR v91]) rfl (s_an rfl (pos_g I88 gA0 (by decide))) rfl ?_
                      refine j_gr (np := 160) rfl rfl I88 gA0 (by decide) (n := 10) rfl rfl rfl ?_
                      intro v104 e105 b106 z107
                      have b106 : g v104 = 44 := Nat.eq_of_beq_eq_true b106
                      refine w_t (np := 161) (l2 := [some (eR a0), some (eI (i59)), some (eI (1))]) (s2 := [eI (i59), eR v104, eI (i59), eR v91]) rfl rfl rfl ?_
                      refine j_ll (np := 162) rfl rfl I88 b106 (by decide) (n := 512) rfl rfl (lo := -9223372036854775808) (hi := 9223372036854775807) (fun _ => rfl) (by omega) (by omega) ?_
                      intro v108 e109 b110
                      refine w_cu (np := 165) (as := [eJ (v108)]) (l2 := [some (eJ (v108)), none, none, none, none, none, none]) (rest := [eI (i59), eR v91]) rfl rfl rfl (Nat.ble_eq.mp rfl) rfl rfl rfl rfl ?_
                      refine s_5 I88 b110 ?_
                      intro v111 b112
                      show ex_q (dt_fg L ρ) rc (d + 3, (2, 165, [some (eR a0), some (eI (i59)), some (eI (1))], [eI (v111), eI (i59), eR v91]), f :: F, m87)
                      refine w_go (t1 := 169) rfl rfl ?_
                      refine j_as (np := 170) rfl rfl I88 b93 (by decide) (n := 512) rfl rfl (lo := -2147483648) (hi := 2147483647) (fun _ => rfl) (by omega) (by omega) (by omega) ?_
                      intro m113 I114 W115
                      have F116 : Fr l_2 0 0 g μ m113 := F90.v W115 b93 rfl rfl
                      refine w_t (np := 171) (l2 := [some (eR a0), some (eI (i59)), some (eI (1))]) (s2 := [eR a0]) rfl (s_an rfl (pos_g I114 gA0 (by decide))) rfl ?_
                      refine w_t (np := 172) (l2 := [some (eR a0), some (eI (i59)), some (eI (1))]) (s2 := [eR a0, eR a0]) rfl (s_an rfl (pos_g I114 gA0 (by decide))) rfl ?_
                      refine w_gf (np := 175) (v := eR v91) rfl rfl (I114.kd gA0 (by decide) (n := 10) rfl) (by rw [(W115.addr e92 b93 gA0 (by decide))]; rfl) ?_
                      refine w_t (np := 176) (l2 := [some (eR a0), some (eI (i59)), some (eI (1))]) (s2 := [eI (i59), eR v91, eR a0]) rfl rfl rfl ?_
                      refine j_al (np := 177) rfl rfl I114 b93 (by decide) (n := 512) rfl rfl (lo := -2147483648) (hi := 2147483647) (fun _ => rfl) (by omega) (by omega) ?_
                      intro v117 e118 b119
                      refine w_cw (np := 180) (as := [eI (v117)]) (l2 := [some (eR a0), some (eI (v117)), none, none]) (rest := []) rfl rfl rfl (Nat.ble_eq.mp rfl) rfl rfl rfl (I114.kd gA0 (by decide) (n := 10) rfl) rfl ?_
                      refine s_6 (a1 := v117) I114 gA0 (by omega) ?_
                      intro m120 I121 F122
                      have F123 : Fr l_2 0 0 g μ m120 := F116.t F122 rfl
                      show ex_q (dt_fg L ρ) rc (d + 3, (2, 180, [some (eR a0), some (eI (i59)), some (eI (1))], []), f :: F, m120)
                      obtain ⟨v124, e125⟩ : ∃ zz : Int, zz = (i59) + (1) := ⟨_, rfl⟩
                      have b126 : 1 ≤ v124 ∧ v124 ≤ 512 := by omega
                      refine w_t (np := 183) (l2 := [some (eR a0), some (eI (v124)), some (eI (1))]) (s2 := []) rfl (b_iinc rfl (by rw [← e125]; exact ev_w_in (by omega) (by omega)) rfl) rfl ?_
                      refine w_go (t1 := 95) rfl rfl ?_
                      exact ih58 (512 - (v124)).toNat (by omega) m120 (v124) (some (eI (1))) I121 F123 (by omega) (F122.k (W115.addr (W89.slot k65 (by decide)) b93 gA0 (by decide)) gA0 (by decide) rfl) (F122.k (W115.addr (W89.addr k66 gA0 b3 (by decide)) b93 b3 (by decide)) b3 (by decide) rfl) (F122.k (W115.addr (W89.addr k67 gA0 b7 (by decide)) b93 b7 (by decide)) b7 (by decide) rfl) (F122.k (W115.addr (W89.slot k68 (by decide)) b93 gA0 (by decide)) gA0 (by decide) rfl) (F122.k (W115.addr (W89.addr k69 gA0 b3 (by decide)) b93 b3 (by decide)) b3 (by decide) rfl)    rfl
              exact hL95 _ m43 (0) (none) I44 F45 (by decide) k46 k47 k48 k49 e54    rfl
            · have b57 : 0 ≤ i41 ∧ i41 ≤ 889 := by omega
              have b58 : 1 ≤ v53 ∧ v53 ≤ 890 := by omega
              refine w_t (np := 75) (l2 := [some (eR a0), some (eI (i41)), none]) (s2 := [eR a0]) rfl (s_an rfl (pos_g I44 gA0 (by decide))) rfl ?_
              refine w_t (np := 76) (l2 := [some (eR a0), some (eI (i41)), none]) (s2 := [eI (i41), eR a0]) rfl rfl rfl ?_
              refine w_t (np := 77) (l2 := [some (eR a0), some (eI (i41)), none]) (s2 := [eR a0, eI (i41), eR a0]) rfl (s_an rfl (pos_g I44 gA0 (by decide))) rfl ?_
              refine j_gr (np := 80) rfl rfl I44 gA0 (by decide) (n := 10) rfl rfl rfl ?_
              intro v57 e58 b59 z60
              have b59 : g v57 = 35 := Nat.eq_of_beq_eq_true b59
              refine w_t (np := 81) (l2 := [some (eR a0), some (eI (i41)), none]) (s2 := [eI (i41), eR v57, eI (i41), eR a0]) rfl rfl rfl ?_
              refine w_cw (np := 84) (as := [eI (i41)]) (l2 := [some (eR v57), some (eI (i41)), none, none]) (rest := [eI (i41), eR a0]) rfl rfl rfl (Nat.ble_eq.mp rfl) rfl rfl rfl (I44.kd b59 (by decide) (n := 15) rfl) rfl ?_
              refine s_117 (a1 := i41) I44 b59 (by omega) ?_
              intro v61 b62
              show ex_q (dt_fg L ρ) rc (d + 3, (2, 84, [some (eR a0), some (eI (i41)), none], [eI (v61), eI (i41), eR a0]), f :: F, m43)
              refine w_cw (np := 87) (as := [eI (i41), eI (v61)]) (l2 := [some (eR a0), some (eI (i41)), some (eI (v61)), none, none, none, none, none]) (rest := []) rfl rfl rfl (Nat.ble_eq.mp rfl) rfl rfl rfl (I44.kd gA0 (by decide) (n := 10) rfl) rfl ?_
              refine s_3 (a1 := i41) (a2 := v61) I44 gA0 (by omega) (by omega) ?_
              intro m63 I64 F65
              have F66 : Fr l_2 0 0 g μ m63 := F45.t F65 rfl
              show ex_q (dt_fg L ρ) rc (d + 3, (2, 87, [some (eR a0), some (eI (i41)), none], []), f :: F, m63)
              obtain ⟨v67, e68⟩ : ∃ zz : Int, zz = (i41) + (1) := ⟨_, rfl⟩
              have b69 : 1 ≤ v67 ∧ v67 ≤ 890 := by omega
              refine w_t (np := 90) (l2 := [some (eR a0), some (eI (v67)), none]) (s2 := []) rfl (b_iinc rfl (by rw [← e68]; exact ev_w_in (by omega) (by omega)) rfl) rfl ?_
              refine w_go (t1 := 63) rfl rfl ?_
              exact ih40 (890 - (v67)).toNat (by omega) m63 (v67) I64 F66 (by omega) (F65.k k46 gA0 (by decide) rfl) (F65.k k47 b3 (by decide) rfl) (F65.k k48 b7 (by decide) rfl) (F65.k k49 gA0 (by decide) rfl) (F65.k k50 gA0 (by decide) rfl) (F65.k k51 gA0 (by decide) rfl)    rfl
          exact hL63 _ m28 (0) I29 F30 (by decide) k31 k32 k33 k34 k35 k36    rfl
        · have b39 : 0 ≤ i26 ∧ i26 ≤ 511 := by omega
          have b40 : 1 ≤ v9 ∧ v9 ≤ 512 := by omega
          refine w_t (np := 35) (l2 := [some (eR a0), some (eI (i26)), none]) (s2 := [eR a0]) rfl (s_an rfl (pos_g I29 gA0 (by decide))) rfl ?_
          refine j_gr (np := 38) rfl rfl I29 gA0 (by decide) (n := 10) rfl rfl rfl ?_
          intro v39 e40 b41 z42
          have b41 : g v39 = 43 := Nat.eq_of_beq_eq_true b41
          refine w_t (np := 39) (l2 := [some (eR a0), some (eI (i26)), none]) (s2 := [eI (i26), eR v39]) rfl rfl rfl ?_
          refine w_t (np := 40) (l2 := [some (eR a0), some (eI (i26)), none]) (s2 := [eI (0), eI (i26), eR v39]) rfl rfl rfl ?_
          refine j_as (np := 41) rfl rfl I29 b41 (by decide) (n := 512) rfl rfl (lo := -2147483648) (hi := 2147483647) (fun _ => rfl) (by omega) (by omega) (by decide) ?_
          intro m43 I44 W45
          have F46 : Fr l_2 0 0 g μ m43 := F30.v W45 b41 rfl rfl
          refine w_t (np := 42) (l2 := [some (eR a0), some (eI (i26)), none]) (s2 := [eR a0]) rfl (s_an rfl (pos_g I44 gA0 (by decide))) rfl ?_
          refine j_gr (np := 45) rfl rfl I44 gA0 (by decide) (n := 10) rfl rfl rfl ?_
          intro v47 e48 b49 z50
          have b49 : g v47 = 44 := Nat.eq_of_beq_eq_true b49
          refine w_t (np := 46) (l2 := [some (eR a0), some (eI (i26)), none]) (s2 := [eI (i26), eR v47]) rfl rfl rfl ?_
          refine w_t (np := 47) (l2 := [some (eR a0), some (eI (i26)), none]) (s2 := [eJ (0), eI (i26), eR v47]) rfl rfl rfl ?_
          refine j_sl (np := 48) rfl rfl I44 b49 (by decide) (n := 512) rfl rfl (lo := -9223372036854775808) (hi := 9223372036854775807) (fun _ => rfl) (by omega) (by omega) (by decide) ?_
          intro m51 I52 W53
          have F54 : Fr l_2 0 0 g μ m51 := F46.v W53 b49 rfl rfl
          refine w_t (np := 49) (l2 := [some (eR a0), some (eI (i26)), none]) (s2 := [eR a0]) rfl (s_an rfl (pos_g I52 gA0 (by decide))) rfl ?_
          refine j_gr (np := 52) rfl rfl I52 gA0 (by decide) (n := 10) rfl rfl rfl ?_
          intro v55 e56 b57 z58
          have b57 : g v55 = 45 := Nat.eq_of_beq_eq_true b57
          refine w_t (np := 53) (l2 := [some (eR a0), some (eI (i26)), none]) (s2 := [eI (i26), eR v55]) rfl rfl rfl ?_
          refine w_t (np := 54) (l2 := [some (eR a0), some (eI (i26)), none]) (s2 := [eI (0), eI (i26), eR v55]) rfl rfl rfl ?_
          refine j_sb3 (np := 55) rfl rfl I52 b57 (by decide) (n := 512) rfl rfl (lo := 0) (hi := 1) (fun _ => rfl) (by omega) (by omega) (by decide) (by decide) ?_
          intro m59 I60 W61
          have F62 : Fr l_2 0 0 g μ m59 := F54.v W61 b57 rfl rfl
          obtain ⟨v63, e64⟩ : ∃ zz : Int, zz = (i26) + (1) := ⟨_, rfl⟩
          have b65 : 1 ≤ v63 ∧ v63 ≤ 512 := by omega
          refine w_t (np := 58) (l2 := [some (eR a0), some (eI (v63)), none]) (s2 := []) rfl (b_iinc rfl (by rw [← e64]; exact ev_w_in (by omega) (by omega)) rfl) rfl ?_
          refine w_go (t1 := 26) rfl rfl ?_
          exact ih25 (512 - (v63)).toNat (by omega) m59 (v63) I60 F62 (by omega) (W61.addr (W53.addr (W45.addr k31 b41 gA0 (by decide)) b49 gA0 (by decide)) b57 gA0 (by decide)) (W61.addr (W53.addr (W45.addr k32 b41 b3 (by decide)) b49 b3 (by decide)) b57 b3 (by decide)) (W61.addr (W53.addr (W45.addr k33 b41 b7 (by decide)) b49 b7 (by decide)) b57 b7 (by decide)) (W61.addr (W53.addr (W45.addr k34 b41 gA0 (by decide)) b49 gA0 (by decide)) b57 gA0 (by decide)) (W61.addr (W53.addr (W45.addr k35 b41 gA0 (by decide)) b49 gA0 (by decide)) b57 gA0 (by decide)) (W61.addr (W53.addr (W45.addr k36 b41 gA0 (by decide)) b49 gA0 (by decide)) b57 gA0 (by decide))    rfl
      exact hL26 _ m20 (0) I21 F23 (by decide) (W22.slot (W18.slot (W14.slot e2 (by decide)) (by decide)) (by decide)) (W22.addr (W18.addr (W14.addr e6 gA0 b3 (by decide)) gA0 b3 (by decide)) gA0 b3 (by decide)) (W22.addr (W18.addr (W14.addr e10 gA0 b7 (by decide)) gA0 b7 (by decide)) gA0 b7 (by decide)) (W22.slot (W18.slot W14.at (by decide)) (by decide)) (W22.slot W18.at (by decide)) W22.at    rfl
