/-! methods, walked -/
def l_196 : List Nat := [270, 5124, 5125, 5126, 5127, 5128, 5129, 5632, 5888, 7430, 7431, 8448, 7936, 8192, 7680, 8704]
theorem s_196 {L : Nat} {ρ : Nat → Int} {rc : eQ} {d : Nat} {f : eFr} {F : List eFr} {μ : eM} {g : Nat → Nat} {a0 : Nat} {a1 : Int} (hI : SI g μ) (gA0 : g a0 = 1) (bA1 : -2147483648 ≤ a1 ∧ a1 ≤ 2147483647) (K : ∀ (μ2 : eM) (v : Int), SI g μ2 → Fr l_196 0 0 g μ μ2 → (-2147483648 ≤ v ∧ v ≤ 2147483647) → ex_q (dt_fg L ρ) rc (d + 8, (f.1, f.2.1, f.2.2.1, eI v :: f.2.2.2), F, μ2)) : ex_q (dt_fg L ρ) rc (d + 7, (196, 0, [some (eR a0), some (eI (a1)), none, none], []), f :: F, μ) := by
  have F0 : Fr l_196 0 0 g μ μ := Fr.r
  refine w_t (np := 1) (l2 := [some (eR a0), some (eI (a1)), none, none]) (s2 := [eI (a1)]) rfl rfl rfl ?_
  refine w_t (np := 2) (l2 := [some (eR a0), some (eI (a1)), none, none]) (s2 := [eI (1), eI (a1)]) rfl rfl rfl ?_
  refine b_clt (t1 := 11) (t2 := 5) rfl rfl rfl (ev_w_in (by omega) (by omega)) rfl (fun g1 => ?_) (fun g1 => ?_)
  · have b2 : -2147483648 ≤ a1 ∧ a1 ≤ 0 := by omega
    refine w_t (np := 12) (l2 := [some (eR a0), some (eI (a1)), none, none]) (s2 := [eR a0]) rfl (s_an rfl (pos_g hI gA0 (by decide))) rfl ?_
    refine w_t (np := 13) (l2 := [some (eR a0), some (eI (a1)), none, none]) (s2 := [eI (1), eR a0]) rfl rfl rfl ?_
    refine w_cw (np := 16) (as := [eI (1)]) (l2 := [some (eR a0), some (eI (1))]) (rest := []) rfl rfl rfl (Nat.ble_eq.mp rfl) rfl rfl rfl (hI.kd gA0 (by decide) (n := 14) rfl) rfl ?_
    refine w_t (np := 1) (l2 := [some (eR a0), some (eI (1))]) (s2 := [eR a0]) rfl (s_an rfl (pos_g hI gA0 (by decide))) rfl ?_
    refine w_t (np := 2) (l2 := [some (eR a0), some (eI (1))]) (s2 := [eI (1), eR a0]) rfl rfl rfl ?_
    refine j_pf (np := 5) (w := 1) rfl rfl hI gA0 (by decide) (n := 14) rfl rfl (hO_i (lo := -2147483648) (hi := 2147483647) rfl (by decide)) ?_
    intro m2 I3 W4
    have F5 : Fr l_196 0 0 g μ m2 := F0.w W4 gA0 rfl
    refine w_t (np := 6) (l2 := [some (eR a0), some (eI (1))]) (s2 := [eI (-1)]) rfl rfl rfl ?_
    refine b_ri rfl rfl ?_
    show ex_q (dt_fg L ρ) rc (d + 7, (196, 16, [some (eR a0), some (eI (a1)), none, none], [eI (-1)]), f :: F, m2)
    exact b_ri rfl rfl (K m2 (-1) I3 F5 (by decide))
  · have b2 : 1 ≤ a1 ∧ a1 ≤ 2147483647 := by omega
    refine w_t (np := 6) (l2 := [some (eR a0), some (eI (a1)), none, none]) (s2 := [eI (a1)]) rfl rfl rfl ?_
    refine w_t (np := 8) (l2 := [some (eR a0), some (eI (a1)), none, none]) (s2 := [eI (24), eI (a1)]) rfl rfl rfl ?_
    refine b_cle (t1 := 17) (t2 := 11) rfl rfl rfl (ev_w_in (by omega) (by omega)) rfl (fun g2 => ?_) (fun g2 => ?_)
    · have b3 : 1 ≤ a1 ∧ a1 ≤ 24 := by omega
      refine w_t (np := 18) (l2 := [some (eR a0), some (eI (a1)), none, none]) (s2 := [eI (0)]) rfl rfl rfl ?_
      refine w_t (np := 19) (l2 := [some (eR a0), some (eI (a1)), some (eI (0)), none]) (s2 := []) rfl rfl rfl ?_
      have hL19 : ∀ (n3 : Nat) (m8 : eM) (i5 : Int) (o7 : Option eV), SI g m8 → Fr l_196 0 0 g μ m8 → (0 ≤ i5 ∧ i5 ≤ 24) → n3 = (24 - i5).toNat → ex_q (dt_fg L ρ) rc (d + 7, (196, 19, [some (eR a0), some (eI (a1)), some (eI (i5)), o7], []), f :: F, m8) := by
        intro n3
        induction n3 using Nat.strongRecOn with
        | _ n3 ih4 =>
        intro m8 i5 o7 I9 F10 b6 hn11
        refine w_t (np := 20) (l2 := [some (eR a0), some (eI (a1)), some (eI (i5)), o7]) (s2 := [eI (i5)]) rfl rfl rfl ?_
        refine w_t (np := 21) (l2 := [some (eR a0), some (eI (a1)), some (eI (i5)), o7]) (s2 := [eI (a1), eI (i5)]) rfl rfl rfl ?_
        refine b_cge (t1 := 115) (t2 := 24) rfl rfl rfl (ev_w_in (by omega) (by omega)) (ev_w_in (by omega) (by omega)) (fun g12 => ?_) (fun g12 => ?_)
        · have b13 : 1 ≤ i5 ∧ i5 ≤ 24 := by omega
          refine w_t (np := 116) (l2 := [some (eR a0), some (eI (a1)), some (eI (i5)), o7]) (s2 := [eR a0]) rfl (s_an rfl (pos_g I9 gA0 (by decide))) rfl ?_
          refine w_t (np := 117) (l2 := [some (eR a0), some (eI (a1)), some (eI (i5)), o7]) (s2 := [eI (a1), eR a0]) rfl rfl rfl ?_
          refine w_cw (np := 120) (as := [eI (a1)]) (l2 := [some (eR a0), some (eI (a1))]) (rest := []) rfl rfl rfl (Nat.ble_eq.mp rfl) rfl rfl rfl (I9.kd gA0 (by decide) (n := 14) rfl) rfl ?_
          refine w_t (np := 1) (l2 := [some (eR a0), some (eI (a1))]) (s2 := [eR a0]) rfl (s_an rfl (pos_g I9 gA0 (by decide))) rfl ?_
          refine w_t (np := 2) (l2 := [some (eR a0), some (eI (a1))]) (s2 := [eI (0), eR a0]) rfl rfl rfl ?_
          refine j_pf (np := 5) (w := 0) rfl rfl I9 gA0 (by decide) (n := 14) rfl rfl (hO_i (lo := -2147483648) (hi := 2147483647) rfl (by decide)) ?_
          intro m13 I14 W15
          have F16 : Fr l_196 0 0 g μ m13 := F10.w W15 gA0 rfl
          refine w_t (np := 6) (l2 := [some (eR a0), some (eI (a1))]) (s2 := [eI (a1)]) rfl rfl rfl ?_
          refine b_ri rfl rfl ?_
          show ex_q (dt_fg L ρ) rc (d + 7, (196, 120, [some (eR a0), some (eI (a1)), some (eI (i5)), o7], [eI (a1)]), f :: F, m13)
          exact b_ri rfl rfl (K m13 (a1) I14 F16 (by omega))
        · have b13 : 0 ≤ i5 ∧ i5 ≤ 23 := by omega
          refine w_t (np := 25) (l2 := [some (eR a0), some (eI (a1)), some (eI (i5)), o7]) (s2 := [eR a0]) rfl (s_an rfl (pos_g I9 gA0 (by decide))) rfl ?_
          refine j_gr (np := 28) rfl rfl I9 gA0 (by decide) (n := 14) rfl rfl rfl ?_
          intro v13 e14 b15 z16
          have b15 : g v13 = 20 := Nat.eq_of_beq_eq_true b15
          refine w_t (np := 29) (l2 := [some (eR a0), some (eI (a1)), some (eI (i5)), o7]) (s2 := [eR a0, eR v13]) rfl (s_an rfl (pos_g I9 gA0 (by decide))) rfl ?_
          refine j_gr (np := 32) rfl rfl I9 gA0 (by decide) (n := 14) rfl rfl rfl ?_
          intro v17 e18 b19 z20
          have b19 : g v17 = 29 := Nat.eq_of_beq_eq_true b19
          refine w_t (np := 33) (l2 := [some (eR a0), some (eI (a1)), some (eI (i5)), o7]) (s2 := [eI (2), eR v17, eR v13]) rfl rfl rfl ?_
          refine w_cw (np := 36) (as := [eR v17, eI (2)]) (l2 := [some (eR v13), some (eR v17), some (eI (2)), none]) (rest := []) rfl rfl rfl (Nat.ble_eq.mp rfl) rfl rfl rfl (I9.kd b15 (by decide) (n := 9) rfl) rfl ?_
          refine s_98 (a2 := 2) I9 b15 b19 (by decide) ?_
          intro m21 v24 I22 F23 b25
          have F26 : Fr l_196 0 0 g μ m21 := F10.t F23 rfl
          show ex_q (dt_fg L ρ) rc (d + 7, (196, 36, [some (eR a0), some (eI (a1)), some (eI (i5)), o7], [eI (v24)]), f :: F, m21)
          refine b_ilt (t1 := 46) (t2 := 39) rfl rfl rfl (ev_w_in (by omega) (by omega)) (fun g27 => ?_) (fun g27 => ?_)
          · have b28 : -2147483648 ≤ v24 ∧ v24 ≤ -1 := by omega
            refine w_t (np := 47) (l2 := [some (eR a0), some (eI (a1)), some (eI (i5)), o7]) (s2 := [eR a0]) rfl (s_an rfl (pos_g I22 gA0 (by decide))) rfl ?_
            refine w_gf (np := 50) (v := eR v13) rfl rfl (I22.kd gA0 (by decide) (n := 14) rfl) (by rw [(F23.k e14 gA0 (by decide) rfl)]; rfl) ?_
            refine w_t (np := 51) (l2 := [some (eR a0), some (eI (a1)), some (eI (i5)), o7]) (s2 := [eR a0, eR v13]) rfl (s_an rfl (pos_g I22 gA0 (by decide))) rfl ?_
            refine w_gf (np := 54) (v := eR v17) rfl rfl (I22.kd gA0 (by decide) (n := 14) rfl) (by rw [(F23.k e18 gA0 (by decide) rfl)]; rfl) ?_
            refine w_t (np := 55) (l2 := [some (eR a0), some (eI (a1)), some (eI (i5)), o7]) (s2 := [eI (1), eR v17, eR v13]) rfl rfl rfl ?_
            refine w_cw (np := 58) (as := [eR v17, eI (1)]) (l2 := [some (eR v13), some (eR v17), some (eI (1)), none]) (rest := []) rfl rfl rfl (Nat.ble_eq.mp rfl) rfl rfl rfl (I22.kd b15 (by decide) (n := 9) rfl) rfl ?_
            refine s_98 (a2 := 1) I22 b15 b19 (by decide) ?_
            intro m28 v31 I29 F30 b32
            have F33 : Fr l_196 0 0 g μ m28 := F26.t F30 rfl
            show ex_q (dt_fg L ρ) rc (d + 7, (196, 58, [some (eR a0), some (eI (a1)), some (eI (i5)), o7], [eI (v31)]), f :: F, m28)
            refine w_t (np := 59) (l2 := [some (eR a0), some (eI (a1)), some (eI (i5)), some (eI (v31))]) (s2 := []) rfl rfl rfl ?_
            refine w_t (np := 60) (l2 := [some (eR a0), some (eI (a1)), some (eI (i5)), some (eI (v31))]) (s2 := [eI (v31)]) rfl rfl rfl ?_
            refine b_ige (t1 := 69) (t2 := 63) rfl rfl rfl (ev_w_in (by omega) (by omega)) (fun g34 => ?_) (fun g34 => ?_)
            · have b35 : 0 ≤ v31 ∧ v31 ≤ 2147483647 := by omega
              refine w_t (np := 70) (l2 := [some (eR a0), some (eI (a1)), some (eI (i5)), some (eI (v31))]) (s2 := [eR a0]) rfl (s_an rfl (pos_g I29 gA0 (by decide))) rfl ?_
              refine w_gf (np := 73) (v := eR v17) rfl rfl (I29.kd gA0 (by decide) (n := 14) rfl) (by rw [(F30.k (F23.k e18 gA0 (by decide) rfl) gA0 (by decide) rfl)]; rfl) ?_
              refine j_gi (np := 76) rfl rfl rfl I29 b19 (by decide) (n := 7) rfl rfl (lo := 0) (hi := 24) rfl ?_
              intro v35 e36 b37
              refine w_t (np := 78) (l2 := [some (eR a0), some (eI (a1)), some (eI (i5)), some (eI (v31))]) (s2 := [eI (24), eI (v35)]) rfl rfl rfl ?_
              refine b_clt (t1 := 87) (t2 := 81) rfl rfl rfl (ev_w_in (by omega) (by omega)) rfl (fun g38 => ?_) (fun g38 => ?_)
              · have b39 : 0 ≤ v35 ∧ v35 ≤ 23 := by omega
                refine w_t (np := 88) (l2 := [some (eR a0), some (eI (a1)), some (eI (i5)), some (eI (v31))]) (s2 := [eR a0]) rfl (s_an rfl (pos_g I29 gA0 (by decide))) rfl ?_
                refine w_gf (np := 91) (v := eR v13) rfl rfl (I29.kd gA0 (by decide) (n := 14) rfl) (by rw [(F30.k (F23.k e14 gA0 (by decide) rfl) gA0 (by decide) rfl)]; rfl) ?_
                refine w_t (np := 92) (l2 := [some (eR a0), some (eI (a1)), some (eI (i5)), some (eI (v31))]) (s2 := [eR a0, eR v13]) rfl (s_an rfl (pos_g I29 gA0 (by decide))) rfl ?_
                refine w_gf (np := 95) (v := eR v17) rfl rfl (I29.kd gA0 (by decide) (n := 14) rfl) (by rw [(F30.k (F23.k e18 gA0 (by decide) rfl) gA0 (by decide) rfl)]; rfl) ?_
                refine w_t (np := 96) (l2 := [some (eR a0), some (eI (a1)), some (eI (i5)), some (eI (v31))]) (s2 := [eI (v31), eR v17, eR v13]) rfl rfl rfl ?_
                refine w_cw (np := 99) (as := [eR v17, eI (v31)]) (l2 := [some (eR v13), some (eR v17), some (eI (v31)), none, none, none, none, none, none, none, none]) (rest := []) rfl rfl rfl (Nat.ble_eq.mp rfl) rfl rfl rfl (I29.kd b15 (by decide) (n := 9) rfl) rfl ?_
                refine s_99 (a2 := v31) I29 b15 b19 (by omega) ?_
                intro m39 v42 I40 F41 b43
                have F44 : Fr l_196 0 0 g μ m39 := F33.t F41 rfl
                show ex_q (dt_fg L ρ) rc (d + 7, (196, 99, [some (eR a0), some (eI (a1)), some (eI (i5)), some (eI (v31))], [eI (v42)]), f :: F, m39)
                refine b_ine (t1 := 109) (t2 := 102) rfl rfl rfl (ev_w_in (by omega) (by omega)) (fun g45 => ?_) (fun g45 => ?_)
                · have b46 : 1 ≤ v42 ∧ v42 ≤ 1 := by omega
                  obtain ⟨v46, e47⟩ : ∃ zz : Int, zz = (i5) + (1) := ⟨_, rfl⟩
                  have b48 : 1 ≤ v46 ∧ v46 ≤ 24 := by omega
                  refine w_t (np := 112) (l2 := [some (eR a0), some (eI (a1)), some (eI (v46)), some (eI (v31))]) (s2 := []) rfl (b_iinc rfl (by rw [← e47]; exact ev_w_in (by omega) (by omega)) rfl) rfl ?_
                  refine w_go (t1 := 19) rfl rfl ?_
                  exact ih4 (24 - (v46)).toNat (by omega) m39 (v46) (some (eI (v31))) I40 F44 (by omega)     rfl
                · have b46 : 0 ≤ v42 ∧ v42 ≤ 0 := by omega
                  refine w_t (np := 103) (l2 := [some (eR a0), some (eI (a1)), some (eI (i5)), some (eI (v31))]) (s2 := [eR a0]) rfl (s_an rfl (pos_g I40 gA0 (by decide))) rfl ?_
                  refine w_t (np := 105) (l2 := [some (eR a0), some (eI (a1)), some (eI (i5)), some (eI (v31))]) (s2 := [eI (8), eR a0]) rfl rfl rfl ?_
                  refine w_cw (np := 108) (as := [eI (8)]) (l2 := [some (eR a0), some (eI (8))]) (rest := []) rfl rfl rfl (Nat.ble_eq.mp rfl) rfl rfl rfl (I40.kd gA0 (by decide) (n := 14) rfl) rfl ?_
                  refine w_t (np := 1) (l2 := [some (eR a0), some (eI (8))]) (s2 := [eR a0]) rfl (s_an rfl (pos_g I40 gA0 (by decide))) rfl ?_
                  refine w_t (np := 2) (l2 := [some (eR a0), some (eI (8))]) (s2 := [eI (8), eR a0]) rfl rfl rfl ?_
                  refine j_pf (np := 5) (w := 8) rfl rfl I40 gA0 (by decide) (n := 14) rfl rfl (hO_i (lo := -2147483648) (hi := 2147483647) rfl (by decide)) ?_
                  intro m46 I47 W48
                  have F49 : Fr l_196 0 0 g μ m46 := F44.w W48 gA0 rfl
                  refine w_t (np := 6) (l2 := [some (eR a0), some (eI (8))]) (s2 := [eI (-1)]) rfl rfl rfl ?_
                  refine b_ri rfl rfl ?_
                  show ex_q (dt_fg L ρ) rc (d + 7, (196, 108, [some (eR a0), some (eI (a1)), some (eI (i5)), some (eI (v31))], [eI (-1)]), f :: F, m46)
                  exact b_ri rfl rfl (K m46 (-1) I47 F49 (by decide))
              · have b39 : 24 ≤ v35 ∧ v35 ≤ 24 := by omega
                refine w_t (np := 82) (l2 := [some (eR a0), some (eI (a1)), some (eI (i5)), some (eI (v31))]) (s2 := [eR a0]) rfl (s_an rfl (pos_g I29 gA0 (by decide))) rfl ?_
                refine w_t (np := 83) (l2 := [some (eR a0), some (eI (a1)), some (eI (i5)), some (eI (v31))]) (s2 := [eI (3), eR a0]) rfl rfl rfl ?_
                refine w_cw (np := 86) (as := [eI (3)]) (l2 := [some (eR a0), some (eI (3))]) (rest := []) rfl rfl rfl (Nat.ble_eq.mp rfl) rfl rfl rfl (I29.kd gA0 (by decide) (n := 14) rfl) rfl ?_
                refine w_t (np := 1) (l2 := [some (eR a0), some (eI (3))]) (s2 := [eR a0]) rfl (s_an rfl (pos_g I29 gA0 (by decide))) rfl ?_
                refine w_t (np := 2) (l2 := [some (eR a0), some (eI (3))]) (s2 := [eI (3), eR a0]) rfl rfl rfl ?_
                refine j_pf (np := 5) (w := 3) rfl rfl I29 gA0 (by decide) (n := 14) rfl rfl (hO_i (lo := -2147483648) (hi := 2147483647) rfl (by decide)) ?_
                intro m39 I40 W41
                have F42 : Fr l_196 0 0 g μ m39 := F33.w W41 gA0 rfl
                refine w_t (np := 6) (l2 := [some (eR a0), some (eI (3))]) (s2 := [eI (-1)]) rfl rfl rfl ?_
                refine b_ri rfl rfl ?_
                show ex_q (dt_fg L ρ) rc (d + 7, (196, 86, [some (eR a0), some (eI (a1)), some (eI (i5)), some (eI (v31))], [eI (-1)]), f :: F, m39)
                exact b_ri rfl rfl (K m39 (-1) I40 F42 (by decide))
            · have b35 : -2147483648 ≤ v31 ∧ v31 ≤ -1 := by omega
              refine w_t (np := 64) (l2 := [some (eR a0), some (eI (a1)), some (eI (i5)), some (eI (v31))]) (s2 := [eR a0]) rfl (s_an rfl (pos_g I29 gA0 (by decide))) rfl ?_
              refine w_t (np := 65) (l2 := [some (eR a0), some (eI (a1)), some (eI (i5)), some (eI (v31))]) (s2 := [eI (i5), eR a0]) rfl rfl rfl ?_
              refine w_cw (np := 68) (as := [eI (i5)]) (l2 := [some (eR a0), some (eI (i5))]) (rest := []) rfl rfl rfl (Nat.ble_eq.mp rfl) rfl rfl rfl (I29.kd gA0 (by decide) (n := 14) rfl) rfl ?_
              refine w_t (np := 1) (l2 := [some (eR a0), some (eI (i5))]) (s2 := [eR a0]) rfl (s_an rfl (pos_g I29 gA0 (by decide))) rfl ?_
              refine w_t (np := 2) (l2 := [some (eR a0), some (eI (i5))]) (s2 := [eI (0), eR a0]) rfl rfl rfl ?_
              refine j_pf (np := 5) (w := 0) rfl rfl I29 gA0 (by decide) (n := 14) rfl rfl (hO_i (lo := -2147483648) (hi := 2147483647) rfl (by decide)) ?_
              intro m35 I36 W37
              have F38 : Fr l_196 0 0 g μ m35 := F33.w W37 gA0 rfl
              refine w_t (np := 6) (l2 := [some (eR a0), some (eI (i5))]) (s2 := [eI (i5)]) rfl rfl rfl ?_
              refine b_ri rfl rfl ?_
              show ex_q (dt_fg L ρ) rc (d + 7, (196, 68, [some (eR a0), some (eI (a1)), some (eI (i5)), some (eI (v31))], [eI (i5)]), f :: F, m35)
              exact b_ri rfl rfl (K m35 (i5) I36 F38 (by omega))
          · have b28 : 0 ≤ v24 ∧ v24 ≤ 2147483647 := by omega
            refine w_t (np := 40) (l2 := [some (eR a0), some (eI (a1)), some (eI (i5)), o7]) (s2 := [eR a0]) rfl (s_an rfl (pos_g I22 gA0 (by decide))) rfl ?_
            refine w_t (np := 42) (l2 := [some (eR a0), some (eI (a1)), some (eI (i5)), o7]) (s2 := [eI (8), eR a0]) rfl rfl rfl ?_
            refine w_cw (np := 45) (as := [eI (8)]) (l2 := [some (eR a0), some (eI (8))]) (rest := []) rfl rfl rfl (Nat.ble_eq.mp rfl) rfl rfl rfl (I22.kd gA0 (by decide) (n := 14) rfl) rfl ?_
            refine w_t (np := 1) (l2 := [some (eR a0), some (eI (8))]) (s2 := [eR a0]) rfl (s_an rfl (pos_g I22 gA0 (by decide))) rfl ?_
            refine w_t (np := 2) (l2 := [some (eR a0), some (eI (8))]) (s2 := [eI (8), eR a0]) rfl rfl rfl ?_
            refine j_pf (np := 5) (w := 8) rfl rfl I22 gA0 (by decide) (n := 14) rfl rfl (hO_i (lo := -2147483648) (hi := 2147483647) rfl (by decide)) ?_
            intro m28 I29 W30
            have F31 : Fr l_196 0 0 g μ m28 := F26.w W30 gA0 rfl
            refine w_t (np := 6) (l2 := [some (eR a0), some (eI (8))]) (s2 := [eI (-1)]) rfl rfl rfl ?_
            refine b_ri rfl rfl ?_
            show ex_q (dt_fg L ρ) rc (d + 7, (196, 45, [some (eR a0), some (eI (a1)), some (eI (i5)), o7], [eI (-1)]), f :: F, m28)
            exact b_ri rfl rfl (K m28 (-1) I29 F31 (by decide))
      exact hL19 _ μ (0) (none) hI F0 (by decide)     rfl
    · have b3 : 25 ≤ a1 ∧ a1 ≤ 2147483647 := by omega
      refine w_t (np := 12) (l2 := [some (eR a0), some (eI (a1)), none, none]) (s2 := [eR a0]) rfl (s_an rfl (pos_g hI gA0 (by decide))) rfl ?_
      refine w_t (np := 13) (l2 := [some (eR a0), some (eI (a1)), none, none]) (s2 := [eI (1), eR a0]) rfl rfl rfl ?_
      refine w_cw (np := 16) (as := [eI (1)]) (l2 := [some (eR a0), some (eI (1))]) (rest := []) rfl rfl rfl (Nat.ble_eq.mp rfl) rfl rfl rfl (hI.kd gA0 (by decide) (n := 14) rfl) rfl ?_
      refine w_t (np := 1) (l2 := [some (eR a0), some (eI (1))]) (s2 := [eR a0]) rfl (s_an rfl (pos_g hI gA0 (by decide))) rfl ?_
      refine w_t (np := 2) (l2 := [some (eR a0), some (eI (1))]) (s2 := [eI (1), eR a0]) rfl rfl rfl ?_
      refine j_pf (np := 5) (w := 1) rfl rfl hI gA0 (by decide) (n := 14) rfl rfl (hO_i (lo := -2147483648) (hi := 2147483647) rfl (by decide)) ?_
      intro m3 I4 W5
      have F6 : Fr l_196 0 0 g μ m3 := F0.w W5 gA0 rfl
      refine w_t (np := 6) (l2 := [some (eR a0), some (eI (1))]) (s2 := [eI (-1)]) rfl rfl rfl ?_
      refine b_ri rfl rfl ?_
      show ex_q (dt_fg L ρ) rc (d + 7, (196, 16, [some (eR a0), some (eI (a1)), none, none], [eI (-1)]), f :: F, m3)
      exact b_ri rfl rfl (K m3 (-1) I4 F6 (by decide))
