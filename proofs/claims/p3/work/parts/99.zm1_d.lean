def l_59 : List Nat := [6155, 6149, 6150, 6151, 6152, 6153, 6154, 6656, 7430, 7431, 8448, 7936, 8192, 7680, 8704]
theorem s_59 {L : Nat} {ρ : Nat → Int} {rc : eQ} {d : Nat} {f : eFr} {F : List eFr} {μ : eM} {g : Nat → Nat} {a0 : Nat} {a1 : Nat} (hI : SI g μ) (gA0 : g a0 = 24) (gA1 : g a1 = 29) (K : ∀ (μ2 : eM) (v : Int), SI g μ2 → Fr l_59 0 0 g μ μ2 → (0 ≤ v ∧ v ≤ 1) → ex_q (dt_fg L ρ) rc (d + 7, (f.1, f.2.1, f.2.2.1, eI v :: f.2.2.2), F, μ2)) : ex_q (dt_fg L ρ) rc (d + 6, (59, 0, [some (eR a0), some (eR a1), none, none, none, none, none], []), f :: F, μ) := by
  have F0 : Fr l_59 0 0 g μ μ := Fr.r
  refine w_t (np := 1) (l2 := [some (eR a0), some (eR a1), none, none, none, none, none]) (s2 := [eR a0]) rfl (s_an rfl (pos_g hI gA0 (by decide))) rfl ?_
  refine j_gi (np := 4) rfl rfl rfl hI gA0 (by decide) (n := 11) rfl rfl (lo := 0) (hi := 900) rfl ?_
  intro v1 e2 b3
  refine w_t (np := 5) (l2 := [some (eR a0), some (eR a1), some (eI (v1)), none, none, none, none]) (s2 := []) rfl rfl rfl ?_
  refine w_t (np := 6) (l2 := [some (eR a0), some (eR a1), some (eI (v1)), none, none, none, none]) (s2 := [eR a0]) rfl (s_an rfl (pos_g hI gA0 (by decide))) rfl ?_
  refine j_ls (np := 8) rfl rfl rfl ?_
  refine w_cw (np := 11) (as := [eR 9]) (l2 := [some (eR a0), some (eR 9), none]) (rest := []) rfl rfl rfl (Nat.ble_eq.mp rfl) rfl rfl rfl (hI.kd gA0 (by decide) (n := 11) rfl) rfl ?_
  refine s_70_9 hI gA0 ?_
  intro v4 b5
  show ex_q (dt_fg L ρ) rc (d + 6, (59, 11, [some (eR a0), some (eR a1), some (eI (v1)), none, none, none, none], [eI (v4)]), f :: F, μ)
  refine b_ieq (t1 := 18) (t2 := 14) rfl rfl rfl (ev_w_in (by omega) (by omega)) (fun g6 => ?_) (fun g6 => ?_)
  · have b7 : 0 ≤ v4 ∧ v4 ≤ 0 := by omega
    refine w_t (np := 19) (l2 := [some (eR a0), some (eR a1), some (eI (v1)), none, none, none, none]) (s2 := [eR a0]) rfl (s_an rfl (pos_g hI gA0 (by decide))) rfl ?_
    refine j_ls (np := 21) rfl rfl rfl ?_
    refine w_cw (np := 24) (as := [eR 10]) (l2 := [some (eR a0), some (eR 10), none]) (rest := []) rfl rfl rfl (Nat.ble_eq.mp rfl) rfl rfl rfl (hI.kd gA0 (by decide) (n := 11) rfl) rfl ?_
    refine s_70_10 hI gA0 ?_
    intro v7 b8
    show ex_q (dt_fg L ρ) rc (d + 6, (59, 24, [some (eR a0), some (eR a1), some (eI (v1)), none, none, none, none], [eI (v7)]), f :: F, μ)
    refine b_ieq (t1 := 31) (t2 := 27) rfl rfl rfl (ev_w_in (by omega) (by omega)) (fun g9 => ?_) (fun g9 => ?_)
    · have b10 : 0 ≤ v7 ∧ v7 ≤ 0 := by omega
      refine w_t (np := 32) (l2 := [some (eR a0), some (eR a1), some (eI (v1)), none, none, none, none]) (s2 := [eI (-1)]) rfl rfl rfl ?_
      refine w_t (np := 33) (l2 := [some (eR a0), some (eR a1), some (eI (v1)), some (eI (-1)), none, none, none]) (s2 := []) rfl rfl rfl ?_
      refine w_t (np := 34) (l2 := [some (eR a0), some (eR a1), some (eI (v1)), some (eI (-1)), none, none, none]) (s2 := [eI (-1)]) rfl rfl rfl ?_
      refine b_ige (t1 := 42) (t2 := 37) rfl rfl rfl rfl (fun g10 => absurd g10 (by decide)) (fun g10 => ?_)
      refine w_t (np := 38) (l2 := [some (eR a0), some (eR a1), some (eI (v1)), some (eI (-1)), none, none, none]) (s2 := [eR a0]) rfl (s_an rfl (pos_g hI gA0 (by decide))) rfl ?_
      refine w_cw (np := 41) (as := []) (l2 := [some (eR a0)]) (rest := []) rfl rfl rfl (Nat.ble_eq.mp rfl) rfl rfl rfl (hI.kd gA0 (by decide) (n := 11) rfl) rfl ?_
      refine w_t (np := 1) (l2 := [some (eR a0)]) (s2 := [eR a0]) rfl (s_an rfl (pos_g hI gA0 (by decide))) rfl ?_
      refine w_t (np := 2) (l2 := [some (eR a0)]) (s2 := [eR a0, eR a0]) rfl (s_an rfl (pos_g hI gA0 (by decide))) rfl ?_
      refine j_gi (np := 5) rfl rfl rfl hI gA0 (by decide) (n := 11) rfl rfl (lo := -2147483648) (hi := 2147483647) rfl ?_
      intro v11 e12 b13
      refine w_t (np := 6) (l2 := [some (eR a0)]) (s2 := [eI (4), eI (v11), eR a0]) rfl rfl rfl ?_
      refine b_cne (t1 := 13) (t2 := 9) rfl rfl rfl (ev_w_in (by omega) (by omega)) rfl (fun g14 => ?_) (fun g14 => ?_)
      · refine w_t (np := 14) (l2 := [some (eR a0)]) (s2 := [eI (2), eR a0]) rfl rfl rfl ?_
        refine w_t (np := 15) (l2 := [some (eR a0)]) (s2 := [eR a0, eI (2), eR a0]) rfl (s_an rfl (pos_g hI gA0 (by decide))) rfl ?_
        refine w_gf (np := 18) (v := eI (v1)) rfl rfl (hI.kd gA0 (by decide) (n := 11) rfl) (by rw [e2]; rfl) ?_
        refine w_cw (np := 21) (as := [eI (2), eI (v1)]) (l2 := [some (eR a0), some (eI (2)), some (eI (v1))]) (rest := []) rfl rfl rfl (Nat.ble_eq.mp rfl) rfl rfl rfl (hI.kd gA0 (by decide) (n := 11) rfl) rfl ?_
        refine w_t (np := 1) (l2 := [some (eR a0), some (eI (2)), some (eI (v1))]) (s2 := [eR a0]) rfl (s_an rfl (pos_g hI gA0 (by decide))) rfl ?_
        refine w_t (np := 2) (l2 := [some (eR a0), some (eI (2)), some (eI (v1))]) (s2 := [eI (2), eR a0]) rfl rfl rfl ?_
        refine j_pf (np := 5) (w := 2) rfl rfl hI gA0 (by decide) (n := 11) rfl rfl (hO_i (lo := -2147483648) (hi := 2147483647) rfl (by decide)) ?_
        intro m15 I16 W17
        have F18 : Fr l_59 0 0 g μ m15 := F0.w W17 gA0 rfl
        refine w_t (np := 6) (l2 := [some (eR a0), some (eI (2)), some (eI (v1))]) (s2 := [eR a0]) rfl (s_an rfl (pos_g I16 gA0 (by decide))) rfl ?_
        refine w_t (np := 7) (l2 := [some (eR a0), some (eI (2)), some (eI (v1))]) (s2 := [eI (v1), eR a0]) rfl rfl rfl ?_
        refine j_pf (np := 10) (w := v1) rfl rfl I16 gA0 (by decide) (n := 11) rfl rfl (hO_i (lo := -2147483648) (hi := 2147483647) rfl (by omega)) ?_
        intro m19 I20 W21
        have F22 : Fr l_59 0 0 g μ m19 := F18.w W21 gA0 rfl
        refine w_t (np := 11) (l2 := [some (eR a0), some (eI (2)), some (eI (v1))]) (s2 := [eI (0)]) rfl rfl rfl ?_
        refine b_rz rfl rfl (Or.inl rfl) ?_
        show ex_q (dt_fg L ρ) rc (d + 5, (62, 21, [some (eR a0)], [eI (0)]), (59, 41, [some (eR a0), some (eR a1), some (eI (v1)), some (eI (-1)), none, none, none], []) :: f :: F, m19)
        refine b_rz rfl rfl (Or.inl rfl) ?_
        show ex_q (dt_fg L ρ) rc (d + 6, (59, 41, [some (eR a0), some (eR a1), some (eI (v1)), some (eI (-1)), none, none, none], [eI (0)]), f :: F, m19)
        exact b_rz rfl rfl (Or.inl rfl) (K m19 (0) I20 F22 (by decide))
      · have b15 : 4 ≤ v11 ∧ v11 ≤ 4 := by omega
        refine w_t (np := 10) (l2 := [some (eR a0)]) (s2 := [eI (1), eR a0]) rfl rfl rfl ?_
        refine w_go (t1 := 14) rfl rfl ?_
        refine w_t (np := 15) (l2 := [some (eR a0)]) (s2 := [eR a0, eI (1), eR a0]) rfl (s_an rfl (pos_g hI gA0 (by decide))) rfl ?_
        refine w_gf (np := 18) (v := eI (v1)) rfl rfl (hI.kd gA0 (by decide) (n := 11) rfl) (by rw [e2]; rfl) ?_
        refine w_cw (np := 21) (as := [eI (1), eI (v1)]) (l2 := [some (eR a0), some (eI (1)), some (eI (v1))]) (rest := []) rfl rfl rfl (Nat.ble_eq.mp rfl) rfl rfl rfl (hI.kd gA0 (by decide) (n := 11) rfl) rfl ?_
        refine w_t (np := 1) (l2 := [some (eR a0), some (eI (1)), some (eI (v1))]) (s2 := [eR a0]) rfl (s_an rfl (pos_g hI gA0 (by decide))) rfl ?_
        refine w_t (np := 2) (l2 := [some (eR a0), some (eI (1)), some (eI (v1))]) (s2 := [eI (1), eR a0]) rfl rfl rfl ?_
        refine j_pf (np := 5) (w := 1) rfl rfl hI gA0 (by decide) (n := 11) rfl rfl (hO_i (lo := -2147483648) (hi := 2147483647) rfl (by decide)) ?_
        intro m15 I16 W17
        have F18 : Fr l_59 0 0 g μ m15 := F0.w W17 gA0 rfl
        refine w_t (np := 6) (l2 := [some (eR a0), some (eI (1)), some (eI (v1))]) (s2 := [eR a0]) rfl (s_an rfl (pos_g I16 gA0 (by decide))) rfl ?_
        refine w_t (np := 7) (l2 := [some (eR a0), some (eI (1)), some (eI (v1))]) (s2 := [eI (v1), eR a0]) rfl rfl rfl ?_
        refine j_pf (np := 10) (w := v1) rfl rfl I16 gA0 (by decide) (n := 11) rfl rfl (hO_i (lo := -2147483648) (hi := 2147483647) rfl (by omega)) ?_
        intro m19 I20 W21
        have F22 : Fr l_59 0 0 g μ m19 := F18.w W21 gA0 rfl
        refine w_t (np := 11) (l2 := [some (eR a0), some (eI (1)), some (eI (v1))]) (s2 := [eI (0)]) rfl rfl rfl ?_
        refine b_rz rfl rfl (Or.inl rfl) ?_
        show ex_q (dt_fg L ρ) rc (d + 5, (62, 21, [some (eR a0)], [eI (0)]), (59, 41, [some (eR a0), some (eR a1), some (eI (v1)), some (eI (-1)), none, none, none], []) :: f :: F, m19)
        refine b_rz rfl rfl (Or.inl rfl) ?_
        show ex_q (dt_fg L ρ) rc (d + 6, (59, 41, [some (eR a0), some (eR a1), some (eI (v1)), some (eI (-1)), none, none, none], [eI (0)]), f :: F, m19)
        exact b_rz rfl rfl (Or.inl rfl) (K m19 (0) I20 F22 (by decide))
    · have b10 : 1 ≤ v7 ∧ v7 ≤ 1 := by omega
      refine w_t (np := 28) (l2 := [some (eR a0), some (eR a1), some (eI (v1)), none, none, none, none]) (s2 := [eI (1)]) rfl rfl rfl ?_
      refine w_go (t1 := 32) rfl rfl ?_
      refine w_t (np := 33) (l2 := [some (eR a0), some (eR a1), some (eI (v1)), some (eI (1)), none, none, none]) (s2 := []) rfl rfl rfl ?_
      refine w_t (np := 34) (l2 := [some (eR a0), some (eR a1), some (eI (v1)), some (eI (1)), none, none, none]) (s2 := [eI (1)]) rfl rfl rfl ?_
      refine b_ige (t1 := 42) (t2 := 37) rfl rfl rfl rfl (fun g10 => ?_) (fun g10 => absurd g10 (by decide))
      refine w_t (np := 43) (l2 := [some (eR a0), some (eR a1), some (eI (v1)), some (eI (1)), none, none, none]) (s2 := [eR a1]) rfl (s_an rfl (pos_g hI gA1 (by decide))) rfl ?_
      refine j_gi (np := 46) rfl rfl rfl hI gA1 (by decide) (n := 7) rfl rfl (lo := 0) (hi := 24) rfl ?_
      intro v11 e12 b13
      refine w_t (np := 48) (l2 := [some (eR a0), some (eR a1), some (eI (v1)), some (eI (1)), none, none, none]) (s2 := [eI (24), eI (v11)]) rfl rfl rfl ?_
      refine b_clt (t1 := 58) (t2 := 51) rfl rfl rfl (ev_w_in (by omega) (by omega)) rfl (fun g14 => ?_) (fun g14 => ?_)
      · have b15 : 0 ≤ v11 ∧ v11 ≤ 23 := by omega
        refine w_t (np := 59) (l2 := [some (eR a0), some (eR a1), some (eI (v1)), some (eI (1)), none, none, none]) (s2 := [eR a0]) rfl (s_an rfl (pos_g hI gA0 (by decide))) rfl ?_
        refine w_cw (np := 62) (as := []) (l2 := [some (eR a0), none, none]) (rest := []) rfl rfl rfl (Nat.ble_eq.mp rfl) rfl rfl rfl (hI.kd gA0 (by decide) (n := 11) rfl) rfl ?_
        obtain ⟨v15, e16, b17⟩ := hI.pk (k := 7) gA0 (by decide) (n := 11) rfl rfl (lo := -2147483648) (hi := 2147483647) rfl
        obtain ⟨v18, e19, b20⟩ := hI.pk (k := 4) gA0 (by decide) (n := 11) rfl rfl (lo := -2147483648) (hi := 2147483647) rfl
        refine s_67v hI gA0 e16 e19 ?_
        intro m21 v24 v26 I22 F23 e25 e27 h28
        have F29 : Fr l_59 0 0 g μ m21 := F0.t F23 rfl
        have b30 : -2147483648 ≤ v24 ∧ v24 ≤ 2147483647 := by
          rw [← e25]
          exact I22.int gA0 (by decide) (n := 11) rfl (by decide) rfl
        have b31 : -2147483648 ≤ v26 ∧ v26 ≤ 2147483647 := by
          rw [← e27]
          exact I22.int gA0 (by decide) (n := 11) rfl (by decide) rfl
        show ex_q (dt_fg L ρ) rc (d + 6, (59, 62, [some (eR a0), some (eR a1), some (eI (v1)), some (eI (1)), none, none, none], []), f :: F, m21)
        refine w_t (np := 63) (l2 := [some (eR a0), some (eR a1), some (eI (v1)), some (eI (1)), none, none, none]) (s2 := [eI (0)]) rfl rfl rfl ?_
        refine w_t (np := 65) (l2 := [some (eR a0), some (eR a1), some (eI (v1)), some (eI (1)), some (eI (0)), none, none]) (s2 := []) rfl rfl rfl ?_
        have hL65 : ∀ (n32 : Nat) (m36 : eM) (i34 : Int), SI g m36 → Fr l_59 0 0 g μ m36 → (0 ≤ i34 ∧ i34 ≤ 4) → m36.1 a1 5 = v11 → n32 = (4 - i34).toNat → ex_q (dt_fg L ρ) rc (d + 6, (59, 65, [some (eR a0), some (eR a1), some (eI (v1)), some (eI (1)), some (eI (i34)), none, none], []), f :: F, m36) := by
          intro n32
          induction n32 using Nat.strongRecOn with
          | _ n32 ih33 =>
          intro m36 i34 I37 F38 b35 k39 hn40
          refine w_t (np := 67) (l2 := [some (eR a0), some (eR a1), some (eI (v1)), some (eI (1)), some (eI (i34)), none, none]) (s2 := [eI (i34)]) rfl rfl rfl ?_
          refine w_t (np := 68) (l2 := [some (eR a0), some (eR a1), some (eI (v1)), some (eI (1)), some (eI (i34)), none, none]) (s2 := [eI (4), eI (i34)]) rfl rfl rfl ?_
          refine b_cge (t1 := 88) (t2 := 71) rfl rfl rfl (ev_w_in (by omega) (by omega)) rfl (fun g41 => ?_) (fun g41 => ?_)
          · have b42 : 4 ≤ i34 ∧ i34 ≤ 4 := by omega
            refine w_t (np := 89) (l2 := [some (eR a0), some (eR a1), some (eI (v1)), some (eI (1)), some (eI (i34)), none, none]) (s2 := [eR a0]) rfl (s_an rfl (pos_g I37 gA0 (by decide))) rfl ?_
            refine j_ls (np := 91) rfl rfl rfl ?_
            refine w_t (np := 93) (l2 := [some (eR a0), some (eR a1), some (eI (v1)), some (eI (1)), some (eI (i34)), none, none]) (s2 := [eI (9), eR 11, eR a0]) rfl rfl rfl ?_
            refine w_cw (np := 96) (as := [eR 11, eI (9)]) (l2 := [some (eR a0), some (eR 11), some (eI (9))]) (rest := []) rfl rfl rfl (Nat.ble_eq.mp rfl) rfl rfl rfl (I37.kd gA0 (by decide) (n := 11) rfl) rfl ?_
            obtain ⟨v42, e43, b44⟩ := I37.pk (k := 8) gA0 (by decide) (n := 11) rfl rfl (lo := -2147483648) (hi := 2147483647) rfl
            refine s_61_11 I37 gA0 e43 ?_
            intro m45 v48 v50 I46 F47 b49 e51 h52
            have F53 : Fr l_59 0 0 g μ m45 := F38.t F47 rfl
            have b54 : -2147483648 ≤ v50 ∧ v50 ≤ 2147483647 := by
              rw [← e51]
              exact I46.int gA0 (by decide) (n := 11) rfl (by decide) rfl
            show ex_q (dt_fg L ρ) rc (d + 6, (59, 96, [some (eR a0), some (eR a1), some (eI (v1)), some (eI (1)), some (eI (i34)), none, none], [eI (v48)]), f :: F, m45)
            refine b_ine (t1 := 101) (t2 := 99) rfl rfl rfl (ev_w_in (by omega) (by omega)) (fun g55 => ?_) (fun g55 => ?_)
            · have b56 : 1 ≤ v48 ∧ v48 ≤ 1 := by omega
              refine w_t (np := 102) (l2 := [some (eR a0), some (eR a1), some (eI (v1)), some (eI (1)), some (eI (i34)), none, none]) (s2 := [eR a0]) rfl (s_an rfl (pos_g I46 gA0 (by decide))) rfl ?_
              refine w_gf (np := 105) (v := eI (v50)) rfl rfl (I46.kd gA0 (by decide) (n := 11) rfl) (by rw [e51]; rfl) ?_
              refine w_t (np := 107) (l2 := [some (eR a0), some (eR a1), some (eI (v1)), some (eI (1)), some (eI (v50)), none, none]) (s2 := []) rfl rfl rfl ?_
              refine w_t (np := 108) (l2 := [some (eR a0), some (eR a1), some (eI (v1)), some (eI (1)), some (eI (v50)), none, none]) (s2 := [eR a0]) rfl (s_an rfl (pos_g I46 gA0 (by decide))) rfl ?_
              refine j_ls (np := 110) rfl rfl rfl ?_
              refine w_t (np := 111) (l2 := [some (eR a0), some (eR a1), some (eI (v1)), some (eI (1)), some (eI (v50)), none, none]) (s2 := [eI (1), eR 12, eR a0]) rfl rfl rfl ?_
              refine w_cw (np := 114) (as := [eR 12, eI (1)]) (l2 := [some (eR a0), some (eR 12), some (eI (1))]) (rest := []) rfl rfl rfl (Nat.ble_eq.mp rfl) rfl rfl rfl (I46.kd gA0 (by decide) (n := 11) rfl) rfl ?_
              refine s_61_12 I46 gA0 e51 ?_
              intro m56 v59 v61 I57 F58 b60 e62 h63
              have F64 : Fr l_59 0 0 g μ m56 := F53.t F58 rfl
              have b65 : -2147483648 ≤ v61 ∧ v61 ≤ 2147483647 := by
                rw [← e62]
                exact I57.int gA0 (by decide) (n := 11) rfl (by decide) rfl
              show ex_q (dt_fg L ρ) rc (d + 6, (59, 114, [some (eR a0), some (eR a1), some (eI (v1)), some (eI (1)), some (eI (v50)), none, none], [eI (v59)]), f :: F, m56)
              refine b_ine (t1 := 119) (t2 := 117) rfl rfl rfl (ev_w_in (by omega) (by omega)) (fun g66 => ?_) (fun g66 => ?_)
              · have b67 : 1 ≤ v59 ∧ v59 ≤ 1 := by omega
                refine w_t (np := 120) (l2 := [some (eR a0), some (eR a1), some (eI (v1)), some (eI (1)), some (eI (v50)), none, none]) (s2 := [eR a0]) rfl (s_an rfl (pos_g I57 gA0 (by decide))) rfl ?_
                refine w_gf (np := 123) (v := eI (v61)) rfl rfl (I57.kd gA0 (by decide) (n := 11) rfl) (by rw [e62]; rfl) ?_
                refine w_t (np := 125) (l2 := [some (eR a0), some (eR a1), some (eI (v1)), some (eI (1)), some (eI (v50)), some (eI (v61)), none]) (s2 := []) rfl rfl rfl ?_
                refine w_t (np := 126) (l2 := [some (eR a0), some (eR a1), some (eI (v1)), some (eI (1)), some (eI (v50)), some (eI (v61)), none]) (s2 := [eR a0]) rfl (s_an rfl (pos_g I57 gA0 (by decide))) rfl ?_
                refine w_t (np := 128) (l2 := [some (eR a0), some (eR a1), some (eI (v1)), some (eI (1)), some (eI (v50)), some (eI (v61)), none]) (s2 := [eI (59), eR a0]) rfl rfl rfl ?_
                refine w_cw (np := 131) (as := [eI (59)]) (l2 := [some (eR a0), some (eI (59))]) (rest := []) rfl rfl rfl (Nat.ble_eq.mp rfl) rfl rfl rfl (I57.kd gA0 (by decide) (n := 11) rfl) rfl ?_
                refine s_69 (a1 := 59) I57 gA0 (by decide) ?_
                intro v67 b68
                show ex_q (dt_fg L ρ) rc (d + 6, (59, 131, [some (eR a0), some (eR a1), some (eI (v1)), some (eI (1)), some (eI (v50)), some (eI (v61)), none], [eI (v67)]), f :: F, m56)
                refine b_ine (t1 := 139) (t2 := 134) rfl rfl rfl (ev_w_in (by omega) (by omega)) (fun g69 => ?_) (fun g69 => ?_)
                · have b70 : 1 ≤ v67 ∧ v67 ≤ 1 := by omega
                  refine w_t (np := 140) (l2 := [some (eR a0), some (eR a1), some (eI (v1)), some (eI (1)), some (eI (v50)), some (eI (v61)), none]) (s2 := [eR a1]) rfl (s_an rfl (pos_g I57 gA1 (by decide))) rfl ?_
                  refine w_t (np := 141) (l2 := [some (eR a0), some (eR a1), some (eI (v1)), some (eI (1)), some (eI (v50)), some (eI (v61)), none]) (s2 := [eI (1), eR a1]) rfl rfl rfl ?_
                  refine w_t (np := 142) (l2 := [some (eR a0), some (eR a1), some (eI (v1)), some (eI (1)), some (eI (v50)), some (eI (v61)), none]) (s2 := [eR a0, eI (1), eR a1]) rfl (s_an rfl (pos_g I57 gA0 (by decide))) rfl ?_
                  refine j_gr (np := 145) rfl rfl I57 gA0 (by decide) (n := 11) rfl rfl rfl ?_
                  intro v70 e71 b72 z73
                  have b72 : g v70 = 26 := Nat.eq_of_beq_eq_true b72
                  refine w_t (np := 146) (l2 := [some (eR a0), some (eR a1), some (eI (v1)), some (eI (1)), some (eI (v50)), some (eI (v61)), none]) (s2 := [eI (0), eR v70, eI (1), eR a1]) rfl rfl rfl ?_
                  refine j_al (np := 147) rfl rfl I57 b72 (by decide) (n := 4) rfl rfl (lo := -2147483648) (hi := 2147483647) (fun _ => rfl) (by decide) (by decide) ?_
                  intro v74 e75 b76
                  refine w_t (np := 148) (l2 := [some (eR a0), some (eR a1), some (eI (v1)), some (eI (1)), some (eI (v50)), some (eI (v61)), none]) (s2 := [eR a0, eI (v74), eI (1), eR a1]) rfl (s_an rfl (pos_g I57 gA0 (by decide))) rfl ?_
                  refine w_gf (np := 151) (v := eR v70) rfl rfl (I57.kd gA0 (by decide) (n := 11) rfl) (by rw [e71]; rfl) ?_
                  refine w_t (np := 152) (l2 := [some (eR a0), some (eR a1), some (eI (v1)), some (eI (1)), some (eI (v50)), some (eI (v61)), none]) (s2 := [eI (1), eR v70, eI (v74), eI (1), eR a1]) rfl rfl rfl ?_
                  refine j_al (np := 153) rfl rfl I57 b72 (by decide) (n := 4) rfl rfl (lo := -2147483648) (hi := 2147483647) (fun _ => rfl) (by decide) (by decide) ?_
                  intro v77 e78 b79
                  refine w_t (np := 154) (l2 := [some (eR a0), some (eR a1), some (eI (v1)), some (eI (1)), some (eI (v50)), some (eI (v61)), none]) (s2 := [eR a0, eI (v77), eI (v74), eI (1), eR a1]) rfl (s_an rfl (pos_g I57 gA0 (by decide))) rfl ?_
                  refine w_gf (np := 157) (v := eR v70) rfl rfl (I57.kd gA0 (by decide) (n := 11) rfl) (by rw [e71]; rfl) ?_
                  refine w_t (np := 158) (l2 := [some (eR a0), some (eR a1), some (eI (v1)), some (eI (1)), some (eI (v50)), some (eI (v61)), none]) (s2 := [eI (2), eR v70, eI (v77), eI (v74), eI (1), eR a1]) rfl rfl rfl ?_
                  refine j_al (np := 159) rfl rfl I57 b72 (by decide) (n := 4) rfl rfl (lo := -2147483648) (hi := 2147483647) (fun _ => rfl) (by decide) (by decide) ?_
                  intro v80 e81 b82
                  refine w_t (np := 160) (l2 := [some (eR a0), some (eR a1), some (eI (v1)), some (eI (1)), some (eI (v50)), some (eI (v61)), none]) (s2 := [eR a0, eI (v80), eI (v77), eI (v74), eI (1), eR a1]) rfl (s_an rfl (pos_g I57 gA0 (by decide))) rfl ?_
                  refine w_gf (np := 163) (v := eR v70) rfl rfl (I57.kd gA0 (by decide) (n := 11) rfl) (by rw [e71]; rfl) ?_
                  refine w_t (np := 164) (l2 := [some (eR a0), some (eR a1), some (eI (v1)), some (eI (1)), some (eI (v50)), some (eI (v61)), none]) (s2 := [eI (3), eR v70, eI (v80), eI (v77), eI (v74), eI (1), eR a1]) rfl rfl rfl ?_
                  refine j_al (np := 165) rfl rfl I57 b72 (by decide) (n := 4) rfl rfl (lo := -2147483648) (hi := 2147483647) (fun _ => rfl) (by decide) (by decide) ?_
                  intro v83 e84 b85
                  refine w_cu (np := 168) (as := [eI (v74), eI (v77), eI (v80), eI (v83)]) (l2 := [some (eI (v74)), some (eI (v77)), some (eI (v80)), some (eI (v83))]) (rest := [eI (1), eR a1]) rfl rfl rfl (Nat.ble_eq.mp rfl) rfl rfl rfl rfl ?_
                  refine s_71 (a0 := v74) (a1 := v77) (a2 := v80) (a3 := v83) I57 (by omega) (by omega) (by omega) (by omega) ?_
                  intro v86 b87
                  show ex_q (dt_fg L ρ) rc (d + 6, (59, 168, [some (eR a0), some (eR a1), some (eI (v1)), some (eI (1)), some (eI (v50)), some (eI (v61)), none], [eJ (v86), eI (1), eR a1]), f :: F, m56)
                  refine w_t (np := 170) (l2 := [some (eR a0), some (eR a1), some (eI (v1)), some (eI (1)), some (eI (v50)), some (eI (v61)), none]) (s2 := [eI (v50), eJ (v86), eI (1), eR a1]) rfl rfl rfl ?_
                  refine w_t (np := 172) (l2 := [some (eR a0), some (eR a1), some (eI (v1)), some (eI (1)), some (eI (v50)), some (eI (v61)), none]) (s2 := [eI (v61), eI (v50), eJ (v86), eI (1), eR a1]) rfl rfl rfl ?_
                  refine w_cw (np := 175) (as := [eI (1), eJ (v86), eI (v50), eI (v61)]) (l2 := [some (eR a1), some (eI (1)), some (eJ (v86)), none, some (eI (v50)), some (eI (v61)), none, none, none, none, none]) (rest := []) rfl rfl rfl (Nat.ble_eq.mp rfl) rfl rfl rfl (I57.kd gA1 (by decide) (n := 7) rfl) rfl ?_
                  refine s_138 (a1 := 1) (a4 := v50) (a5 := v61) I57 gA1 (by decide) b87 (by omega) (by omega) ?_
                  intro m88 v91 I89 F90 b92
                  have F93 : Fr l_59 0 0 g μ m88 := F64.t F90 rfl
                  show ex_q (dt_fg L ρ) rc (d + 6, (59, 175, [some (eR a0), some (eR a1), some (eI (v1)), some (eI (1)), some (eI (v50)), some (eI (v61)), none], [eI (v91)]), f :: F, m88)
                  refine w_t (np := 177) (l2 := [some (eR a0), some (eR a1), some (eI (v1)), some (eI (1)), some (eI (v50)), some (eI (v61)), some (eI (v91))]) (s2 := []) rfl rfl rfl ?_
                  refine w_t (np := 179) (l2 := [some (eR a0), some (eR a1), some (eI (v1)), some (eI (1)), some (eI (v50)), some (eI (v61)), some (eI (v91))]) (s2 := [eI (v91)]) rfl rfl rfl ?_
                  refine b_ieq (t1 := 190) (t2 := 182) rfl rfl rfl (ev_w_in (by omega) (by omega)) (fun g94 => ?_) (fun g94 => ?_)
                  · have b95 : 0 ≤ v91 ∧ v91 ≤ 0 := by omega
                    refine w_t (np := 191) (l2 := [some (eR a0), some (eR a1), some (eI (v1)), some (eI (1)), some (eI (v50)), some (eI (v61)), some (eI (v91))]) (s2 := [eR a0]) rfl (s_an rfl (pos_g I89 gA0 (by decide))) rfl ?_
                    refine w_cw (np := 194) (as := []) (l2 := [some (eR a0), none, none]) (rest := []) rfl rfl rfl (Nat.ble_eq.mp rfl) rfl rfl rfl (I89.kd gA0 (by decide) (n := 11) rfl) rfl ?_
                    obtain ⟨v95, e96, b97⟩ := I89.pk (k := 7) gA0 (by decide) (n := 11) rfl rfl (lo := -2147483648) (hi := 2147483647) rfl
                    obtain ⟨v98, e99, b100⟩ := I89.pk (k := 4) gA0 (by decide) (n := 11) rfl rfl (lo := -2147483648) (hi := 2147483647) rfl
                    refine s_67v I89 gA0 e96 e99 ?_
                    intro m101 v104 v106 I102 F103 e105 e107 h108
                    have F109 : Fr l_59 0 0 g μ m101 := F93.t F103 rfl
                    have b110 : -2147483648 ≤ v104 ∧ v104 ≤ 2147483647 := by
                      rw [← e105]
                      exact I102.int gA0 (by decide) (n := 11) rfl (by decide) rfl
                    have b111 : -2147483648 ≤ v106 ∧ v106 ≤ 2147483647 := by
                      rw [← e107]
                      exact I102.int gA0 (by decide) (n := 11) rfl (by decide) rfl
                    show ex_q (dt_fg L ρ) rc (d + 6, (59, 194, [some (eR a0), some (eR a1), some (eI (v1)), some (eI (1)), some (eI (v50)), some (eI (v61)), some (eI (v91))], []), f :: F, m101)
                    refine w_t (np := 195) (l2 := [some (eR a0), some (eR a1), some (eI (v1)), some (eI (1)), some (eI (v50)), some (eI (v61)), some (eI (v91))]) (s2 := [eI (1)]) rfl rfl rfl ?_
                    exact b_rz rfl rfl (Or.inr rfl) (K m101 (1) I102 F109 (by decide))
                  · have b95 : 1 ≤ v91 ∧ v91 ≤ 7 := by omega
                    refine w_t (np := 183) (l2 := [some (eR a0), some (eR a1), some (eI (v1)), some (eI (1)), some (eI (v50)), some (eI (v61)), some (eI (v91))]) (s2 := [eR a0]) rfl (s_an rfl (pos_g I89 gA0 (by decide))) rfl ?_
                    refine w_t (np := 185) (l2 := [some (eR a0), some (eR a1), some (eI (v1)), some (eI (1)), some (eI (v50)), some (eI (v61)), some (eI (v91))]) (s2 := [eI (v91), eR a0]) rfl rfl rfl ?_
                    refine w_t (np := 186) (l2 := [some (eR a0), some (eR a1), some (eI (v1)), some (eI (1)), some (eI (v50)), some (eI (v61)), some (eI (v91))]) (s2 := [eI (v1), eI (v91), eR a0]) rfl rfl rfl ?_
                    refine w_cw (np := 189) (as := [eI (v91), eI (v1)]) (l2 := [some (eR a0), some (eI (v91)), some (eI (v1))]) (rest := []) rfl rfl rfl (Nat.ble_eq.mp rfl) rfl rfl rfl (I89.kd gA0 (by decide) (n := 11) rfl) rfl ?_
                    refine w_t (np := 1) (l2 := [some (eR a0), some (eI (v91)), some (eI (v1))]) (s2 := [eR a0]) rfl (s_an rfl (pos_g I89 gA0 (by decide))) rfl ?_
                    refine w_t (np := 2) (l2 := [some (eR a0), some (eI (v91)), some (eI (v1))]) (s2 := [eI (v91), eR a0]) rfl rfl rfl ?_
                    refine j_pf (np := 5) (w := v91) rfl rfl I89 gA0 (by decide) (n := 11) rfl rfl (hO_i (lo := -2147483648) (hi := 2147483647) rfl (by omega)) ?_
                    intro m95 I96 W97
                    have F98 : Fr l_59 0 0 g μ m95 := F93.w W97 gA0 rfl
                    refine w_t (np := 6) (l2 := [some (eR a0), some (eI (v91)), some (eI (v1))]) (s2 := [eR a0]) rfl (s_an rfl (pos_g I96 gA0 (by decide))) rfl ?_
                    refine w_t (np := 7) (l2 := [some (eR a0), some (eI (v91)), some (eI (v1))]) (s2 := [eI (v1), eR a0]) rfl rfl rfl ?_
                    refine j_pf (np := 10) (w := v1) rfl rfl I96 gA0 (by decide) (n := 11) rfl rfl (hO_i (lo := -2147483648) (hi := 2147483647) rfl (by omega)) ?_
                    intro m99 I100 W101
                    have F102 : Fr l_59 0 0 g μ m99 := F98.w W101 gA0 rfl
                    refine w_t (np := 11) (l2 := [some (eR a0), some (eI (v91)), some (eI (v1))]) (s2 := [eI (0)]) rfl rfl rfl ?_
                    refine b_rz rfl rfl (Or.inl rfl) ?_
                    show ex_q (dt_fg L ρ) rc (d + 6, (59, 189, [some (eR a0), some (eR a1), some (eI (v1)), some (eI (1)), some (eI (v50)), some (eI (v61)), some (eI (v91))], [eI (0)]), f :: F, m99)
                    exact b_rz rfl rfl (Or.inl rfl) (K m99 (0) I100 F102 (by decide))
                · have b70 : 0 ≤ v67 ∧ v67 ≤ 0 := by omega
                  refine w_t (np := 135) (l2 := [some (eR a0), some (eR a1), some (eI (v1)), some (eI (1)), some (eI (v50)), some (eI (v61)), none]) (s2 := [eR a0]) rfl (s_an rfl (pos_g I57 gA0 (by decide))) rfl ?_
                  refine w_cw (np := 138) (as := []) (l2 := [some (eR a0)]) (rest := []) rfl rfl rfl (Nat.ble_eq.mp rfl) rfl rfl rfl (I57.kd gA0 (by decide) (n := 11) rfl) rfl ?_
                  refine w_t (np := 1) (l2 := [some (eR a0)]) (s2 := [eR a0]) rfl (s_an rfl (pos_g I57 gA0 (by decide))) rfl ?_
                  refine w_t (np := 2) (l2 := [some (eR a0)]) (s2 := [eR a0, eR a0]) rfl (s_an rfl (pos_g I57 gA0 (by decide))) rfl ?_
                  refine j_gi (np := 5) rfl rfl rfl I57 gA0 (by decide) (n := 11) rfl rfl (lo := -2147483648) (hi := 2147483647) rfl ?_
                  intro v70 e71 b72
                  refine w_t (np := 6) (l2 := [some (eR a0)]) (s2 := [eI (4), eI (v70), eR a0]) rfl rfl rfl ?_
                  refine b_cne (t1 := 13) (t2 := 9) rfl rfl rfl (ev_w_in (by omega) (by omega)) rfl (fun g73 => ?_) (fun g73 => ?_)
                  · refine w_t (np := 14) (l2 := [some (eR a0)]) (s2 := [eI (2), eR a0]) rfl rfl rfl ?_
                    refine w_t (np := 15) (l2 := [some (eR a0)]) (s2 := [eR a0, eI (2), eR a0]) rfl (s_an rfl (pos_g I57 gA0 (by decide))) rfl ?_
                    refine j_gi (np := 18) rfl rfl rfl I57 gA0 (by decide) (n := 11) rfl rfl (lo := 0) (hi := 900) rfl ?_
                    intro v74 e75 b76
                    refine w_cw (np := 21) (as := [eI (2), eI (v74)]) (l2 := [some (eR a0), some (eI (2)), some (eI (v74))]) (rest := []) rfl rfl rfl (Nat.ble_eq.mp rfl) rfl rfl rfl (I57.kd gA0 (by decide) (n := 11) rfl) rfl ?_
                    refine w_t (np := 1) (l2 := [some (eR a0), some (eI (2)), some (eI (v74))]) (s2 := [eR a0]) rfl (s_an rfl (pos_g I57 gA0 (by decide))) rfl ?_
                    refine w_t (np := 2) (l2 := [some (eR a0), some (eI (2)), some (eI (v74))]) (s2 := [eI (2), eR a0]) rfl rfl rfl ?_
                    refine j_pf (np := 5) (w := 2) rfl rfl I57 gA0 (by decide) (n := 11) rfl rfl (hO_i (lo := -2147483648) (hi := 2147483647) rfl (by decide)) ?_
                    intro m77 I78 W79
                    have F80 : Fr l_59 0 0 g μ m77 := F64.w W79 gA0 rfl
                    refine w_t (np := 6) (l2 := [some (eR a0), some (eI (2)), some (eI (v74))]) (s2 := [eR a0]) rfl (s_an rfl (pos_g I78 gA0 (by decide))) rfl ?_
                    refine w_t (np := 7) (l2 := [some (eR a0), some (eI (2)), some (eI (v74))]) (s2 := [eI (v74), eR a0]) rfl rfl rfl ?_
                    refine j_pf (np := 10) (w := v74) rfl rfl I78 gA0 (by decide) (n := 11) rfl rfl (hO_i (lo := -2147483648) (hi := 2147483647) rfl (by omega)) ?_
                    intro m81 I82 W83
                    have F84 : Fr l_59 0 0 g μ m81 := F80.w W83 gA0 rfl
                    refine w_t (np := 11) (l2 := [some (eR a0), some (eI (2)), some (eI (v74))]) (s2 := [eI (0)]) rfl rfl rfl ?_
                    refine b_rz rfl rfl (Or.inl rfl) ?_
                    show ex_q (dt_fg L ρ) rc (d + 5, (62, 21, [some (eR a0)], [eI (0)]), (59, 138, [some (eR a0), some (eR a1), some (eI (v1)), some (eI (1)), some (eI (v50)), some (eI (v61)), none], []) :: f :: F, m81)
                    refine b_rz rfl rfl (Or.inl rfl) ?_
                    show ex_q (dt_fg L ρ) rc (d + 6, (59, 138, [some (eR a0), some (eR a1), some (eI (v1)), some (eI (1)), some (eI (v50)), some (eI (v61)), none], [eI (0)]), f :: F, m81)
                    exact b_rz rfl rfl (Or.inl rfl) (K m81 (0) I82 F84 (by decide))
                  · have b74 : 4 ≤ v70 ∧ v70 ≤ 4 := by omega
                    refine w_t (np := 10) (l2 := [some (eR a0)]) (s2 := [eI (1), eR a0]) rfl rfl rfl ?_
                    refine w_go (t1 := 14) rfl rfl ?_
                    refine w_t (np := 15) (l2 := [some (eR a0)]) (s2 := [eR a0, eI (1), eR a0]) rfl (s_an rfl (pos_g I57 gA0 (by decide))) rfl ?_
                    refine j_gi (np := 18) rfl rfl rfl I57 gA0 (by decide) (n := 11) rfl rfl (lo := 0) (hi := 900) rfl ?_
                    intro v74 e75 b76
                    refine w_cw (np := 21) (as := [eI (1), eI (v74)]) (l2 := [some (eR a0), some (eI (1)), some (eI (v74))]) (rest := []) rfl rfl rfl (Nat.ble_eq.mp rfl) rfl rfl rfl (I57.kd gA0 (by decide) (n := 11) rfl) rfl ?_
                    refine w_t (np := 1) (l2 := [some (eR a0), some (eI (1)), some (eI (v74))]) (s2 := [eR a0]) rfl (s_an rfl (pos_g I57 gA0 (by decide))) rfl ?_
                    refine w_t (np := 2) (l2 := [some (eR a0), some (eI (1)), some (eI (v74))]) (s2 := [eI (1), eR a0]) rfl rfl rfl ?_
                    refine j_pf (np := 5) (w := 1) rfl rfl I57 gA0 (by decide) (n := 11) rfl rfl (hO_i (lo := -2147483648) (hi := 2147483647) rfl (by decide)) ?_
                    intro m77 I78 W79
                    have F80 : Fr l_59 0 0 g μ m77 := F64.w W79 gA0 rfl
                    refine w_t (np := 6) (l2 := [some (eR a0), some (eI (1)), some (eI (v74))]) (s2 := [eR a0]) rfl (s_an rfl (pos_g I78 gA0 (by decide))) rfl ?_
                    refine w_t (np := 7) (l2 := [some (eR a0), some (eI (1)), some (eI (v74))]) (s2 := [eI (v74), eR a0]) rfl rfl rfl ?_
                    refine j_pf (np := 10) (w := v74) rfl rfl I78 gA0 (by decide) (n := 11) rfl rfl (hO_i (lo := -2147483648) (hi := 2147483647) rfl (by omega)) ?_
                    intro m81 I82 W83
                    have F84 : Fr l_59 0 0 g μ m81 := F80.w W83 gA0 rfl
                    refine w_t (np := 11) (l2 := [some (eR a0), some (eI (1)), some (eI (v74))]) (s2 := [eI (0)]) rfl rfl rfl ?_
                    refine b_rz rfl rfl (Or.inl rfl) ?_
                    show ex_q (dt_fg L ρ) rc (d + 5, (62, 21, [some (eR a0)], [eI (0)]), (59, 138, [some (eR a0), some (eR a1), some (eI (v1)), some (eI (1)), some (eI (v50)), some (eI (v61)), none], []) :: f :: F, m81)
                    refine b_rz rfl rfl (Or.inl rfl) ?_
                    show ex_q (dt_fg L ρ) rc (d + 6, (59, 138, [some (eR a0), some (eR a1), some (eI (v1)), some (eI (1)), some (eI (v50)), some (eI (v61)), none], [eI (0)]), f :: F, m81)
                    exact b_rz rfl rfl (Or.inl rfl) (K m81 (0) I82 F84 (by decide))
              · have b67 : 0 ≤ v59 ∧ v59 ≤ 0 := by omega
                refine w_t (np := 118) (l2 := [some (eR a0), some (eR a1), some (eI (v1)), some (eI (1)), some (eI (v50)), none, none]) (s2 := [eI (0)]) rfl rfl rfl ?_
                exact b_rz rfl rfl (Or.inl rfl) (K m56 (0) I57 F64 (by decide))
            · have b56 : 0 ≤ v48 ∧ v48 ≤ 0 := by omega
              refine w_t (np := 100) (l2 := [some (eR a0), some (eR a1), some (eI (v1)), some (eI (1)), some (eI (i34)), none, none]) (s2 := [eI (0)]) rfl rfl rfl ?_
              exact b_rz rfl rfl (Or.inl rfl) (K m45 (0) I46 F53 (by decide))
          · have b42 : 0 ≤ i34 ∧ i34 ≤ 3 := by omega
            refine w_t (np := 72) (l2 := [some (eR a0), some (eR a1), some (eI (v1)), some (eI (1)), some (eI (i34)), none, none]) (s2 := [eR a0]) rfl (s_an rfl (pos_g I37 gA0 (by decide))) rfl ?_
            refine w_t (np := 74) (l2 := [some (eR a0), some (eR a1), some (eI (v1)), some (eI (1)), some (eI (i34)), none, none]) (s2 := [eI (i34), eR a0]) rfl rfl rfl ?_
            refine w_cw (np := 77) (as := [eI (i34)]) (l2 := [some (eR a0), some (eI (i34)), none]) (rest := []) rfl rfl rfl (Nat.ble_eq.mp rfl) rfl rfl rfl (I37.kd gA0 (by decide) (n := 11) rfl) rfl ?_
            refine s_60 (a1 := i34) I37 gA0 (by omega) ?_
            intro m42 v45 I43 F44 b46
            have F47 : Fr l_59 0 0 g μ m42 := F38.t F44 rfl
            show ex_q (dt_fg L ρ) rc (d + 6, (59, 77, [some (eR a0), some (eR a1), some (eI (v1)), some (eI (1)), some (eI (i34)), none, none], [eI (v45)]), f :: F, m42)
            refine b_ine (t1 := 82) (t2 := 80) rfl rfl rfl (ev_w_in (by omega) (by omega)) (fun g48 => ?_) (fun g48 => ?_)
            · have b49 : 1 ≤ v45 ∧ v45 ≤ 1 := by omega
              obtain ⟨v49, e50⟩ : ∃ zz : Int, zz = (i34) + (1) := ⟨_, rfl⟩
              have b51 : 1 ≤ v49 ∧ v49 ≤ 4 := by omega
              refine w_t (np := 85) (l2 := [some (eR a0), some (eR a1), some (eI (v1)), some (eI (1)), some (eI (v49)), none, none]) (s2 := []) rfl (b_iinc rfl (by rw [← e50]; exact ev_w_in (by omega) (by omega)) rfl) rfl ?_
              refine w_go (t1 := 65) rfl rfl ?_
              exact ih33 (4 - (v49)).toNat (by omega) m42 (v49) I43 F47 (by omega) (F44.k k39 gA1 (by decide) rfl)    rfl
            · have b49 : 0 ≤ v45 ∧ v45 ≤ 0 := by omega
              refine w_t (np := 81) (l2 := [some (eR a0), some (eR a1), some (eI (v1)), some (eI (1)), some (eI (i34)), none, none]) (s2 := [eI (0)]) rfl rfl rfl ?_
              exact b_rz rfl rfl (Or.inl rfl) (K m42 (0) I43 F47 (by decide))
        exact hL65 _ m21 (0) I22 F29 (by decide) (F23.k e12 gA1 (by decide) rfl)    rfl
      · have b15 : 24 ≤ v11 ∧ v11 ≤ 24 := by omega
        refine w_t (np := 52) (l2 := [some (eR a0), some (eR a1), some (eI (v1)), some (eI (1)), none, none, none]) (s2 := [eR a0]) rfl (s_an rfl (pos_g hI gA0 (by decide))) rfl ?_
        refine w_t (np := 53) (l2 := [some (eR a0), some (eR a1), some (eI (v1)), some (eI (1)), none, none, none]) (s2 := [eI (4), eR a0]) rfl rfl rfl ?_
        refine w_t (np := 54) (l2 := [some (eR a0), some (eR a1), some (eI (v1)), some (eI (1)), none, none, none]) (s2 := [eI (v1), eI (4), eR a0]) rfl rfl rfl ?_
        refine w_cw (np := 57) (as := [eI (4), eI (v1)]) (l2 := [some (eR a0), some (eI (4)), some (eI (v1))]) (rest := []) rfl rfl rfl (Nat.ble_eq.mp rfl) rfl rfl rfl (hI.kd gA0 (by decide) (n := 11) rfl) rfl ?_
        refine w_t (np := 1) (l2 := [some (eR a0), some (eI (4)), some (eI (v1))]) (s2 := [eR a0]) rfl (s_an rfl (pos_g hI gA0 (by decide))) rfl ?_
        refine w_t (np := 2) (l2 := [some (eR a0), some (eI (4)), some (eI (v1))]) (s2 := [eI (4), eR a0]) rfl rfl rfl ?_
        refine j_pf (np := 5) (w := 4) rfl rfl hI gA0 (by decide) (n := 11) rfl rfl (hO_i (lo := -2147483648) (hi := 2147483647) rfl (by decide)) ?_
        intro m15 I16 W17
        have F18 : Fr l_59 0 0 g μ m15 := F0.w W17 gA0 rfl
        refine w_t (np := 6) (l2 := [some (eR a0), some (eI (4)), some (eI (v1))]) (s2 := [eR a0]) rfl (s_an rfl (pos_g I16 gA0 (by decide))) rfl ?_
        refine w_t (np := 7) (l2 := [some (eR a0), some (eI (4)), some (eI (v1))]) (s2 := [eI (v1), eR a0]) rfl rfl rfl ?_
        refine j_pf (np := 10) (w := v1) rfl rfl I16 gA0 (by decide) (n := 11) rfl rfl (hO_i (lo := -2147483648) (hi := 2147483647) rfl (by omega)) ?_
        intro m19 I20 W21
        have F22 : Fr l_59 0 0 g μ m19 := F18.w W21 gA0 rfl
        refine w_t (np := 11) (l2 := [some (eR a0), some (eI (4)), some (eI (v1))]) (s2 := [eI (0)]) rfl rfl rfl ?_
        refine b_rz rfl rfl (Or.inl rfl) ?_
        show ex_q (dt_fg L ρ) rc (d + 6, (59, 57, [some (eR a0), some (eR a1), some (eI (v1)), some (eI (1)), none, none, none], [eI (0)]), f :: F, m19)
        exact b_rz rfl rfl (Or.inl rfl) (K m19 (0) I20 F22 (by decide))
  · have b7 : 1 ≤ v4 ∧ v4 ≤ 1 := by omega
    refine w_t (np := 15) (l2 := [some (eR a0), some (eR a1), some (eI (v1)), none, none, none, none]) (s2 := [eI (0)]) rfl rfl rfl ?_
    refine w_go (t1 := 32) rfl rfl ?_
    refine w_t (np := 33) (l2 := [some (eR a0), some (eR a1), some (eI (v1)), some (eI (0)), none, none, none]) (s2 := []) rfl rfl rfl ?_
    refine w_t (np := 34) (l2 := [some (eR a0), some (eR a1), some (eI (v1)), some (eI (0)), none, none, none]) (s2 := [eI (0)]) rfl rfl rfl ?_
    refine b_ige (t1 := 42) (t2 := 37) rfl rfl rfl rfl (fun g7 => ?_) (fun g7 => absurd g7 (by decide))
    refine w_t (np := 43) (l2 := [some (eR a0), some (eR a1), some (eI (v1)), some (eI (0)), none, none, none]) (s2 := [eR a1]) rfl (s_an rfl (pos_g hI gA1 (by decide))) rfl ?_
    refine j_gi (np := 46) rfl rfl rfl hI gA1 (by decide) (n := 7) rfl rfl (lo := 0) (hi := 24) rfl ?_
    intro v8 e9 b10
    refine w_t (np := 48) (l2 := [some (eR a0), some (eR a1), some (eI (v1)), some (eI (0)), none, none, none]) (s2 := [eI (24), eI (v8)]) rfl rfl rfl ?_
    refine b_clt (t1 := 58) (t2 := 51) rfl rfl rfl (ev_w_in (by omega) (by omega)) rfl (fun g11 => ?_) (fun g11 => ?_)
    · have b12 : 0 ≤ v8 ∧ v8 ≤ 23 := by omega
      refine w_t (np := 59) (l2 := [some (eR a0), some (eR a1), some (eI (v1)), some (eI (0)), none, none, none]) (s2 := [eR a0]) rfl (s_an rfl (pos_g hI gA0 (by decide))) rfl ?_
      refine w_cw (np := 62) (as := []) (l2 := [some (eR a0), none, none]) (rest := []) rfl rfl rfl (Nat.ble_eq.mp rfl) rfl rfl rfl (hI.kd gA0 (by decide) (n := 11) rfl) rfl ?_
      obtain ⟨v12, e13, b14⟩ := hI.pk (k := 7) gA0 (by decide) (n := 11) rfl rfl (lo := -2147483648) (hi := 2147483647) rfl
      obtain ⟨v15, e16, b17⟩ := hI.pk (k := 4) gA0 (by decide) (n := 11) rfl rfl (lo := -2147483648) (hi := 2147483647) rfl
      refine s_67v hI gA0 e13 e16 ?_
      intro m18 v21 v23 I19 F20 e22 e24 h25
      have F26 : Fr l_59 0 0 g μ m18 := F0.t F20 rfl
      have b27 : -2147483648 ≤ v21 ∧ v21 ≤ 2147483647 := by
        rw [← e22]
        exact I19.int gA0 (by decide) (n := 11) rfl (by decide) rfl
      have b28 : -2147483648 ≤ v23 ∧ v23 ≤ 2147483647 := by
        rw [← e24]
        exact I19.int gA0 (by decide) (n := 11) rfl (by decide) rfl
      show ex_q (dt_fg L ρ) rc (d + 6, (59, 62, [some (eR a0), some (eR a1), some (eI (v1)), some (eI (0)), none, none, none], []), f :: F, m18)
      refine w_t (np := 63) (l2 := [some (eR a0), some (eR a1), some (eI (v1)), some (eI (0)), none, none, none]) (s2 := [eI (0)]) rfl rfl rfl ?_
      refine w_t (np := 65) (l2 := [some (eR a0), some (eR a1), some (eI (v1)), some (eI (0)), some (eI (0)), none, none]) (s2 := []) rfl rfl rfl ?_
      have hL65 : ∀ (n29 : Nat) (m33 : eM) (i31 : Int), SI g m33 → Fr l_59 0 0 g μ m33 → (0 ≤ i31 ∧ i31 ≤ 4) → m33.1 a1 5 = v8 → n29 = (4 - i31).toNat → ex_q (dt_fg L ρ) rc (d + 6, (59, 65, [some (eR a0), some (eR a1), some (eI (v1)), some (eI (0)), some (eI (i31)), none, none], []), f :: F, m33) := by
        intro n29
        induction n29 using Nat.strongRecOn with
        | _ n29 ih30 =>
        intro m33 i31 I34 F35 b32 k36 hn37
        refine w_t (np := 67) (l2 := [some (eR a0), some (eR a1), some (eI (v1)), some (eI (0)), some (eI (i31)), none, none]) (s2 := [eI (i31)]) rfl rfl rfl ?_
        refine w_t (np := 68) (l2 := [some (eR a0), some (eR a1), some (eI (v1)), some (eI (0)), some (eI (i31)), none, none]) (s2 := [eI (4), eI (i31)]) rfl rfl rfl ?_
        refine b_cge (t1 := 88) (t2 := 71) rfl rfl rfl (ev_w_in (by omega) (by omega)) rfl (fun g38 => ?_) (fun g38 => ?_)
        · have b39 : 4 ≤ i31 ∧ i31 ≤ 4 := by omega
          refine w_t (np := 89) (l2 := [some (eR a0), some (eR a1), some (eI (v1)), some (eI (0)), some (eI (i31)), none, none]) (s2 := [eR a0]) rfl (s_an rfl (pos_g I34 gA0 (by decide))) rfl ?_
          refine j_ls (np := 91) rfl rfl rfl ?_
          refine w_t (np := 93) (l2 := [some (eR a0), some (eR a1), some (eI (v1)), some (eI (0)), some (eI (i31)), none, none]) (s2 := [eI (9), eR 11, eR a0]) rfl rfl rfl ?_
          refine w_cw (np := 96) (as := [eR 11, eI (9)]) (l2 := [some (eR a0), some (eR 11), some (eI (9))]) (rest := []) rfl rfl rfl (Nat.ble_eq.mp rfl) rfl rfl rfl (I34.kd gA0 (by decide) (n := 11) rfl) rfl ?_
          obtain ⟨v39, e40, b41⟩ := I34.pk (k := 8) gA0 (by decide) (n := 11) rfl rfl (lo := -2147483648) (hi := 2147483647) rfl
          refine s_61_11 I34 gA0 e40 ?_
          intro m42 v45 v47 I43 F44 b46 e48 h49
          have F50 : Fr l_59 0 0 g μ m42 := F35.t F44 rfl
          have b51 : -2147483648 ≤ v47 ∧ v47 ≤ 2147483647 := by
            rw [← e48]
            exact I43.int gA0 (by decide) (n := 11) rfl (by decide) rfl
          show ex_q (dt_fg L ρ) rc (d + 6, (59, 96, [some (eR a0), some (eR a1), some (eI (v1)), some (eI (0)), some (eI (i31)), none, none], [eI (v45)]), f :: F, m42)
          refine b_ine (t1 := 101) (t2 := 99) rfl rfl rfl (ev_w_in (by omega) (by omega)) (fun g52 => ?_) (fun g52 => ?_)
          · have b53 : 1 ≤ v45 ∧ v45 ≤ 1 := by omega
            refine w_t (np := 102) (l2 := [some (eR a0), some (eR a1), some (eI (v1)), some (eI (0)), some (eI (i31)), none, none]) (s2 := [eR a0]) rfl (s_an rfl (pos_g I43 gA0 (by decide))) rfl ?_
            refine w_gf (np := 105) (v := eI (v47)) rfl rfl (I43.kd gA0 (by decide) (n := 11) rfl) (by rw [e48]; rfl) ?_
            refine w_t (np := 107) (l2 := [some (eR a0), some (eR a1), some (eI (v1)), some (eI (0)), some (eI (v47)), none, none]) (s2 := []) rfl rfl rfl ?_
            refine w_t (np := 108) (l2 := [some (eR a0), some (eR a1), some (eI (v1)), some (eI (0)), some (eI (v47)), none, none]) (s2 := [eR a0]) rfl (s_an rfl (pos_g I43 gA0 (by decide))) rfl ?_
            refine j_ls (np := 110) rfl rfl rfl ?_
            refine w_t (np := 111) (l2 := [some (eR a0), some (eR a1), some (eI (v1)), some (eI (0)), some (eI (v47)), none, none]) (s2 := [eI (1), eR 12, eR a0]) rfl rfl rfl ?_
            refine w_cw (np := 114) (as := [eR 12, eI (1)]) (l2 := [some (eR a0), some (eR 12), some (eI (1))]) (rest := []) rfl rfl rfl (Nat.ble_eq.mp rfl) rfl rfl rfl (I43.kd gA0 (by decide) (n := 11) rfl) rfl ?_
            refine s_61_12 I43 gA0 e48 ?_
            intro m53 v56 v58 I54 F55 b57 e59 h60
            have F61 : Fr l_59 0 0 g μ m53 := F50.t F55 rfl
            have b62 : -2147483648 ≤ v58 ∧ v58 ≤ 2147483647 := by
              rw [← e59]
              exact I54.int gA0 (by decide) (n := 11) rfl (by decide) rfl
            show ex_q (dt_fg L ρ) rc (d + 6, (59, 114, [some (eR a0), some (eR a1), some (eI (v1)), some (eI (0)), some (eI (v47)), none, none], [eI (v56)]), f :: F, m53)
            refine b_ine (t1 := 119) (t2 := 117) rfl rfl rfl (ev_w_in (by omega) (by omega)) (fun g63 => ?_) (fun g63 => ?_)
            · have b64 : 1 ≤ v56 ∧ v56 ≤ 1 := by omega
              refine w_t (np := 120) (l2 := [some (eR a0), some (eR a1), some (eI (v1)), some (eI (0)), some (eI (v47)), none, none]) (s2 := [eR a0]) rfl (s_an rfl (pos_g I54 gA0 (by decide))) rfl ?_
              refine w_gf (np := 123) (v := eI (v58)) rfl rfl (I54.kd gA0 (by decide) (n := 11) rfl) (by rw [e59]; rfl) ?_
              refine w_t (np := 125) (l2 := [some (eR a0), some (eR a1), some (eI (v1)), some (eI (0)), some (eI (v47)), some (eI (v58)), none]) (s2 := []) rfl rfl rfl ?_
              refine w_t (np := 126) (l2 := [some (eR a0), some (eR a1), some (eI (v1)), some (eI (0)), some (eI (v47)), some (eI (v58)), none]) (s2 := [eR a0]) rfl (s_an rfl (pos_g I54 gA0 (by decide))) rfl ?_
              refine w_t (np := 128) (l2 := [some (eR a0), some (eR a1), some (eI (v1)), some (eI (0)), some (eI (v47)), some (eI (v58)), none]) (s2 := [eI (59), eR a0]) rfl rfl rfl ?_
              refine w_cw (np := 131) (as := [eI (59)]) (l2 := [some (eR a0), some (eI (59))]) (rest := []) rfl rfl rfl (Nat.ble_eq.mp rfl) rfl rfl rfl (I54.kd gA0 (by decide) (n := 11) rfl) rfl ?_
              refine s_69 (a1 := 59) I54 gA0 (by decide) ?_
              intro v64 b65
              show ex_q (dt_fg L ρ) rc (d + 6, (59, 131, [some (eR a0), some (eR a1), some (eI (v1)), some (eI (0)), some (eI (v47)), some (eI (v58)), none], [eI (v64)]), f :: F, m53)
              refine b_ine (t1 := 139) (t2 := 134) rfl rfl rfl (ev_w_in (by omega) (by omega)) (fun g66 => ?_) (fun g66 => ?_)
              · have b67 : 1 ≤ v64 ∧ v64 ≤ 1 := by omega
                refine w_t (np := 140) (l2 := [some (eR a0), some (eR a1), some (eI (v1)), some (eI (0)), some (eI (v47)), some (eI (v58)), none]) (s2 := [eR a1]) rfl (s_an rfl (pos_g I54 gA1 (by decide))) rfl ?_
                refine w_t (np := 141) (l2 := [some (eR a0), some (eR a1), some (eI (v1)), some (eI (0)), some (eI (v47)), some (eI (v58)), none]) (s2 := [eI (0), eR a1]) rfl rfl rfl ?_
                refine w_t (np := 142) (l2 := [some (eR a0), some (eR a1), some (eI (v1)), some (eI (0)), some (eI (v47)), some (eI (v58)), none]) (s2 := [eR a0, eI (0), eR a1]) rfl (s_an rfl (pos_g I54 gA0 (by decide))) rfl ?_
                refine j_gr (np := 145) rfl rfl I54 gA0 (by decide) (n := 11) rfl rfl rfl ?_
                intro v67 e68 b69 z70
                have b69 : g v67 = 26 := Nat.eq_of_beq_eq_true b69
                refine w_t (np := 146) (l2 := [some (eR a0), some (eR a1), some (eI (v1)), some (eI (0)), some (eI (v47)), some (eI (v58)), none]) (s2 := [eI (0), eR v67, eI (0), eR a1]) rfl rfl rfl ?_
                refine j_al (np := 147) rfl rfl I54 b69 (by decide) (n := 4) rfl rfl (lo := -2147483648) (hi := 2147483647) (fun _ => rfl) (by decide) (by decide) ?_
                intro v71 e72 b73
                refine w_t (np := 148) (l2 := [some (eR a0), some (eR a1), some (eI (v1)), some (eI (0)), some (eI (v47)), some (eI (v58)), none]) (s2 := [eR a0, eI (v71), eI (0), eR a1]) rfl (s_an rfl (pos_g I54 gA0 (by decide))) rfl ?_
                refine w_gf (np := 151) (v := eR v67) rfl rfl (I54.kd gA0 (by decide) (n := 11) rfl) (by rw [e68]; rfl) ?_
                refine w_t (np := 152) (l2 := [some (eR a0), some (eR a1), some (eI (v1)), some (eI (0)), some (eI (v47)), some (eI (v58)), none]) (s2 := [eI (1), eR v67, eI (v71), eI (0), eR a1]) rfl rfl rfl ?_
                refine j_al (np := 153) rfl rfl I54 b69 (by decide) (n := 4) rfl rfl (lo := -2147483648) (hi := 2147483647) (fun _ => rfl) (by decide) (by decide) ?_
                intro v74 e75 b76
                refine w_t (np := 154) (l2 := [some (eR a0), some (eR a1), some (eI (v1)), some (eI (0)), some (eI (v47)), some (eI (v58)), none]) (s2 := [eR a0, eI (v74), eI (v71), eI (0), eR a1]) rfl (s_an rfl (pos_g I54 gA0 (by decide))) rfl ?_
                refine w_gf (np := 157) (v := eR v67) rfl rfl (I54.kd gA0 (by decide) (n := 11) rfl) (by rw [e68]; rfl) ?_
                refine w_t (np := 158) (l2 := [some (eR a0), some (eR a1), some (eI (v1)), some (eI (0)), some (eI (v47)), some (eI (v58)), none]) (s2 := [eI (2), eR v67, eI (v74), eI (v71), eI (0), eR a1]) rfl rfl rfl ?_
                refine j_al (np := 159) rfl rfl I54 b69 (by decide) (n := 4) rfl rfl (lo := -2147483648) (hi := 2147483647) (fun _ => rfl) (by decide) (by decide) ?_
                intro v77 e78 b79
                refine w_t (np := 160) (l2 := [some (eR a0), some (eR a1), some (eI (v1)), some (eI (0)), some (eI (v47)), some (eI (v58)), none]) (s2 := [eR a0, eI (v77), eI (v74), eI (v71), eI (0), eR a1]) rfl (s_an rfl (pos_g I54 gA0 (by decide))) rfl ?_
                refine w_gf (np := 163) (v := eR v67) rfl rfl (I54.kd gA0 (by decide) (n := 11) rfl) (by rw [e68]; rfl) ?_
                refine w_t (np := 164) (l2 := [some (eR a0), some (eR a1), some (eI (v1)), some (eI (0)), some (eI (v47)), some (eI (v58)), none]) (s2 := [eI (3), eR v67, eI (v77), eI (v74), eI (v71), eI (0), eR a1]) rfl rfl rfl ?_
                refine j_al (np := 165) rfl rfl I54 b69 (by decide) (n := 4) rfl rfl (lo := -2147483648) (hi := 2147483647) (fun _ => rfl) (by decide) (by decide) ?_
                intro v80 e81 b82
                refine w_cu (np := 168) (as := [eI (v71), eI (v74), eI (v77), eI (v80)]) (l2 := [some (eI (v71)), some (eI (v74)), some (eI (v77)), some (eI (v80))]) (rest := [eI (0), eR a1]) rfl rfl rfl (Nat.ble_eq.mp rfl) rfl rfl rfl rfl ?_
                refine s_71 (a0 := v71) (a1 := v74) (a2 := v77) (a3 := v80) I54 (by omega) (by omega) (by omega) (by omega) ?_
                intro v83 b84
                show ex_q (dt_fg L ρ) rc (d + 6, (59, 168, [some (eR a0), some (eR a1), some (eI (v1)), some (eI (0)), some (eI (v47)), some (eI (v58)), none], [eJ (v83), eI (0), eR a1]), f :: F, m53)
                refine w_t (np := 170) (l2 := [some (eR a0), some (eR a1), some (eI (v1)), some (eI (0)), some (eI (v47)), some (eI (v58)), none]) (s2 := [eI (v47), eJ (v83), eI (0), eR a1]) rfl rfl rfl ?_
                refine w_t (np := 172) (l2 := [some (eR a0), some (eR a1), some (eI (v1)), some (eI (0)), some (eI (v47)), some (eI (v58)), none]) (s2 := [eI (v58), eI (v47), eJ (v83), eI (0), eR a1]) rfl rfl rfl ?_
                refine w_cw (np := 175) (as := [eI (0), eJ (v83), eI (v47), eI (v58)]) (l2 := [some (eR a1), some (eI (0)), some (eJ (v83)), none, some (eI (v47)), some (eI (v58)), none, none, none, none, none]) (rest := []) rfl rfl rfl (Nat.ble_eq.mp rfl) rfl rfl rfl (I54.kd gA1 (by decide) (n := 7) rfl) rfl ?_
                refine s_138 (a1 := 0) (a4 := v47) (a5 := v58) I54 gA1 (by decide) b84 (by omega) (by omega) ?_
                intro m85 v88 I86 F87 b89
                have F90 : Fr l_59 0 0 g μ m85 := F61.t F87 rfl
                show ex_q (dt_fg L ρ) rc (d + 6, (59, 175, [some (eR a0), some (eR a1), some (eI (v1)), some (eI (0)), some (eI (v47)), some (eI (v58)), none], [eI (v88)]), f :: F, m85)
                refine w_t (np := 177) (l2 := [some (eR a0), some (eR a1), some (eI (v1)), some (eI (0)), some (eI (v47)), some (eI (v58)), some (eI (v88))]) (s2 := []) rfl rfl rfl ?_
                refine w_t (np := 179) (l2 := [some (eR a0), some (eR a1), some (eI (v1)), some (eI (0)), some (eI (v47)), some (eI (v58)), some (eI (v88))]) (s2 := [eI (v88)]) rfl rfl rfl ?_
                refine b_ieq (t1 := 190) (t2 := 182) rfl rfl rfl (ev_w_in (by omega) (by omega)) (fun g91 => ?_) (fun g91 => ?_)
                · have b92 : 0 ≤ v88 ∧ v88 ≤ 0 := by omega
                  refine w_t (np := 191) (l2 := [some (eR a0), some (eR a1), some (eI (v1)), some (eI (0)), some (eI (v47)), some (eI (v58)), some (eI (v88))]) (s2 := [eR a0]) rfl (s_an rfl (pos_g I86 gA0 (by decide))) rfl ?_
                  refine w_cw (np := 194) (as := []) (l2 := [some (eR a0), none, none]) (rest := []) rfl rfl rfl (Nat.ble_eq.mp rfl) rfl rfl rfl (I86.kd gA0 (by decide) (n := 11) rfl) rfl ?_
                  obtain ⟨v92, e93, b94⟩ := I86.pk (k := 7) gA0 (by decide) (n := 11) rfl rfl (lo := -2147483648) (hi := 2147483647) rfl
                  obtain ⟨v95, e96, b97⟩ := I86.pk (k := 4) gA0 (by decide) (n := 11) rfl rfl (lo := -2147483648) (hi := 2147483647) rfl
                  refine s_67v I86 gA0 e93 e96 ?_
                  intro m98 v101 v103 I99 F100 e102 e104 h105
                  have F106 : Fr l_59 0 0 g μ m98 := F90.t F100 rfl
                  have b107 : -2147483648 ≤ v101 ∧ v101 ≤ 2147483647 := by
                    rw [← e102]
                    exact I99.int gA0 (by decide) (n := 11) rfl (by decide) rfl
                  have b108 : -2147483648 ≤ v103 ∧ v103 ≤ 2147483647 := by
                    rw [← e104]
                    exact I99.int gA0 (by decide) (n := 11) rfl (by decide) rfl
                  show ex_q (dt_fg L ρ) rc (d + 6, (59, 194, [some (eR a0), some (eR a1), some (eI (v1)), some (eI (0)), some (eI (v47)), some (eI (v58)), some (eI (v88))], []), f :: F, m98)
                  refine w_t (np := 195) (l2 := [some (eR a0), some (eR a1), some (eI (v1)), some (eI (0)), some (eI (v47)), some (eI (v58)), some (eI (v88))]) (s2 := [eI (1)]) rfl rfl rfl ?_
                  exact b_rz rfl rfl (Or.inr rfl) (K m98 (1) I99 F106 (by decide))
                · have b92 : 1 ≤ v88 ∧ v88 ≤ 7 := by omega
                  refine w_t (np := 183) (l2 := [some (eR a0), some (eR a1), some (eI (v1)), some (eI (0)), some (eI (v47)), some (eI (v58)), some (eI (v88))]) (s2 := [eR a0]) rfl (s_an rfl (pos_g I86 gA0 (by decide))) rfl ?_
                  refine w_t (np := 185) (l2 := [some (eR a0), some (eR a1), some (eI (v1)), some (eI (0)), some (eI (v47)), some (eI (v58)), some (eI (v88))]) (s2 := [eI (v88), eR a0]) rfl rfl rfl ?_
                  refine w_t (np := 186) (l2 := [some (eR a0), some (eR a1), some (eI (v1)), some (eI (0)), some (eI (v47)), some (eI (v58)), some (eI (v88))]) (s2 := [eI (v1), eI (v88), eR a0]) rfl rfl rfl ?_
                  refine w_cw (np := 189) (as := [eI (v88), eI (v1)]) (l2 := [some (eR a0), some (eI (v88)), some (eI (v1))]) (rest := []) rfl rfl rfl (Nat.ble_eq.mp rfl) rfl rfl rfl (I86.kd gA0 (by decide) (n := 11) rfl) rfl ?_
                  refine w_t (np := 1) (l2 := [some (eR a0), some (eI (v88)), some (eI (v1))]) (s2 := [eR a0]) rfl (s_an rfl (pos_g I86 gA0 (by decide))) rfl ?_
                  refine w_t (np := 2) (l2 := [some (eR a0), some (eI (v88)), some (eI (v1))]) (s2 := [eI (v88), eR a0]) rfl rfl rfl ?_
                  refine j_pf (np := 5) (w := v88) rfl rfl I86 gA0 (by decide) (n := 11) rfl rfl (hO_i (lo := -2147483648) (hi := 2147483647) rfl (by omega)) ?_
                  intro m92 I93 W94
                  have F95 : Fr l_59 0 0 g μ m92 := F90.w W94 gA0 rfl
                  refine w_t (np := 6) (l2 := [some (eR a0), some (eI (v88)), some (eI (v1))]) (s2 := [eR a0]) rfl (s_an rfl (pos_g I93 gA0 (by decide))) rfl ?_
                  refine w_t (np := 7) (l2 := [some (eR a0), some (eI (v88)), some (eI (v1))]) (s2 := [eI (v1), eR a0]) rfl rfl rfl ?_
                  refine j_pf (np := 10) (w := v1) rfl rfl I93 gA0 (by decide) (n := 11) rfl rfl (hO_i (lo := -2147483648) (hi := 2147483647) rfl (by omega)) ?_
                  intro m96 I97 W98
                  have F99 : Fr l_59 0 0 g μ m96 := F95.w W98 gA0 rfl
                  refine w_t (np := 11) (l2 := [some (eR a0), some (eI (v88)), some (eI (v1))]) (s2 := [eI (0)]) rfl rfl rfl ?_
                  refine b_rz rfl rfl (Or.inl rfl) ?_
                  show ex_q (dt_fg L ρ) rc (d + 6, (59, 189, [some (eR a0), some (eR a1), some (eI (v1)), some (eI (0)), some (eI (v47)), some (eI (v58)), some (eI (v88))], [eI (0)]), f :: F, m96)
                  exact b_rz rfl rfl (Or.inl rfl) (K m96 (0) I97 F99 (by decide))
              · have b67 : 0 ≤ v64 ∧ v64 ≤ 0 := by omega
                refine w_t (np := 135) (l2 := [some (eR a0), some (eR a1), some (eI (v1)), some (eI (0)), some (eI (v47)), some (eI (v58)), none]) (s2 := [eR a0]) rfl (s_an rfl (pos_g I54 gA0 (by decide))) rfl ?_
                refine w_cw (np := 138) (as := []) (l2 := [some (eR a0)]) (rest := []) rfl rfl rfl (Nat.ble_eq.mp rfl) rfl rfl rfl (I54.kd gA0 (by decide) (n := 11) rfl) rfl ?_
                refine w_t (np := 1) (l2 := [some (eR a0)]) (s2 := [eR a0]) rfl (s_an rfl (pos_g I54 gA0 (by decide))) rfl ?_
                refine w_t (np := 2) (l2 := [some (eR a0)]) (s2 := [eR a0, eR a0]) rfl (s_an rfl (pos_g I54 gA0 (by decide))) rfl ?_
                refine j_gi (np := 5) rfl rfl rfl I54 gA0 (by decide) (n := 11) rfl rfl (lo := -2147483648) (hi := 2147483647) rfl ?_
                intro v67 e68 b69
                refine w_t (np := 6) (l2 := [some (eR a0)]) (s2 := [eI (4), eI (v67), eR a0]) rfl rfl rfl ?_
                refine b_cne (t1 := 13) (t2 := 9) rfl rfl rfl (ev_w_in (by omega) (by omega)) rfl (fun g70 => ?_) (fun g70 => ?_)
                · refine w_t (np := 14) (l2 := [some (eR a0)]) (s2 := [eI (2), eR a0]) rfl rfl rfl ?_
                  refine w_t (np := 15) (l2 := [some (eR a0)]) (s2 := [eR a0, eI (2), eR a0]) rfl (s_an rfl (pos_g I54 gA0 (by decide))) rfl ?_
                  refine j_gi (np := 18) rfl rfl rfl I54 gA0 (by decide) (n := 11) rfl rfl (lo := 0) (hi := 900) rfl ?_
                  intro v71 e72 b73
                  refine w_cw (np := 21) (as := [eI (2), eI (v71)]) (l2 := [some (eR a0), some (eI (2)), some (eI (v71))]) (rest := []) rfl rfl rfl (Nat.ble_eq.mp rfl) rfl rfl rfl (I54.kd gA0 (by decide) (n := 11) rfl) rfl ?_
                  refine w_t (np := 1) (l2 := [some (eR a0), some (eI (2)), some (eI (v71))]) (s2 := [eR a0]) rfl (s_an rfl (pos_g I54 gA0 (by decide))) rfl ?_
                  refine w_t (np := 2) (l2 := [some (eR a0), some (eI (2)), some (eI (v71))]) (s2 := [eI (2), eR a0]) rfl rfl rfl ?_
                  refine j_pf (np := 5) (w := 2) rfl rfl I54 gA0 (by decide) (n := 11) rfl rfl (hO_i (lo := -2147483648) (hi := 2147483647) rfl (by decide)) ?_
                  intro m74 I75 W76
                  have F77 : Fr l_59 0 0 g μ m74 := F61.w W76 gA0 rfl
                  refine w_t (np := 6) (l2 := [some (eR a0), some (eI (2)), some (eI (v71))]) (s2 := [eR a0]) rfl (s_an rfl (pos_g I75 gA0 (by decide))) rfl ?_
                  refine w_t (np := 7) (l2 := [some (eR a0), some (eI (2)), some (eI (v71))]) (s2 := [eI (v71), eR a0]) rfl rfl rfl ?_
                  refine j_pf (np := 10) (w := v71) rfl rfl I75 gA0 (by decide) (n := 11) rfl rfl (hO_i (lo := -2147483648) (hi := 2147483647) rfl (by omega)) ?_
                  intro m78 I79 W80
                  have F81 : Fr l_59 0 0 g μ m78 := F77.w W80 gA0 rfl
                  refine w_t (np := 11) (l2 := [some (eR a0), some (eI (2)), some (eI (v71))]) (s2 := [eI (0)]) rfl rfl rfl ?_
                  refine b_rz rfl rfl (Or.inl rfl) ?_
                  show ex_q (dt_fg L ρ) rc (d + 5, (62, 21, [some (eR a0)], [eI (0)]), (59, 138, [some (eR a0), some (eR a1), some (eI (v1)), some (eI (0)), some (eI (v47)), some (eI (v58)), none], []) :: f :: F, m78)
                  refine b_rz rfl rfl (Or.inl rfl) ?_
                  show ex_q (dt_fg L ρ) rc (d + 6, (59, 138, [some (eR a0), some (eR a1), some (eI (v1)), some (eI (0)), some (eI (v47)), some (eI (v58)), none], [eI (0)]), f :: F, m78)
                  exact b_rz rfl rfl (Or.inl rfl) (K m78 (0) I79 F81 (by decide))
                · have b71 : 4 ≤ v67 ∧ v67 ≤ 4 := by omega
                  refine w_t (np := 10) (l2 := [some (eR a0)]) (s2 := [eI (1), eR a0]) rfl rfl rfl ?_
                  refine w_go (t1 := 14) rfl rfl ?_
                  refine w_t (np := 15) (l2 := [some (eR a0)]) (s2 := [eR a0, eI (1), eR a0]) rfl (s_an rfl (pos_g I54 gA0 (by decide))) rfl ?_
                  refine j_gi (np := 18) rfl rfl rfl I54 gA0 (by decide) (n := 11) rfl rfl (lo := 0) (hi := 900) rfl ?_
                  intro v71 e72 b73
                  refine w_cw (np := 21) (as := [eI (1), eI (v71)]) (l2 := [some (eR a0), some (eI (1)), some (eI (v71))]) (rest := []) rfl rfl rfl (Nat.ble_eq.mp rfl) rfl rfl rfl (I54.kd gA0 (by decide) (n := 11) rfl) rfl ?_
                  refine w_t (np := 1) (l2 := [some (eR a0), some (eI (1)), some (eI (v71))]) (s2 := [eR a0]) rfl (s_an rfl (pos_g I54 gA0 (by decide))) rfl ?_
                  refine w_t (np := 2) (l2 := [some (eR a0), some (eI (1)), some (eI (v71))]) (s2 := [eI (1), eR a0]) rfl rfl rfl ?_
                  refine j_pf (np := 5) (w := 1) rfl rfl I54 gA0 (by decide) (n := 11) rfl rfl (hO_i (lo := -2147483648) (hi := 2147483647) rfl (by decide)) ?_
                  intro m74 I75 W76
                  have F77 : Fr l_59 0 0 g μ m74 := F61.w W76 gA0 rfl
                  refine w_t (np := 6) (l2 := [some (eR a0), some (eI (1)), some (eI (v71))]) (s2 := [eR a0]) rfl (s_an rfl (pos_g I75 gA0 (by decide))) rfl ?_
                  refine w_t (np := 7) (l2 := [some (eR a0), some (eI (1)), some (eI (v71))]) (s2 := [eI (v71), eR a0]) rfl rfl rfl ?_
                  refine j_pf (np := 10) (w := v71) rfl rfl I75 gA0 (by decide) (n := 11) rfl rfl (hO_i (lo := -2147483648) (hi := 2147483647) rfl (by omega)) ?_
                  intro m78 I79 W80
                  have F81 : Fr l_59 0 0 g μ m78 := F77.w W80 gA0 rfl
                  refine w_t (np := 11) (l2 := [some (eR a0), some (eI (1)), some (eI (v71))]) (s2 := [eI (0)]) rfl rfl rfl ?_
                  refine b_rz rfl rfl (Or.inl rfl) ?_
                  show ex_q (dt_fg L ρ) rc (d + 5, (62, 21, [some (eR a0)], [eI (0)]), (59, 138, [some (eR a0), some (eR a1), some (eI (v1)), some (eI (0)), some (eI (v47)), some (eI (v58)), none], []) :: f :: F, m78)
                  refine b_rz rfl rfl (Or.inl rfl) ?_
                  show ex_q (dt_fg L ρ) rc (d + 6, (59, 138, [some (eR a0), some (eR a1), some (eI (v1)), some (eI (0)), some (eI (v47)), some (eI (v58)), none], [eI (0)]), f :: F, m78)
                  exact b_rz rfl rfl (Or.inl rfl) (K m78 (0) I79 F81 (by decide))
            · have b64 : 0 ≤ v56 ∧ v56 ≤ 0 := by omega
              refine w_t (np := 118) (l2 := [some (eR a0), some (eR a1), some (eI (v1)), some (eI (0)), some (eI (v47)), none, none]) (s2 := [eI (0)]) rfl rfl rfl ?_
              exact b_rz rfl rfl (Or.inl rfl) (K m53 (0) I54 F61 (by decide))
          · have b53 : 0 ≤ v45 ∧ v45 ≤ 0 := by omega
            refine w_t (np := 100) (l2 := [some (eR a0), some (eR a1), some (eI (v1)), some (eI (0)), some (eI (i31)), none, none]) (s2 := [eI (0)]) rfl rfl rfl ?_
            exact b_rz rfl rfl (Or.inl rfl) (K m42 (0) I43 F50 (by decide))
        · have b39 : 0 ≤ i31 ∧ i31 ≤ 3 := by omega
          refine w_t (np := 72) (l2 := [some (eR a0), some (eR a1), some (eI (v1)), some (eI (0)), some (eI (i31)), none, none]) (s2 := [eR a0]) rfl (s_an rfl (pos_g I34 gA0 (by decide))) rfl ?_
          refine w_t (np := 74) (l2 := [some (eR a0), some (eR a1), some (eI (v1)), some (eI (0)), some (eI (i31)), none, none]) (s2 := [eI (i31), eR a0]) rfl rfl rfl ?_
          refine w_cw (np := 77) (as := [eI (i31)]) (l2 := [some (eR a0), some (eI (i31)), none]) (rest := []) rfl rfl rfl (Nat.ble_eq.mp rfl) rfl rfl rfl (I34.kd gA0 (by decide) (n := 11) rfl) rfl ?_
          refine s_60 (a1 := i31) I34 gA0 (by omega) ?_
          intro m39 v42 I40 F41 b43
          have F44 : Fr l_59 0 0 g μ m39 := F35.t F41 rfl
          show ex_q (dt_fg L ρ) rc (d + 6, (59, 77, [some (eR a0), some (eR a1), some (eI (v1)), some (eI (0)), some (eI (i31)), none, none], [eI (v42)]), f :: F, m39)
          refine b_ine (t1 := 82) (t2 := 80) rfl rfl rfl (ev_w_in (by omega) (by omega)) (fun g45 => ?_) (fun g45 => ?_)
          · have b46 : 1 ≤ v42 ∧ v42 ≤ 1 := by omega
            obtain ⟨v46, e47⟩ : ∃ zz : Int, zz = (i31) + (1) := ⟨_, rfl⟩
            have b48 : 1 ≤ v46 ∧ v46 ≤ 4 := by omega
            refine w_t (np := 85) (l2 := [some (eR a0), some (eR a1), some (eI (v1)), some (eI (0)), some (eI (v46)), none, none]) (s2 := []) rfl (b_iinc rfl (by rw [← e47]; exact ev_w_in (by omega) (by omega)) rfl) rfl ?_
            refine w_go (t1 := 65) rfl rfl ?_
            exact ih30 (4 - (v46)).toNat (by omega) m39 (v46) I40 F44 (by omega) (F41.k k36 gA1 (by decide) rfl)    rfl
          · have b46 : 0 ≤ v42 ∧ v42 ≤ 0 := by omega
            refine w_t (np := 81) (l2 := [some (eR a0), some (eR a1), some (eI (v1)), some (eI (0)), some (eI (i31)), none, none]) (s2 := [eI (0)]) rfl rfl rfl ?_
            exact b_rz rfl rfl (Or.inl rfl) (K m39 (0) I40 F44 (by decide))
      exact hL65 _ m18 (0) I19 F26 (by decide) (F20.k e9 gA1 (by decide) rfl)    rfl
    · have b12 : 24 ≤ v8 ∧ v8 ≤ 24 := by omega
      refine w_t (np := 52) (l2 := [some (eR a0), some (eR a1), some (eI (v1)), some (eI (0)), none, none, none]) (s2 := [eR a0]) rfl (s_an rfl (pos_g hI gA0 (by decide))) rfl ?_
      refine w_t (np := 53) (l2 := [some (eR a0), some (eR a1), some (eI (v1)), some (eI (0)), none, none, none]) (s2 := [eI (4), eR a0]) rfl rfl rfl ?_
      refine w_t (np := 54) (l2 := [some (eR a0), some (eR a1), some (eI (v1)), some (eI (0)), none, none, none]) (s2 := [eI (v1), eI (4), eR a0]) rfl rfl rfl ?_
      refine w_cw (np := 57) (as := [eI (4), eI (v1)]) (l2 := [some (eR a0), some (eI (4)), some (eI (v1))]) (rest := []) rfl rfl rfl (Nat.ble_eq.mp rfl) rfl rfl rfl (hI.kd gA0 (by decide) (n := 11) rfl) rfl ?_
      refine w_t (np := 1) (l2 := [some (eR a0), some (eI (4)), some (eI (v1))]) (s2 := [eR a0]) rfl (s_an rfl (pos_g hI gA0 (by decide))) rfl ?_
      refine w_t (np := 2) (l2 := [some (eR a0), some (eI (4)), some (eI (v1))]) (s2 := [eI (4), eR a0]) rfl rfl rfl ?_
      refine j_pf (np := 5) (w := 4) rfl rfl hI gA0 (by decide) (n := 11) rfl rfl (hO_i (lo := -2147483648) (hi := 2147483647) rfl (by decide)) ?_
      intro m12 I13 W14
      have F15 : Fr l_59 0 0 g μ m12 := F0.w W14 gA0 rfl
      refine w_t (np := 6) (l2 := [some (eR a0), some (eI (4)), some (eI (v1))]) (s2 := [eR a0]) rfl (s_an rfl (pos_g I13 gA0 (by decide))) rfl ?_
      refine w_t (np := 7) (l2 := [some (eR a0), some (eI (4)), some (eI (v1))]) (s2 := [eI (v1), eR a0]) rfl rfl rfl ?_
      refine j_pf (np := 10) (w := v1) rfl rfl I13 gA0 (by decide) (n := 11) rfl rfl (hO_i (lo := -2147483648) (hi := 2147483647) rfl (by omega)) ?_
      intro m16 I17 W18
      have F19 : Fr l_59 0 0 g μ m16 := F15.w W18 gA0 rfl
      refine w_t (np := 11) (l2 := [some (eR a0), some (eI (4)), some (eI (v1))]) (s2 := [eI (0)]) rfl rfl rfl ?_
      refine b_rz rfl rfl (Or.inl rfl) ?_
      show ex_q (dt_fg L ρ) rc (d + 6, (59, 57, [some (eR a0), some (eR a1), some (eI (v1)), some (eI (0)), none, none, none], [eI (0)]), f :: F, m16)
      exact b_rz rfl rfl (Or.inl rfl) (K m16 (0) I17 F19 (by decide))
def l_58 : List Nat := [6155, 6147, 6148, 6149, 6150, 6151, 6152, 6153, 6154, 6656, 7430, 7431, 8448, 7936, 8192, 7680, 8704]
theorem s_58 {L : Nat} {ρ : Nat → Int} {rc : eQ} {d : Nat} {f : eFr} {F : List eFr} {μ : eM} {g : Nat → Nat} {a0 : Nat} {a1 : Int} {a2 : Nat} (hI : SI g μ) (gA0 : g a0 = 24) (bA1 : 0 ≤ a1 ∧ a1 ≤ 900) (gA2 : g a2 = 29) (K : ∀ (μ2 : eM) (v : Int), SI g μ2 → Fr l_58 0 0 g μ μ2 → (0 ≤ v ∧ v ≤ 1) → ex_q (dt_fg L ρ) rc (d + 8, (f.1, f.2.1, f.2.2.1, eI v :: f.2.2.2), F, μ2)) : ex_q (dt_fg L ρ) rc (d + 7, (58, 0, [some (eR a0), some (eI (a1)), some (eR a2), none], []), f :: F, μ) := by
  have F0 : Fr l_58 0 0 g μ μ := Fr.r
  refine w_t (np := 1) (l2 := [some (eR a0), some (eI (a1)), some (eR a2), none]) (s2 := [eR a0]) rfl (s_an rfl (pos_g hI gA0 (by decide))) rfl ?_
  refine w_t (np := 2) (l2 := [some (eR a0), some (eI (a1)), some (eR a2), none]) (s2 := [eI (a1), eR a0]) rfl rfl rfl ?_
  refine w_t (np := 3) (l2 := [some (eR a0), some (eI (a1)), some (eR a2), none]) (s2 := [eR a0, eI (a1), eR a0]) rfl (s_an rfl (pos_g hI gA0 (by decide))) rfl ?_
  refine j_gi (np := 6) rfl rfl rfl hI gA0 (by decide) (n := 11) rfl rfl (lo := 0) (hi := 900) rfl ?_
  intro v1 e2 b3
  refine w_cu (np := 9) (as := [eI (a1), eI (v1)]) (l2 := [some (eI (a1)), some (eI (v1))]) (rest := [eR a0]) rfl rfl rfl (Nat.ble_eq.mp rfl) rfl rfl rfl rfl ?_
  refine w_t (np := 1) (l2 := [some (eI (a1)), some (eI (v1))]) (s2 := [eI (a1)]) rfl rfl rfl ?_
  refine w_t (np := 2) (l2 := [some (eI (a1)), some (eI (v1))]) (s2 := [eI (v1), eI (a1)]) rfl rfl rfl ?_
  refine b_cgt (t1 := 9) (t2 := 5) rfl rfl rfl (ev_w_in (by omega) (by omega)) (ev_w_in (by omega) (by omega)) (fun g4 => ?_) (fun g4 => ?_)
  · have b5 : 1 ≤ a1 ∧ a1 ≤ 900 := by omega
    have b6 : 0 ≤ v1 ∧ v1 ≤ 899 := by omega
    refine w_t (np := 10) (l2 := [some (eI (a1)), some (eI (v1))]) (s2 := [eI (v1)]) rfl rfl rfl ?_
    refine b_ri rfl rfl ?_
    show ex_q (dt_fg L ρ) rc (d + 7, (58, 9, [some (eR a0), some (eI (a1)), some (eR a2), none], [eI (v1), eR a0]), f :: F, μ)
    refine j_pf (np := 12) (w := v1) rfl rfl hI gA0 (by decide) (n := 11) rfl rfl (hO_i (lo := 0) (hi := 900) rfl (by omega)) ?_
    intro m5 I6 W7
    have F8 : Fr l_58 0 0 g μ m5 := F0.w W7 gA0 rfl
    refine w_t (np := 13) (l2 := [some (eR a0), some (eI (a1)), some (eR a2), none]) (s2 := [eR a0]) rfl (s_an rfl (pos_g I6 gA0 (by decide))) rfl ?_
    refine w_t (np := 14) (l2 := [some (eR a0), some (eI (a1)), some (eR a2), none]) (s2 := [eI (0), eR a0]) rfl rfl rfl ?_
    refine j_pf (np := 17) (w := 0) rfl rfl I6 gA0 (by decide) (n := 11) rfl rfl (hO_i (lo := 0) (hi := 900) rfl (by decide)) ?_
    intro m9 I10 W11
    have F12 : Fr l_58 0 0 g μ m9 := F8.w W11 gA0 rfl
    refine w_t (np := 18) (l2 := [some (eR a0), some (eI (a1)), some (eR a2), none]) (s2 := [eR a0]) rfl (s_an rfl (pos_g I10 gA0 (by decide))) rfl ?_
    refine w_t (np := 19) (l2 := [some (eR a0), some (eI (a1)), some (eR a2), none]) (s2 := [eI (0), eR a0]) rfl rfl rfl ?_
    refine j_pf (np := 22) (w := 0) rfl rfl I10 gA0 (by decide) (n := 11) rfl rfl (hO_i (lo := 0) (hi := 900) rfl (by decide)) ?_
    intro m13 I14 W15
    have F16 : Fr l_58 0 0 g μ m13 := F12.w W15 gA0 rfl
    refine w_t (np := 23) (l2 := [some (eR a0), some (eI (a1)), some (eR a2), none]) (s2 := [eR a0]) rfl (s_an rfl (pos_g I14 gA0 (by decide))) rfl ?_
    refine w_t (np := 24) (l2 := [some (eR a0), some (eI (a1)), some (eR a2), none]) (s2 := [eI (0), eR a0]) rfl rfl rfl ?_
    refine j_pf (np := 27) (w := 0) rfl rfl I14 gA0 (by decide) (n := 11) rfl rfl (hO_i (lo := -2147483648) (hi := 2147483647) rfl (by decide)) ?_
    intro m17 I18 W19
    have F20 : Fr l_58 0 0 g μ m17 := F16.w W19 gA0 rfl
    refine w_t (np := 28) (l2 := [some (eR a0), some (eI (a1)), some (eR a2), none]) (s2 := [eR a0]) rfl (s_an rfl (pos_g I18 gA0 (by decide))) rfl ?_
    refine w_t (np := 29) (l2 := [some (eR a0), some (eI (a1)), some (eR a2), none]) (s2 := [eI (-1), eR a0]) rfl rfl rfl ?_
    refine j_pf (np := 32) (w := -1) rfl rfl I18 gA0 (by decide) (n := 11) rfl rfl (hO_i (lo := -2147483648) (hi := 2147483647) rfl (by decide)) ?_
    intro m21 I22 W23
    have F24 : Fr l_58 0 0 g μ m21 := F20.w W23 gA0 rfl
    refine w_t (np := 33) (l2 := [some (eR a0), some (eI (a1)), some (eR a2), none]) (s2 := [eR a2]) rfl (s_an rfl (pos_g I22 gA2 (by decide))) rfl ?_
    refine w_cw (np := 36) (as := []) (l2 := [some (eR a2)]) (rest := []) rfl rfl rfl (Nat.ble_eq.mp rfl) rfl rfl rfl (I22.kd gA2 (by decide) (n := 7) rfl) rfl ?_
    refine s_135 I22 gA2 ?_
    intro m25 I26 F27
    have F28 : Fr l_58 0 0 g μ m25 := F24.t F27 rfl
    show ex_q (dt_fg L ρ) rc (d + 7, (58, 36, [some (eR a0), some (eI (a1)), some (eR a2), none], []), f :: F, m25)
    refine w_t (np := 37) (l2 := [some (eR a0), some (eI (a1)), some (eR a2), none]) (s2 := [eR a0]) rfl (s_an rfl (pos_g I26 gA0 (by decide))) rfl ?_
    refine w_cw (np := 40) (as := []) (l2 := [some (eR a0), none, none]) (rest := []) rfl rfl rfl (Nat.ble_eq.mp rfl) rfl rfl rfl (I26.kd gA0 (by decide) (n := 11) rfl) rfl ?_
    obtain ⟨v29, e30, b31⟩ := I26.pk (k := 7) gA0 (by decide) (n := 11) rfl rfl (lo := -2147483648) (hi := 2147483647) rfl
    obtain ⟨v32, e33, b34⟩ := I26.pk (k := 4) gA0 (by decide) (n := 11) rfl rfl (lo := -2147483648) (hi := 2147483647) rfl
    refine s_67v I26 gA0 e30 e33 ?_
    intro m35 v38 v40 I36 F37 e39 e41 h42
    have F43 : Fr l_58 0 0 g μ m35 := F28.t F37 rfl
    have b44 : -2147483648 ≤ v38 ∧ v38 ≤ 2147483647 := by
      rw [← e39]
      exact I36.int gA0 (by decide) (n := 11) rfl (by decide) rfl
    have b45 : -2147483648 ≤ v40 ∧ v40 ≤ 2147483647 := by
      rw [← e41]
      exact I36.int gA0 (by decide) (n := 11) rfl (by decide) rfl
    show ex_q (dt_fg L ρ) rc (d + 7, (58, 40, [some (eR a0), some (eI (a1)), some (eR a2), none], []), f :: F, m35)
    refine w_t (np := 41) (l2 := [some (eR a0), some (eI (a1)), some (eR a2), none]) (s2 := [eI (0)]) rfl rfl rfl ?_
    refine w_t (np := 42) (l2 := [some (eR a0), some (eI (a1)), some (eR a2), some (eI (0))]) (s2 := []) rfl rfl rfl ?_
    have hL42 : ∀ (n46 : Nat) (m50 : eM) (i48 : Int), SI g m50 → Fr l_58 0 0 g μ m50 → (0 ≤ i48 ∧ i48 ≤ 40) → m50.1 a0 3 = v1 → m50.1 a0 2 = 0 → n46 = (40 - i48).toNat → ex_q (dt_fg L ρ) rc (d + 7, (58, 42, [some (eR a0), some (eI (a1)), some (eR a2), some (eI (i48))], []), f :: F, m50) := by
      intro n46
      induction n46 using Nat.strongRecOn with
      | _ n46 ih47 =>
      intro m50 i48 I51 F52 b49 k53 k54 hn55
      refine w_t (np := 43) (l2 := [some (eR a0), some (eI (a1)), some (eR a2), some (eI (i48))]) (s2 := [eI (i48)]) rfl rfl rfl ?_
      refine w_t (np := 45) (l2 := [some (eR a0), some (eI (a1)), some (eR a2), some (eI (i48))]) (s2 := [eI (24), eI (i48)]) rfl rfl rfl ?_
      refine b_cgt (t1 := 71) (t2 := 48) rfl rfl rfl (ev_w_in (by omega) (by omega)) rfl (fun g56 => ?_) (fun g56 => ?_)
      · have b57 : 25 ≤ i48 ∧ i48 ≤ 40 := by omega
        refine w_t (np := 72) (l2 := [some (eR a0), some (eI (a1)), some (eR a2), some (eI (i48))]) (s2 := [eI (1)]) rfl rfl rfl ?_
        exact b_rz rfl rfl (Or.inr rfl) (K m50 (1) I51 F52 (by decide))
      · have b57 : 0 ≤ i48 ∧ i48 ≤ 24 := by omega
        refine w_t (np := 49) (l2 := [some (eR a0), some (eI (a1)), some (eR a2), some (eI (i48))]) (s2 := [eR a0]) rfl (s_an rfl (pos_g I51 gA0 (by decide))) rfl ?_
        refine j_gi (np := 52) rfl rfl rfl I51 gA0 (by decide) (n := 11) rfl rfl (lo := -2147483648) (hi := 2147483647) rfl ?_
        intro v57 e58 b59
        refine b_ieq (t1 := 71) (t2 := 55) rfl rfl rfl (ev_w_in (by omega) (by omega)) (fun g60 => ?_) (fun g60 => ?_)
        · have b61 : 0 ≤ v57 ∧ v57 ≤ 0 := by omega
          refine w_t (np := 72) (l2 := [some (eR a0), some (eI (a1)), some (eR a2), some (eI (i48))]) (s2 := [eI (1)]) rfl rfl rfl ?_
          exact b_rz rfl rfl (Or.inr rfl) (K m50 (1) I51 F52 (by decide))
        · refine w_t (np := 56) (l2 := [some (eR a0), some (eI (a1)), some (eR a2), some (eI (i48))]) (s2 := [eR a0]) rfl (s_an rfl (pos_g I51 gA0 (by decide))) rfl ?_
          refine w_t (np := 57) (l2 := [some (eR a0), some (eI (a1)), some (eR a2), some (eI (i48))]) (s2 := [eR a2, eR a0]) rfl (s_an rfl (pos_g I51 gA2 (by decide))) rfl ?_
          refine w_cw (np := 60) (as := [eR a2]) (l2 := [some (eR a0), some (eR a2), none, none, none, none, none]) (rest := []) rfl rfl rfl (Nat.ble_eq.mp rfl) rfl rfl rfl (I51.kd gA0 (by decide) (n := 11) rfl) rfl ?_
          refine s_59 I51 gA0 gA2 ?_
          intro m61 v64 I62 F63 b65
          have F66 : Fr l_58 0 0 g μ m61 := F52.t F63 rfl
          show ex_q (dt_fg L ρ) rc (d + 7, (58, 60, [some (eR a0), some (eI (a1)), some (eR a2), some (eI (i48))], [eI (v64)]), f :: F, m61)
          refine b_ine (t1 := 65) (t2 := 63) rfl rfl rfl (ev_w_in (by omega) (by omega)) (fun g67 => ?_) (fun g67 => ?_)
          · have b68 : 1 ≤ v64 ∧ v64 ≤ 1 := by omega
            obtain ⟨v68, e69⟩ : ∃ zz : Int, zz = (i48) + (1) := ⟨_, rfl⟩
            have b70 : 1 ≤ v68 ∧ v68 ≤ 25 := by omega
            refine w_t (np := 68) (l2 := [some (eR a0), some (eI (a1)), some (eR a2), some (eI (v68))]) (s2 := []) rfl (b_iinc rfl (by rw [← e69]; exact ev_w_in (by omega) (by omega)) rfl) rfl ?_
            refine w_go (t1 := 42) rfl rfl ?_
            exact ih47 (40 - (v68)).toNat (by omega) m61 (v68) I62 F66 (by omega) (F63.k k53 gA0 (by decide) rfl) (F63.k k54 gA0 (by decide) rfl)    rfl
          · have b68 : 0 ≤ v64 ∧ v64 ≤ 0 := by omega
            refine w_t (np := 64) (l2 := [some (eR a0), some (eI (a1)), some (eR a2), some (eI (i48))]) (s2 := [eI (0)]) rfl rfl rfl ?_
            exact b_rz rfl rfl (Or.inl rfl) (K m61 (0) I62 F66 (by decide))
    exact hL42 _ m35 (0) I36 F43 (by decide) (F37.k (F27.k (W23.slot (W19.slot (W15.slot (W11.slot W7.at (by decide)) (by decide)) (by decide)) (by decide)) gA0 (by decide) rfl) gA0 (by decide) rfl) (F37.k (F27.k (W23.slot (W19.slot (W15.slot W11.at (by decide)) (by decide)) (by decide)) gA0 (by decide) rfl) gA0 (by decide) rfl)    rfl
  · refine w_t (np := 6) (l2 := [some (eI (a1)), some (eI (v1))]) (s2 := [eI (a1)]) rfl rfl rfl ?_
    refine w_go (t1 := 10) rfl rfl ?_
    refine b_ri rfl rfl ?_
    show ex_q (dt_fg L ρ) rc (d + 7, (58, 9, [some (eR a0), some (eI (a1)), some (eR a2), none], [eI (a1), eR a0]), f :: F, μ)
    refine j_pf (np := 12) (w := a1) rfl rfl hI gA0 (by decide) (n := 11) rfl rfl (hO_i (lo := 0) (hi := 900) rfl (by omega)) ?_
    intro m5 I6 W7
    have F8 : Fr l_58 0 0 g μ m5 := F0.w W7 gA0 rfl
    refine w_t (np := 13) (l2 := [some (eR a0), some (eI (a1)), some (eR a2), none]) (s2 := [eR a0]) rfl (s_an rfl (pos_g I6 gA0 (by decide))) rfl ?_
    refine w_t (np := 14) (l2 := [some (eR a0), some (eI (a1)), some (eR a2), none]) (s2 := [eI (0), eR a0]) rfl rfl rfl ?_
    refine j_pf (np := 17) (w := 0) rfl rfl I6 gA0 (by decide) (n := 11) rfl rfl (hO_i (lo := 0) (hi := 900) rfl (by decide)) ?_
    intro m9 I10 W11
    have F12 : Fr l_58 0 0 g μ m9 := F8.w W11 gA0 rfl
    refine w_t (np := 18) (l2 := [some (eR a0), some (eI (a1)), some (eR a2), none]) (s2 := [eR a0]) rfl (s_an rfl (pos_g I10 gA0 (by decide))) rfl ?_
    refine w_t (np := 19) (l2 := [some (eR a0), some (eI (a1)), some (eR a2), none]) (s2 := [eI (0), eR a0]) rfl rfl rfl ?_
    refine j_pf (np := 22) (w := 0) rfl rfl I10 gA0 (by decide) (n := 11) rfl rfl (hO_i (lo := 0) (hi := 900) rfl (by decide)) ?_
    intro m13 I14 W15
    have F16 : Fr l_58 0 0 g μ m13 := F12.w W15 gA0 rfl
    refine w_t (np := 23) (l2 := [some (eR a0), some (eI (a1)), some (eR a2), none]) (s2 := [eR a0]) rfl (s_an rfl (pos_g I14 gA0 (by decide))) rfl ?_
    refine w_t (np := 24) (l2 := [some (eR a0), some (eI (a1)), some (eR a2), none]) (s2 := [eI (0), eR a0]) rfl rfl rfl ?_
    refine j_pf (np := 27) (w := 0) rfl rfl I14 gA0 (by decide) (n := 11) rfl rfl (hO_i (lo := -2147483648) (hi := 2147483647) rfl (by decide)) ?_
    intro m17 I18 W19
    have F20 : Fr l_58 0 0 g μ m17 := F16.w W19 gA0 rfl
    refine w_t (np := 28) (l2 := [some (eR a0), some (eI (a1)), some (eR a2), none]) (s2 := [eR a0]) rfl (s_an rfl (pos_g I18 gA0 (by decide))) rfl ?_
    refine w_t (np := 29) (l2 := [some (eR a0), some (eI (a1)), some (eR a2), none]) (s2 := [eI (-1), eR a0]) rfl rfl rfl ?_
    refine j_pf (np := 32) (w := -1) rfl rfl I18 gA0 (by decide) (n := 11) rfl rfl (hO_i (lo := -2147483648) (hi := 2147483647) rfl (by decide)) ?_
    intro m21 I22 W23
    have F24 : Fr l_58 0 0 g μ m21 := F20.w W23 gA0 rfl
    refine w_t (np := 33) (l2 := [some (eR a0), some (eI (a1)), some (eR a2), none]) (s2 := [eR a2]) rfl (s_an rfl (pos_g I22 gA2 (by decide))) rfl ?_
    refine w_cw (np := 36) (as := []) (l2 := [some (eR a2)]) (rest := []) rfl rfl rfl (Nat.ble_eq.mp rfl) rfl rfl rfl (I22.kd gA2 (by decide) (n := 7) rfl) rfl ?_
    refine s_135 I22 gA2 ?_
    intro m25 I26 F27
    have F28 : Fr l_58 0 0 g μ m25 := F24.t F27 rfl
    show ex_q (dt_fg L ρ) rc (d + 7, (58, 36, [some (eR a0), some (eI (a1)), some (eR a2), none], []), f :: F, m25)
    refine w_t (np := 37) (l2 := [some (eR a0), some (eI (a1)), some (eR a2), none]) (s2 := [eR a0]) rfl (s_an rfl (pos_g I26 gA0 (by decide))) rfl ?_
    refine w_cw (np := 40) (as := []) (l2 := [some (eR a0), none, none]) (rest := []) rfl rfl rfl (Nat.ble_eq.mp rfl) rfl rfl rfl (I26.kd gA0 (by decide) (n := 11) rfl) rfl ?_
    obtain ⟨v29, e30, b31⟩ := I26.pk (k := 7) gA0 (by decide) (n := 11) rfl rfl (lo := -2147483648) (hi := 2147483647) rfl
    obtain ⟨v32, e33, b34⟩ := I26.pk (k := 4) gA0 (by decide) (n := 11) rfl rfl (lo := -2147483648) (hi := 2147483647) rfl
    refine s_67v I26 gA0 e30 e33 ?_
    intro m35 v38 v40 I36 F37 e39 e41 h42
    have F43 : Fr l_58 0 0 g μ m35 := F28.t F37 rfl
    have b44 : -2147483648 ≤ v38 ∧ v38 ≤ 2147483647 := by
      rw [← e39]
      exact I36.int gA0 (by decide) (n := 11) rfl (by decide) rfl
    have b45 : -2147483648 ≤ v40 ∧ v40 ≤ 2147483647 := by
      rw [← e41]
      exact I36.int gA0 (by decide) (n := 11) rfl (by decide) rfl
    show ex_q (dt_fg L ρ) rc (d + 7, (58, 40, [some (eR a0), some (eI (a1)), some (eR a2), none], []), f :: F, m35)
    refine w_t (np := 41) (l2 := [some (eR a0), some (eI (a1)), some (eR a2), none]) (s2 := [eI (0)]) rfl rfl rfl ?_
    refine w_t (np := 42) (l2 := [some (eR a0), some (eI (a1)), some (eR a2), some (eI (0))]) (s2 := []) rfl rfl rfl ?_
    have hL42 : ∀ (n46 : Nat) (m50 : eM) (i48 : Int), SI g m50 → Fr l_58 0 0 g μ m50 → (0 ≤ i48 ∧ i48 ≤ 40) → m50.1 a0 3 = a1 → m50.1 a0 2 = 0 → n46 = (40 - i48).toNat → ex_q (dt_fg L ρ) rc (d + 7, (58, 42, [some (eR a0), some (eI (a1)), some (eR a2), some (eI (i48))], []), f :: F, m50) := by
      intro n46
      induction n46 using Nat.strongRecOn with
      | _ n46 ih47 =>
      intro m50 i48 I51 F52 b49 k53 k54 hn55
      refine w_t (np := 43) (l2 := [some (eR a0), some (eI (a1)), some (eR a2), some (eI (i48))]) (s2 := [eI (i48)]) rfl rfl rfl ?_
      refine w_t (np := 45) (l2 := [some (eR a0), some (eI (a1)), some (eR a2), some (eI (i48))]) (s2 := [eI (24), eI (i48)]) rfl rfl rfl ?_
      refine b_cgt (t1 := 71) (t2 := 48) rfl rfl rfl (ev_w_in (by omega) (by omega)) rfl (fun g56 => ?_) (fun g56 => ?_)
      · have b57 : 25 ≤ i48 ∧ i48 ≤ 40 := by omega
        refine w_t (np := 72) (l2 := [some (eR a0), some (eI (a1)), some (eR a2), some (eI (i48))]) (s2 := [eI (1)]) rfl rfl rfl ?_
        exact b_rz rfl rfl (Or.inr rfl) (K m50 (1) I51 F52 (by decide))
      · have b57 : 0 ≤ i48 ∧ i48 ≤ 24 := by omega
        refine w_t (np := 49) (l2 := [some (eR a0), some (eI (a1)), some (eR a2), some (eI (i48))]) (s2 := [eR a0]) rfl (s_an rfl (pos_g I51 gA0 (by decide))) rfl ?_
        refine j_gi (np := 52) rfl rfl rfl I51 gA0 (by decide) (n := 11) rfl rfl (lo := -2147483648) (hi := 2147483647) rfl ?_
        intro v57 e58 b59
        refine b_ieq (t1 := 71) (t2 := 55) rfl rfl rfl (ev_w_in (by omega) (by omega)) (fun g60 => ?_) (fun g60 => ?_)
        · have b61 : 0 ≤ v57 ∧ v57 ≤ 0 := by omega
          refine w_t (np := 72) (l2 := [some (eR a0), some (eI (a1)), some (eR a2), some (eI (i48))]) (s2 := [eI (1)]) rfl rfl rfl ?_
          exact b_rz rfl rfl (Or.inr rfl) (K m50 (1) I51 F52 (by decide))
        · refine w_t (np := 56) (l2 := [some (eR a0), some (eI (a1)), some (eR a2), some (eI (i48))]) (s2 := [eR a0]) rfl (s_an rfl (pos_g I51 gA0 (by decide))) rfl ?_
          refine w_t (np := 57) (l2 := [some (eR a0), some (eI (a1)), some (eR a2), some (eI (i48))]) (s2 := [eR a2, eR a0]) rfl (s_an rfl (pos_g I51 gA2 (by decide))) rfl ?_
          refine w_cw (np := 60) (as := [eR a2]) (l2 := [some (eR a0), some (eR a2), none, none, none, none, none]) (rest := []) rfl rfl rfl (Nat.ble_eq.mp rfl) rfl rfl rfl (I51.kd gA0 (by decide) (n := 11) rfl) rfl ?_
          refine s_59 I51 gA0 gA2 ?_
          intro m61 v64 I62 F63 b65
          have F66 : Fr l_58 0 0 g μ m61 := F52.t F63 rfl
          show ex_q (dt_fg L ρ) rc (d + 7, (58, 60, [some (eR a0), some (eI (a1)), some (eR a2), some (eI (i48))], [eI (v64)]), f :: F, m61)
          refine b_ine (t1 := 65) (t2 := 63) rfl rfl rfl (ev_w_in (by omega) (by omega)) (fun g67 => ?_) (fun g67 => ?_)
          · have b68 : 1 ≤ v64 ∧ v64 ≤ 1 := by omega
            obtain ⟨v68, e69⟩ : ∃ zz : Int, zz = (i48) + (1) := ⟨_, rfl⟩
            have b70 : 1 ≤ v68 ∧ v68 ≤ 25 := by omega
            refine w_t (np := 68) (l2 := [some (eR a0), some (eI (a1)), some (eR a2), some (eI (v68))]) (s2 := []) rfl (b_iinc rfl (by rw [← e69]; exact ev_w_in (by omega) (by omega)) rfl) rfl ?_
            refine w_go (t1 := 42) rfl rfl ?_
            exact ih47 (40 - (v68)).toNat (by omega) m61 (v68) I62 F66 (by omega) (F63.k k53 gA0 (by decide) rfl) (F63.k k54 gA0 (by decide) rfl)    rfl
          · have b68 : 0 ≤ v64 ∧ v64 ≤ 0 := by omega
            refine w_t (np := 64) (l2 := [some (eR a0), some (eI (a1)), some (eR a2), some (eI (i48))]) (s2 := [eI (0)]) rfl rfl rfl ?_
            exact b_rz rfl rfl (Or.inl rfl) (K m61 (0) I62 F66 (by decide))
    exact hL42 _ m35 (0) I36 F43 (by decide) (F37.k (F27.k (W23.slot (W19.slot (W15.slot (W11.slot W7.at (by decide)) (by decide)) (by decide)) (by decide)) gA0 (by decide) rfl) gA0 (by decide) rfl) (F37.k (F27.k (W23.slot (W19.slot (W15.slot W11.at (by decide)) (by decide)) (by decide)) gA0 (by decide) rfl) gA0 (by decide) rfl)    rfl
def l_200 : List Nat := [270, 263, 264, 6155, 6147, 6148, 6149, 6150, 6151, 6152, 6153, 6154, 6656, 7430, 7431, 8448, 7936, 8192, 7680, 8704]
theorem s_200 {L : Nat} {ρ : Nat → Int} {rc : eQ} {d : Nat} {f : eFr} {F : List eFr} {μ : eM} {g : Nat → Nat} {a0 : Nat} {a1 : Int} (hI : SI g μ) (gA0 : g a0 = 1) (bA1 : -2147483648 ≤ a1 ∧ a1 ≤ 2147483647) (K : ∀ (μ2 : eM) (v : Int), SI g μ2 → Fr l_200 0 0 g μ μ2 → (-2147483648 ≤ v ∧ v ≤ 2147483647) → ex_q (dt_fg L ρ) rc (d + 9, (f.1, f.2.1, f.2.2.1, eI v :: f.2.2.2), F, μ2)) : ex_q (dt_fg L ρ) rc (d + 8, (200, 0, [some (eR a0), some (eI (a1)), none], []), f :: F, μ) := by
  have F0 : Fr l_200 0 0 g μ μ := Fr.r
  refine w_t (np := 1) (l2 := [some (eR a0), some (eI (a1)), none]) (s2 := [eI (a1)]) rfl rfl rfl ?_
  refine b_ilt (t1 := 15) (t2 := 4) rfl rfl rfl (ev_w_in (by omega) (by omega)) (fun g1 => ?_) (fun g1 => ?_)
  · have b2 : -2147483648 ≤ a1 ∧ a1 ≤ -1 := by omega
    refine w_t (np := 16) (l2 := [some (eR a0), some (eI (a1)), none]) (s2 := [eR a0]) rfl (s_an rfl (pos_g hI gA0 (by decide))) rfl ?_
    refine w_t (np := 17) (l2 := [some (eR a0), some (eI (a1)), none]) (s2 := [eI (1), eR a0]) rfl rfl rfl ?_
    refine w_cw (np := 20) (as := [eI (1)]) (l2 := [some (eR a0), some (eI (1))]) (rest := []) rfl rfl rfl (Nat.ble_eq.mp rfl) rfl rfl rfl (hI.kd gA0 (by decide) (n := 14) rfl) rfl ?_
    refine w_t (np := 1) (l2 := [some (eR a0), some (eI (1))]) (s2 := [eR a0]) rfl (s_an rfl (pos_g hI gA0 (by decide))) rfl ?_
    refine w_t (np := 2) (l2 := [some (eR a0), some (eI (1))]) (s2 := [eI (1), eR a0]) rfl rfl rfl ?_
    refine j_pf (np := 5) (w := 1) rfl rfl hI gA0 (by decide) (n := 14) rfl rfl (hO_i (lo := -2147483648) (hi := 2147483647) rfl (by decide)) ?_
    intro m2 I3 W4
    have F5 : Fr l_200 0 0 g μ m2 := F0.w W4 gA0 rfl
    refine w_t (np := 6) (l2 := [some (eR a0), some (eI (1))]) (s2 := [eI (-1)]) rfl rfl rfl ?_
    refine b_ri rfl rfl ?_
    show ex_q (dt_fg L ρ) rc (d + 8, (200, 20, [some (eR a0), some (eI (a1)), none], [eI (-1)]), f :: F, m2)
    exact b_ri rfl rfl (K m2 (-1) I3 F5 (by decide))
  · have b2 : 0 ≤ a1 ∧ a1 ≤ 2147483647 := by omega
    refine w_t (np := 5) (l2 := [some (eR a0), some (eI (a1)), none]) (s2 := [eI (a1)]) rfl rfl rfl ?_
    refine w_t (np := 6) (l2 := [some (eR a0), some (eI (a1)), none]) (s2 := [eR a0, eI (a1)]) rfl (s_an rfl (pos_g hI gA0 (by decide))) rfl ?_
    refine j_gr (np := 9) rfl rfl hI gA0 (by decide) (n := 14) rfl rfl rfl ?_
    intro v2 e3 b4 z5
    have b4 : g v2 = 24 := Nat.eq_of_beq_eq_true b4
    refine j_gi (np := 12) rfl rfl rfl hI b4 (by decide) (n := 11) rfl rfl (lo := 0) (hi := 900) rfl ?_
    intro v6 e7 b8
    refine b_cle (t1 := 21) (t2 := 15) rfl rfl rfl (ev_w_in (by omega) (by omega)) (ev_w_in (by omega) (by omega)) (fun g9 => ?_) (fun g9 => ?_)
    · have b10 : 0 ≤ a1 ∧ a1 ≤ 900 := by omega
      refine w_t (np := 22) (l2 := [some (eR a0), some (eI (a1)), none]) (s2 := [eR a0]) rfl (s_an rfl (pos_g hI gA0 (by decide))) rfl ?_
      refine w_gf (np := 25) (v := eR v2) rfl rfl (hI.kd gA0 (by decide) (n := 14) rfl) (by rw [e3]; rfl) ?_
      refine w_t (np := 26) (l2 := [some (eR a0), some (eI (a1)), none]) (s2 := [eI (a1), eR v2]) rfl rfl rfl ?_
      refine w_t (np := 27) (l2 := [some (eR a0), some (eI (a1)), none]) (s2 := [eR a0, eI (a1), eR v2]) rfl (s_an rfl (pos_g hI gA0 (by decide))) rfl ?_
      refine j_gr (np := 30) rfl rfl hI gA0 (by decide) (n := 14) rfl rfl rfl ?_
      intro v10 e11 b12 z13
      have b12 : g v10 = 29 := Nat.eq_of_beq_eq_true b12
      refine w_cw (np := 33) (as := [eI (a1), eR v10]) (l2 := [some (eR v2), some (eI (a1)), some (eR v10), none]) (rest := []) rfl rfl rfl (Nat.ble_eq.mp rfl) rfl rfl rfl (hI.kd b4 (by decide) (n := 11) rfl) rfl ?_
      refine s_58 (a1 := a1) hI b4 (by omega) b12 ?_
      intro m14 v17 I15 F16 b18
      have F19 : Fr l_200 0 0 g μ m14 := F0.t F16 rfl
      show ex_q (dt_fg L ρ) rc (d + 8, (200, 33, [some (eR a0), some (eI (a1)), none], [eI (v17)]), f :: F, m14)
      refine b_ine (t1 := 43) (t2 := 36) rfl rfl rfl (ev_w_in (by omega) (by omega)) (fun g20 => ?_) (fun g20 => ?_)
      · have b21 : 1 ≤ v17 ∧ v17 ≤ 1 := by omega
        refine w_t (np := 44) (l2 := [some (eR a0), some (eI (a1)), none]) (s2 := [eR a0]) rfl (s_an rfl (pos_g I15 gA0 (by decide))) rfl ?_
        refine j_gr (np := 47) rfl rfl I15 gA0 (by decide) (n := 14) rfl rfl rfl ?_
        intro v21 e22 b23 z24
        have b23 : g v21 = 29 := Nat.eq_of_beq_eq_true b23
        refine w_t (np := 48) (l2 := [some (eR a0), some (eI (a1)), some (eR v21)]) (s2 := []) rfl (s_sn (Nat.ble_eq.mp rfl) (pos_g I15 b23 (by decide)) rfl) rfl ?_
        refine w_t (np := 49) (l2 := [some (eR a0), some (eI (a1)), some (eR v21)]) (s2 := [eR a0]) rfl (s_an rfl (pos_g I15 gA0 (by decide))) rfl ?_
        refine w_t (np := 50) (l2 := [some (eR a0), some (eI (a1)), some (eR v21)]) (s2 := [eR a0, eR a0]) rfl (s_an rfl (pos_g I15 gA0 (by decide))) rfl ?_
        refine w_gf (np := 53) (v := eR v10) rfl rfl (I15.kd gA0 (by decide) (n := 14) rfl) (by rw [(F16.k e11 gA0 (by decide) rfl)]; rfl) ?_
        refine j_pf (np := 56) (w := ((v10 : Nat) : Int)) rfl rfl I15 gA0 (by decide) (n := 14) rfl rfl (hO_r rfl (by rw [b12]; rfl) (fun q => absurd q (by rw [b12]; decide))) ?_
        intro m25 I26 W27
        have F28 : Fr l_200 0 0 g μ m25 := F19.w W27 gA0 rfl
        refine w_t (np := 57) (l2 := [some (eR a0), some (eI (a1)), some (eR v21)]) (s2 := [eR a0]) rfl (s_an rfl (pos_g I26 gA0 (by decide))) rfl ?_
        refine w_t (np := 58) (l2 := [some (eR a0), some (eI (a1)), some (eR v21)]) (s2 := [eR v21, eR a0]) rfl (s_an rfl (pos_g I26 b23 (by decide))) rfl ?_
        refine j_pf (np := 61) (w := ((v21 : Nat) : Int)) rfl rfl I26 gA0 (by decide) (n := 14) rfl rfl (hO_r rfl (by rw [b23]; rfl) (fun q => absurd q (by rw [b23]; decide))) ?_
        intro m29 I30 W31
        have F32 : Fr l_200 0 0 g μ m29 := F28.w W31 gA0 rfl
        refine w_t (np := 62) (l2 := [some (eR a0), some (eI (a1)), some (eR v21)]) (s2 := [eR a0]) rfl (s_an rfl (pos_g I30 gA0 (by decide))) rfl ?_
        refine w_t (np := 63) (l2 := [some (eR a0), some (eI (a1)), some (eR v21)]) (s2 := [eR a0, eR a0]) rfl (s_an rfl (pos_g I30 gA0 (by decide))) rfl ?_
        refine w_gf (np := 66) (v := eR v10) rfl rfl (I30.kd gA0 (by decide) (n := 14) rfl) (by rw [(W31.slot W27.at (by decide))]; rfl) ?_
        refine j_gi (np := 69) rfl rfl rfl I30 b12 (by decide) (n := 7) rfl rfl (lo := 0) (hi := 24) rfl ?_
        intro v33 e34 b35
        refine w_cw (np := 72) (as := [eI (v33)]) (l2 := [some (eR a0), some (eI (v33))]) (rest := []) rfl rfl rfl (Nat.ble_eq.mp rfl) rfl rfl rfl (I30.kd gA0 (by decide) (n := 14) rfl) rfl ?_
        refine w_t (np := 1) (l2 := [some (eR a0), some (eI (v33))]) (s2 := [eR a0]) rfl (s_an rfl (pos_g I30 gA0 (by decide))) rfl ?_
        refine w_t (np := 2) (l2 := [some (eR a0), some (eI (v33))]) (s2 := [eI (0), eR a0]) rfl rfl rfl ?_
        refine j_pf (np := 5) (w := 0) rfl rfl I30 gA0 (by decide) (n := 14) rfl rfl (hO_i (lo := -2147483648) (hi := 2147483647) rfl (by decide)) ?_
        intro m36 I37 W38
        have F39 : Fr l_200 0 0 g μ m36 := F32.w W38 gA0 rfl
        refine w_t (np := 6) (l2 := [some (eR a0), some (eI (v33))]) (s2 := [eI (v33)]) rfl rfl rfl ?_
        refine b_ri rfl rfl ?_
        show ex_q (dt_fg L ρ) rc (d + 8, (200, 72, [some (eR a0), some (eI (a1)), some (eR v21)], [eI (v33)]), f :: F, m36)
        exact b_ri rfl rfl (K m36 (v33) I37 F39 (by omega))
      · have b21 : 0 ≤ v17 ∧ v17 ≤ 0 := by omega
        refine w_t (np := 37) (l2 := [some (eR a0), some (eI (a1)), none]) (s2 := [eR a0]) rfl (s_an rfl (pos_g I15 gA0 (by decide))) rfl ?_
        refine w_t (np := 39) (l2 := [some (eR a0), some (eI (a1)), none]) (s2 := [eI (9), eR a0]) rfl rfl rfl ?_
        refine w_cw (np := 42) (as := [eI (9)]) (l2 := [some (eR a0), some (eI (9))]) (rest := []) rfl rfl rfl (Nat.ble_eq.mp rfl) rfl rfl rfl (I15.kd gA0 (by decide) (n := 14) rfl) rfl ?_
        refine w_t (np := 1) (l2 := [some (eR a0), some (eI (9))]) (s2 := [eR a0]) rfl (s_an rfl (pos_g I15 gA0 (by decide))) rfl ?_
        refine w_t (np := 2) (l2 := [some (eR a0), some (eI (9))]) (s2 := [eI (9), eR a0]) rfl rfl rfl ?_
        refine j_pf (np := 5) (w := 9) rfl rfl I15 gA0 (by decide) (n := 14) rfl rfl (hO_i (lo := -2147483648) (hi := 2147483647) rfl (by decide)) ?_
        intro m21 I22 W23
        have F24 : Fr l_200 0 0 g μ m21 := F19.w W23 gA0 rfl
        refine w_t (np := 6) (l2 := [some (eR a0), some (eI (9))]) (s2 := [eI (-1)]) rfl rfl rfl ?_
        refine b_ri rfl rfl ?_
        show ex_q (dt_fg L ρ) rc (d + 8, (200, 42, [some (eR a0), some (eI (a1)), none], [eI (-1)]), f :: F, m21)
        exact b_ri rfl rfl (K m21 (-1) I22 F24 (by decide))
    · have b10 : 1 ≤ a1 ∧ a1 ≤ 2147483647 := by omega
      refine w_t (np := 16) (l2 := [some (eR a0), some (eI (a1)), none]) (s2 := [eR a0]) rfl (s_an rfl (pos_g hI gA0 (by decide))) rfl ?_
      refine w_t (np := 17) (l2 := [some (eR a0), some (eI (a1)), none]) (s2 := [eI (1), eR a0]) rfl rfl rfl ?_
      refine w_cw (np := 20) (as := [eI (1)]) (l2 := [some (eR a0), some (eI (1))]) (rest := []) rfl rfl rfl (Nat.ble_eq.mp rfl) rfl rfl rfl (hI.kd gA0 (by decide) (n := 14) rfl) rfl ?_
      refine w_t (np := 1) (l2 := [some (eR a0), some (eI (1))]) (s2 := [eR a0]) rfl (s_an rfl (pos_g hI gA0 (by decide))) rfl ?_
      refine w_t (np := 2) (l2 := [some (eR a0), some (eI (1))]) (s2 := [eI (1), eR a0]) rfl rfl rfl ?_
      refine j_pf (np := 5) (w := 1) rfl rfl hI gA0 (by decide) (n := 14) rfl rfl (hO_i (lo := -2147483648) (hi := 2147483647) rfl (by decide)) ?_
      intro m10 I11 W12
      have F13 : Fr l_200 0 0 g μ m10 := F0.w W12 gA0 rfl
      refine w_t (np := 6) (l2 := [some (eR a0), some (eI (1))]) (s2 := [eI (-1)]) rfl rfl rfl ?_
      refine b_ri rfl rfl ?_
      show ex_q (dt_fg L ρ) rc (d + 8, (200, 20, [some (eR a0), some (eI (a1)), none], [eI (-1)]), f :: F, m10)
      exact b_ri rfl rfl (K m10 (-1) I11 F13 (by decide))
