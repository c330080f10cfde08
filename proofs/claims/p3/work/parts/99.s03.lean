/-! methods, walked -/
theorem s_100 {L : Nat} {ρ : Nat → Int} {rc : eQ} {d : Nat} {f : eFr} {F : List eFr} {μ : eM} {g : Nat → Nat} {a0 : Nat} {fg : Int} (hI : SI g μ) (gA0 : g a0 = 20) (h_fg : μ.1 a0 7 = fg) (K : ∀ (v : Int), (-1 ≤ v ∧ v ≤ 7) → (v = -1 ∨ 0 ≤ fg) → ex_q (dt_fg L ρ) rc (d + 2, (f.1, f.2.1, f.2.2.1, eI v :: f.2.2.2), F, μ)) : ex_q (dt_fg L ρ) rc (d + 1, (100, 0, [some (eR a0), none, none, none], []), f :: F, μ) := by
  have b_fg : -1 ≤ fg ∧ fg ≤ 9 := by
    rw [← h_fg]
    exact hI.int gA0 (by decide) (n := 9) rfl (by decide) rfl
  refine w_t (np := 1) (l2 := [some (eR a0), none, none, none]) (s2 := [eR a0]) rfl (s_an rfl (pos_g hI gA0 (by decide))) rfl ?_
  refine w_gf (np := 4) (v := eI (fg)) rfl rfl (hI.kd gA0 (by decide) (n := 9) rfl) (by rw [h_fg]; rfl) ?_
  refine b_ige (t1 := 9) (t2 := 7) rfl rfl rfl (ev_w_in (by omega) (by omega)) (fun g1 => ?_) (fun g1 => ?_)
  · have b2 : 0 ≤ fg ∧ fg ≤ 9 := by omega
    refine w_t (np := 10) (l2 := [some (eR a0), none, none, none]) (s2 := [eR a0]) rfl (s_an rfl (pos_g hI gA0 (by decide))) rfl ?_
    refine j_gr (np := 13) rfl rfl hI gA0 (by decide) (n := 9) rfl rfl rfl ?_
    intro v2 e3 b4 z5
    have b4 : g v2 = 23 := Nat.eq_of_beq_eq_true b4
    refine w_t (np := 14) (l2 := [some (eR a0), none, none, none]) (s2 := [eR a0, eR v2]) rfl (s_an rfl (pos_g hI gA0 (by decide))) rfl ?_
    refine w_gf (np := 17) (v := eI (fg)) rfl rfl (hI.kd gA0 (by decide) (n := 9) rfl) (by rw [h_fg]; rfl) ?_
    refine w_t (np := 18) (l2 := [some (eR a0), none, none, none]) (s2 := [eR a0, eI (fg), eR v2]) rfl (s_an rfl (pos_g hI gA0 (by decide))) rfl ?_
    refine j_gi (np := 21) rfl rfl rfl hI gA0 (by decide) (n := 9) rfl rfl (lo := 0) (hi := 9) rfl ?_
    intro v6 e7 b8
    obtain ⟨v9, e10⟩ : ∃ zz : Int, zz = (fg) + (v6) := ⟨_, rfl⟩
    have b11 : 0 ≤ v9 ∧ v9 ≤ 18 := by omega
    refine w_t (np := 22) (l2 := [some (eR a0), none, none, none]) (s2 := [eI (v9), eR v2]) rfl (b_iadd (by rw [← e10]; exact ev_w_in (by omega) (by omega))) rfl ?_
    refine w_t (np := 24) (l2 := [some (eR a0), none, none, none]) (s2 := [eI (10), eI (v9), eR v2]) rfl rfl rfl ?_
    obtain ⟨v12, e13, b14⟩ := h_irem (a := v9) (k := 10) (by decide) (by decide) (show (-2147483648 : Int) ≤ v9 ∧ (v9 : Int) ≤ 2147483647 by omega)
    have b15 : 0 ≤ v12 ∧ v12 ≤ 9 := by omega
    refine w_t (np := 25) (l2 := [some (eR a0), none, none, none]) (s2 := [eI (v12), eR v2]) rfl (e13 _ _) rfl ?_
    refine j_al (np := 26) rfl rfl hI b4 (by decide) (n := 10) rfl rfl (lo := 0) (hi := 3) (fun _ => rfl) (by omega) (by omega) ?_
    intro v16 e17 b18
    refine w_t (np := 27) (l2 := [some (eR a0), some (eI (v16)), none, none]) (s2 := []) rfl rfl rfl ?_
    refine w_t (np := 28) (l2 := [some (eR a0), some (eI (v16)), none, none]) (s2 := [eI (0)]) rfl rfl rfl ?_
    refine w_t (np := 29) (l2 := [some (eR a0), some (eI (v16)), some (eI (0)), none]) (s2 := []) rfl rfl rfl ?_
    have hL29 : ∀ (n19 : Nat) (i21 : Int) (o23 : Option eV), (0 ≤ i21 ∧ i21 ≤ 8) → n19 = (8 - i21).toNat → ex_q (dt_fg L ρ) rc (d + 1, (100, 29, [some (eR a0), some (eI (v16)), some (eI (i21)), o23], []), f :: F, μ) := by
      intro n19
      induction n19 using Nat.strongRecOn with
      | _ n19 ih20 =>
      intro i21 o23 b22 hn24
      refine w_t (np := 30) (l2 := [some (eR a0), some (eI (v16)), some (eI (i21)), o23]) (s2 := [eI (i21)]) rfl rfl rfl ?_
      refine v_gs (np := 33) rfl rfl ?_
      refine v_ln (np := 34) (v := 8) (n := 8) rfl rfl ⟨rfl, zI_lit (by decide)⟩ ?_
      rw [show zI 8 = 8 by decide]
      refine b_cge (t1 := 95) (t2 := 37) rfl rfl rfl (ev_w_in (by omega) (by omega)) rfl (fun g25 => ?_) (fun g25 => ?_)
      · have b26 : 8 ≤ i21 ∧ i21 ≤ 8 := by omega
        refine w_t (np := 96) (l2 := [some (eR a0), some (eI (v16)), some (eI (i21)), o23]) (s2 := [eI (-1)]) rfl rfl rfl ?_
        exact b_ri rfl rfl (K (-1) (by decide) (by omega))
      · have b26 : 0 ≤ i21 ∧ i21 ≤ 7 := by omega
        refine w_t (np := 38) (l2 := [some (eR a0), some (eI (v16)), some (eI (i21)), o23]) (s2 := [eR a0]) rfl (s_an rfl (pos_g hI gA0 (by decide))) rfl ?_
        refine w_gf (np := 41) (v := eI (v6)) rfl rfl (hI.kd gA0 (by decide) (n := 9) rfl) (by rw [e7]; rfl) ?_
        refine v_gs (np := 44) rfl rfl ?_
        refine w_t (np := 45) (l2 := [some (eR a0), some (eI (v16)), some (eI (i21)), o23]) (s2 := [eI (i21), eR 18, eI (v6)]) rfl rfl rfl ?_
        refine j_si (np := 46) (n := 8) (lo := 1) (hi := 4) rfl rfl rfl (by decide) (by decide) (by decide) rfl rfl (by decide) (by omega) (by omega) ?_
        intro v26 b28
        obtain ⟨v29, e30⟩ : ∃ zz : Int, zz = (v6) - (v26) := ⟨_, rfl⟩
        have b31 : -4 ≤ v29 ∧ v29 ≤ 8 := by omega
        refine w_t (np := 47) (l2 := [some (eR a0), some (eI (v16)), some (eI (i21)), o23]) (s2 := [eI (v29)]) rfl (b_isub (by rw [← e30]; exact ev_w_in (by omega) (by omega))) rfl ?_
        refine w_t (np := 48) (l2 := [some (eR a0), some (eI (v16)), some (eI (i21)), some (eI (v29))]) (s2 := []) rfl rfl rfl ?_
        refine w_t (np := 49) (l2 := [some (eR a0), some (eI (v16)), some (eI (i21)), some (eI (v29))]) (s2 := [eI (v29)]) rfl rfl rfl ?_
        refine b_ilt (t1 := 89) (t2 := 52) rfl rfl rfl (ev_w_in (by omega) (by omega)) (fun g32 => ?_) (fun g32 => ?_)
        · have b33 : -4 ≤ v29 ∧ v29 ≤ -1 := by omega
          obtain ⟨v33, e34⟩ : ∃ zz : Int, zz = (i21) + (1) := ⟨_, rfl⟩
          have b35 : 1 ≤ v33 ∧ v33 ≤ 8 := by omega
          refine w_t (np := 92) (l2 := [some (eR a0), some (eI (v16)), some (eI (v33)), some (eI (v29))]) (s2 := []) rfl (b_iinc rfl (by rw [← e34]; exact ev_w_in (by omega) (by omega)) rfl) rfl ?_
          refine w_go (t1 := 29) rfl rfl ?_
          exact ih20 (8 - (v33)).toNat (by omega) (v33) (some (eI (v29))) (by omega)     rfl
        · have b33 : 0 ≤ v29 ∧ v29 ≤ 8 := by omega
          refine v_gs (np := 55) rfl rfl ?_
          refine w_t (np := 56) (l2 := [some (eR a0), some (eI (v16)), some (eI (i21)), some (eI (v29))]) (s2 := [eI (i21), eR 19]) rfl rfl rfl ?_
          refine j_si (np := 57) (n := 8) (lo := 0) (hi := 3) rfl rfl rfl (by decide) (by decide) (by decide) rfl rfl (by decide) (by omega) (by omega) ?_
          intro v33 b35
          refine w_t (np := 58) (l2 := [some (eR a0), some (eI (v16)), some (eI (i21)), some (eI (v29))]) (s2 := [eR a0, eI (v33)]) rfl (s_an rfl (pos_g hI gA0 (by decide))) rfl ?_
          refine w_gf (np := 61) (v := eR v2) rfl rfl (hI.kd gA0 (by decide) (n := 9) rfl) (by rw [e3]; rfl) ?_
          refine w_t (np := 62) (l2 := [some (eR a0), some (eI (v16)), some (eI (i21)), some (eI (v29))]) (s2 := [eR a0, eR v2, eI (v33)]) rfl (s_an rfl (pos_g hI gA0 (by decide))) rfl ?_
          refine w_gf (np := 65) (v := eI (fg)) rfl rfl (hI.kd gA0 (by decide) (n := 9) rfl) (by rw [h_fg]; rfl) ?_
          refine j_al (np := 66) rfl rfl hI b4 (by decide) (n := 10) rfl rfl (lo := 0) (hi := 3) (fun _ => rfl) (by omega) (by omega) ?_
          intro v36 e37 b38
          refine b_cne (t1 := 89) (t2 := 69) rfl rfl rfl (ev_w_in (by omega) (by omega)) (ev_w_in (by omega) (by omega)) (fun g39 => ?_) (fun g39 => ?_)
          · obtain ⟨v40, e41⟩ : ∃ zz : Int, zz = (i21) + (1) := ⟨_, rfl⟩
            have b42 : 1 ≤ v40 ∧ v40 ≤ 8 := by omega
            refine w_t (np := 92) (l2 := [some (eR a0), some (eI (v16)), some (eI (v40)), some (eI (v29))]) (s2 := []) rfl (b_iinc rfl (by rw [← e41]; exact ev_w_in (by omega) (by omega)) rfl) rfl ?_
            refine w_go (t1 := 29) rfl rfl ?_
            exact ih20 (8 - (v40)).toNat (by omega) (v40) (some (eI (v29))) (by omega)     rfl
          · refine w_t (np := 70) (l2 := [some (eR a0), some (eI (v16)), some (eI (i21)), some (eI (v29))]) (s2 := [eR a0]) rfl (s_an rfl (pos_g hI gA0 (by decide))) rfl ?_
            refine j_gr (np := 73) rfl rfl hI gA0 (by decide) (n := 9) rfl rfl rfl ?_
            intro v40 e41 b42 z43
            have b42 : g v40 = 21 := Nat.eq_of_beq_eq_true b42
            refine w_t (np := 74) (l2 := [some (eR a0), some (eI (v16)), some (eI (i21)), some (eI (v29))]) (s2 := [eI (v29), eR v40]) rfl rfl rfl ?_
            refine v_gs (np := 77) rfl rfl ?_
            refine w_t (np := 78) (l2 := [some (eR a0), some (eI (v16)), some (eI (i21)), some (eI (v29))]) (s2 := [eI (i21), eR 20, eI (v29), eR v40]) rfl rfl rfl ?_
            refine j_si (np := 79) (n := 8) (lo := 0) (hi := 3) rfl rfl rfl (by decide) (by decide) (by decide) rfl rfl (by decide) (by omega) (by omega) ?_
            intro v44 b46
            refine w_t (np := 80) (l2 := [some (eR a0), some (eI (v16)), some (eI (i21)), some (eI (v29))]) (s2 := [eI (v16), eI (v44), eI (v29), eR v40]) rfl rfl rfl ?_
            refine w_cu (np := 83) (as := [eI (v29), eI (v44), eI (v16)]) (l2 := [some (eI (v29)), some (eI (v44)), some (eI (v16))]) (rest := [eR v40]) rfl rfl rfl (Nat.ble_eq.mp rfl) rfl rfl rfl rfl ?_
            refine s_92 (a0 := v29) (a1 := v44) (a2 := v16) hI (by omega) (by omega) (by omega) ?_
            intro v47 b48
            show ex_q (dt_fg L ρ) rc (d + 1, (100, 83, [some (eR a0), some (eI (v16)), some (eI (i21)), some (eI (v29))], [eI (v47), eR v40]), f :: F, μ)
            refine j_al (np := 84) rfl rfl hI b42 (by decide) (n := 160) rfl rfl (lo := -2147483648) (hi := 2147483647) (fun _ => rfl) (by omega) (by omega) ?_
            intro v49 e50 b51
            refine b_ile (t1 := 89) (t2 := 87) rfl rfl rfl (ev_w_in (by omega) (by omega)) (fun g52 => ?_) (fun g52 => ?_)
            · have b53 : -2147483648 ≤ v49 ∧ v49 ≤ 0 := by omega
              obtain ⟨v53, e54⟩ : ∃ zz : Int, zz = (i21) + (1) := ⟨_, rfl⟩
              have b55 : 1 ≤ v53 ∧ v53 ≤ 8 := by omega
              refine w_t (np := 92) (l2 := [some (eR a0), some (eI (v16)), some (eI (v53)), some (eI (v29))]) (s2 := []) rfl (b_iinc rfl (by rw [← e54]; exact ev_w_in (by omega) (by omega)) rfl) rfl ?_
              refine w_go (t1 := 29) rfl rfl ?_
              exact ih20 (8 - (v53)).toNat (by omega) (v53) (some (eI (v29))) (by omega)     rfl
            · have b53 : 1 ≤ v49 ∧ v49 ≤ 2147483647 := by omega
              refine w_t (np := 88) (l2 := [some (eR a0), some (eI (v16)), some (eI (i21)), some (eI (v29))]) (s2 := [eI (i21)]) rfl rfl rfl ?_
              exact b_ri rfl rfl (K (i21) (by omega) (by omega))
    exact hL29 _ (0) (none) (by decide)     rfl
  · have b2 : -1 ≤ fg ∧ fg ≤ -1 := by omega
    refine w_t (np := 8) (l2 := [some (eR a0), none, none, none]) (s2 := [eI (-1)]) rfl rfl rfl ?_
    exact b_ri rfl rfl (K (-1) (by decide) (by omega))
def l_103 : List Nat := [4612, 4864]
theorem s_103 {L : Nat} {ρ : Nat → Int} {rc : eQ} {d : Nat} {f : eFr} {F : List eFr} {μ : eM} {g : Nat → Nat} {a0 : Nat} {a1 : Int} (hI : SI g μ) (gA0 : g a0 = 18) (bA1 : -9223372036854775808 ≤ a1 ∧ a1 ≤ 9223372036854775807) (K : ∀ (μ2 : eM), SI g μ2 → Fr l_103 0 0 g μ μ2 → ex_q (dt_fg L ρ) rc (d + 1, (f.1, f.2.1, f.2.2.1, f.2.2.2), F, μ2)) : ex_q (dt_fg L ρ) rc (d, (103, 0, [some (eR a0), some (eJ (a1)), none], []), f :: F, μ) := by
  have F0 : Fr l_103 0 0 g μ μ := Fr.r
  refine w_t (np := 1) (l2 := [some (eR a0), some (eJ (a1)), none]) (s2 := [eR a0]) rfl (s_an rfl (pos_g hI gA0 (by decide))) rfl ?_
  refine j_gi (np := 4) rfl rfl rfl hI gA0 (by decide) (n := 4) rfl rfl (lo := 0) (hi := 12) rfl ?_
  intro v1 e2 b3
  refine w_t (np := 6) (l2 := [some (eR a0), some (eJ (a1)), none]) (s2 := [eI (12), eI (v1)]) rfl rfl rfl ?_
  refine b_cge (t1 := 29) (t2 := 9) rfl rfl rfl (ev_w_in (by omega) (by omega)) rfl (fun g4 => ?_) (fun g4 => ?_)
  · have b5 : 12 ≤ v1 ∧ v1 ≤ 12 := by omega
    exact v_rv rfl rfl (K μ hI F0)
  · have b5 : 0 ≤ v1 ∧ v1 ≤ 11 := by omega
    refine w_t (np := 10) (l2 := [some (eR a0), some (eJ (a1)), none]) (s2 := [eR a0]) rfl (s_an rfl (pos_g hI gA0 (by decide))) rfl ?_
    refine j_gr (np := 13) rfl rfl hI gA0 (by decide) (n := 4) rfl rfl rfl ?_
    intro v5 e6 b7 z8
    have b7 : g v5 = 19 := Nat.eq_of_beq_eq_true b7
    refine w_t (np := 14) (l2 := [some (eR a0), some (eJ (a1)), none]) (s2 := [eR a0, eR v5]) rfl (s_an rfl (pos_g hI gA0 (by decide))) rfl ?_
    refine w_gf (np := 17) (v := eI (v1)) rfl rfl (hI.kd gA0 (by decide) (n := 4) rfl) (by rw [e2]; rfl) ?_
    refine w_t (np := 18) (l2 := [some (eR a0), some (eJ (a1)), none]) (s2 := [eJ (a1), eI (v1), eR v5]) rfl rfl rfl ?_
    refine j_sl (np := 19) rfl rfl hI b7 (by decide) (n := 12) rfl rfl (lo := -9223372036854775808) (hi := 9223372036854775807) (fun _ => rfl) (by omega) (by omega) (by omega) ?_
    intro m9 I10 W11
    have F12 : Fr l_103 0 0 g μ m9 := F0.v W11 b7 rfl rfl
    refine w_t (np := 20) (l2 := [some (eR a0), some (eJ (a1)), none]) (s2 := [eR a0]) rfl (s_an rfl (pos_g I10 gA0 (by decide))) rfl ?_
    refine w_t (np := 21) (l2 := [some (eR a0), some (eJ (a1)), none]) (s2 := [eR a0, eR a0]) rfl rfl rfl ?_
    refine w_gf (np := 24) (v := eI (v1)) rfl rfl (I10.kd gA0 (by decide) (n := 4) rfl) (by rw [(W11.addr e2 b7 gA0 (by decide))]; rfl) ?_
    refine w_t (np := 25) (l2 := [some (eR a0), some (eJ (a1)), none]) (s2 := [eI (1), eI (v1), eR a0]) rfl rfl rfl ?_
    obtain ⟨v13, e14⟩ : ∃ zz : Int, zz = (v1) + (1) := ⟨_, rfl⟩
    have b15 : 1 ≤ v13 ∧ v13 ≤ 12 := by omega
    refine w_t (np := 26) (l2 := [some (eR a0), some (eJ (a1)), none]) (s2 := [eI (v13), eR a0]) rfl (b_iadd (by rw [← e14]; exact ev_w_in (by omega) (by omega))) rfl ?_
    refine j_pf (np := 29) (w := v13) rfl rfl I10 gA0 (by decide) (n := 4) rfl rfl (hO_i (lo := 0) (hi := 12) rfl (by omega)) ?_
    intro m16 I17 W18
    have F19 : Fr l_103 0 0 g μ m16 := F12.w W18 gA0 rfl
    exact v_rv rfl rfl (K m16 I17 F19)
def l_104 : List Nat := [4610, 4611, 4612, 4864]
theorem s_104 {L : Nat} {ρ : Nat → Int} {rc : eQ} {d : Nat} {f : eFr} {F : List eFr} {μ : eM} {g : Nat → Nat} {a0 : Nat} {a1 : Nat} (hI : SI g μ) (gA0 : g a0 = 18) (gA1 : g a1 = 18) (K : ∀ (μ2 : eM), SI g μ2 → Fr l_104 0 0 g μ μ2 → ex_q (dt_fg L ρ) rc (d + 2, (f.1, f.2.1, f.2.2.1, f.2.2.2), F, μ2)) : ex_q (dt_fg L ρ) rc (d + 1, (104, 0, [some (eR a0), some (eR a1), none], []), f :: F, μ) := by
  have F0 : Fr l_104 0 0 g μ μ := Fr.r
  refine w_t (np := 1) (l2 := [some (eR a0), some (eR a1), none]) (s2 := [eR a0]) rfl (s_an rfl (pos_g hI gA0 (by decide))) rfl ?_
  refine w_t (np := 2) (l2 := [some (eR a0), some (eR a1), none]) (s2 := [eR a1, eR a0]) rfl (s_an rfl (pos_g hI gA1 (by decide))) rfl ?_
  refine j_gi (np := 5) rfl rfl rfl hI gA1 (by decide) (n := 4) rfl rfl (lo := -2147483648) (hi := 2147483647) rfl ?_
  intro v1 e2 b3
  refine w_cw (np := 8) (as := [eI (v1)]) (l2 := [some (eR a0), some (eI (v1))]) (rest := []) rfl rfl rfl (Nat.ble_eq.mp rfl) rfl rfl rfl (hI.kd gA0 (by decide) (n := 4) rfl) rfl ?_
  refine w_t (np := 1) (l2 := [some (eR a0), some (eI (v1))]) (s2 := [eR a0]) rfl (s_an rfl (pos_g hI gA0 (by decide))) rfl ?_
  refine w_t (np := 2) (l2 := [some (eR a0), some (eI (v1))]) (s2 := [eI (1), eR a0]) rfl rfl rfl ?_
  refine j_pf (np := 5) (w := 1) rfl rfl hI gA0 (by decide) (n := 4) rfl rfl (hO_i (lo := 0) (hi := 1) rfl (by decide)) ?_
  intro m4 I5 W6
  have F7 : Fr l_104 0 0 g μ m4 := F0.w W6 gA0 rfl
  refine w_t (np := 6) (l2 := [some (eR a0), some (eI (v1))]) (s2 := [eR a0]) rfl (s_an rfl (pos_g I5 gA0 (by decide))) rfl ?_
  refine w_t (np := 7) (l2 := [some (eR a0), some (eI (v1))]) (s2 := [eI (v1), eR a0]) rfl rfl rfl ?_
  refine j_pf (np := 10) (w := v1) rfl rfl I5 gA0 (by decide) (n := 4) rfl rfl (hO_i (lo := -2147483648) (hi := 2147483647) rfl (by omega)) ?_
  intro m8 I9 W10
  have F11 : Fr l_104 0 0 g μ m8 := F7.w W10 gA0 rfl
  refine w_t (np := 11) (l2 := [some (eR a0), some (eI (v1))]) (s2 := [eR a0]) rfl (s_an rfl (pos_g I9 gA0 (by decide))) rfl ?_
  refine w_t (np := 12) (l2 := [some (eR a0), some (eI (v1))]) (s2 := [eI (0), eR a0]) rfl rfl rfl ?_
  refine j_pf (np := 15) (w := 0) rfl rfl I9 gA0 (by decide) (n := 4) rfl rfl (hO_i (lo := 0) (hi := 12) rfl (by decide)) ?_
  intro m12 I13 W14
  have F15 : Fr l_104 0 0 g μ m12 := F11.w W14 gA0 rfl
  refine v_rv rfl rfl ?_
  show ex_q (dt_fg L ρ) rc (d + 1, (104, 8, [some (eR a0), some (eR a1), none], []), f :: F, m12)
  refine w_t (np := 9) (l2 := [some (eR a0), some (eR a1), none]) (s2 := [eI (0)]) rfl rfl rfl ?_
  refine w_t (np := 10) (l2 := [some (eR a0), some (eR a1), some (eI (0))]) (s2 := []) rfl rfl rfl ?_
  have hL10 : ∀ (n16 : Nat) (m20 : eM) (i18 : Int), SI g m20 → Fr l_104 0 0 g μ m20 → (0 ≤ i18 ∧ i18 ≤ 12) → m20.1 a0 1 = 1 → m20.1 a0 2 = v1 → n16 = (12 - i18).toNat → ex_q (dt_fg L ρ) rc (d + 1, (104, 10, [some (eR a0), some (eR a1), some (eI (i18))], []), f :: F, m20) := by
    intro n16
    induction n16 using Nat.strongRecOn with
    | _ n16 ih17 =>
    intro m20 i18 I21 F22 b19 k23 k24 hn25
    refine w_t (np := 11) (l2 := [some (eR a0), some (eR a1), some (eI (i18))]) (s2 := [eI (i18)]) rfl rfl rfl ?_
    refine w_t (np := 12) (l2 := [some (eR a0), some (eR a1), some (eI (i18))]) (s2 := [eR a1, eI (i18)]) rfl (s_an rfl (pos_g I21 gA1 (by decide))) rfl ?_
    refine j_gi (np := 15) rfl rfl rfl I21 gA1 (by decide) (n := 4) rfl rfl (lo := 0) (hi := 12) rfl ?_
    intro v26 e27 b28
    refine b_cge (t1 := 34) (t2 := 18) rfl rfl rfl (ev_w_in (by omega) (by omega)) (ev_w_in (by omega) (by omega)) (fun g29 => ?_) (fun g29 => ?_)
    · exact v_rv rfl rfl (K m20 I21 F22)
    · have b30 : 0 ≤ i18 ∧ i18 ≤ 11 := by omega
      have b31 : 1 ≤ v26 ∧ v26 ≤ 12 := by omega
      refine w_t (np := 19) (l2 := [some (eR a0), some (eR a1), some (eI (i18))]) (s2 := [eR a0]) rfl (s_an rfl (pos_g I21 gA0 (by decide))) rfl ?_
      refine w_t (np := 20) (l2 := [some (eR a0), some (eR a1), some (eI (i18))]) (s2 := [eR a1, eR a0]) rfl (s_an rfl (pos_g I21 gA1 (by decide))) rfl ?_
      refine j_gr (np := 23) rfl rfl I21 gA1 (by decide) (n := 4) rfl rfl rfl ?_
      intro v30 e31 b32 z33
      have b32 : g v30 = 19 := Nat.eq_of_beq_eq_true b32
      refine w_t (np := 24) (l2 := [some (eR a0), some (eR a1), some (eI (i18))]) (s2 := [eI (i18), eR v30, eR a0]) rfl rfl rfl ?_
      refine j_ll (np := 25) rfl rfl I21 b32 (by decide) (n := 12) rfl rfl (lo := -9223372036854775808) (hi := 9223372036854775807) (fun _ => rfl) (by omega) (by omega) ?_
      intro v34 e35 b36
      refine w_cw (np := 28) (as := [eJ (v34)]) (l2 := [some (eR a0), some (eJ (v34)), none]) (rest := []) rfl rfl rfl (Nat.ble_eq.mp rfl) rfl rfl rfl (I21.kd gA0 (by decide) (n := 4) rfl) rfl ?_
      refine s_103 I21 gA0 b36 ?_
      intro m37 I38 F39
      have F40 : Fr l_104 0 0 g μ m37 := F22.t F39 rfl
      show ex_q (dt_fg L ρ) rc (d + 1, (104, 28, [some (eR a0), some (eR a1), some (eI (i18))], []), f :: F, m37)
      obtain ⟨v41, e42⟩ : ∃ zz : Int, zz = (i18) + (1) := ⟨_, rfl⟩
      have b43 : 1 ≤ v41 ∧ v41 ≤ 12 := by omega
      refine w_t (np := 31) (l2 := [some (eR a0), some (eR a1), some (eI (v41))]) (s2 := []) rfl (b_iinc rfl (by rw [← e42]; exact ev_w_in (by omega) (by omega)) rfl) rfl ?_
      refine w_go (t1 := 10) rfl rfl ?_
      exact ih17 (12 - (v41)).toNat (by omega) m37 (v41) I38 F40 (by omega) (F39.k k23 gA0 (by decide) rfl) (F39.k k24 gA0 (by decide) rfl)    rfl
  exact hL10 _ m12 (0) I13 F15 (by decide) (W14.slot (W10.slot W6.at (by decide)) (by decide)) (W14.slot W10.at (by decide))    rfl
theorem s_105 {L : Nat} {ρ : Nat → Int} {rc : eQ} {d : Nat} {f : eFr} {F : List eFr} {μ : eM} {g : Nat → Nat} {a0 : Nat} {a1 : Int} (hI : SI g μ) (gA0 : g a0 = 18) (bA1 : -2147483648 ≤ a1 ∧ a1 ≤ 2147483647) (K : ∀ (v : Int), (-9223372036854775808 ≤ v ∧ v ≤ 9223372036854775807) → ex_q (dt_fg L ρ) rc (d + 1, (f.1, f.2.1, f.2.2.1, eJ v :: f.2.2.2), F, μ)) : ex_q (dt_fg L ρ) rc (d, (105, 0, [some (eR a0), some (eI (a1))], []), f :: F, μ) := by
  refine w_t (np := 1) (l2 := [some (eR a0), some (eI (a1))]) (s2 := [eI (a1)]) rfl rfl rfl ?_
  refine b_ilt (t1 := 12) (t2 := 4) rfl rfl rfl (ev_w_in (by omega) (by omega)) (fun g1 => ?_) (fun g1 => ?_)
  · have b2 : -2147483648 ≤ a1 ∧ a1 ≤ -1 := by omega
    refine w_t (np := 13) (l2 := [some (eR a0), some (eI (a1))]) (s2 := [eJ (0)]) rfl rfl rfl ?_
    refine w_go (t1 := 22) rfl rfl ?_
    exact b_rl rfl rfl (K (0) (by decide))
  · have b2 : 0 ≤ a1 ∧ a1 ≤ 2147483647 := by omega
    refine w_t (np := 5) (l2 := [some (eR a0), some (eI (a1))]) (s2 := [eI (a1)]) rfl rfl rfl ?_
    refine w_t (np := 6) (l2 := [some (eR a0), some (eI (a1))]) (s2 := [eR a0, eI (a1)]) rfl (s_an rfl (pos_g hI gA0 (by decide))) rfl ?_
    refine j_gi (np := 9) rfl rfl rfl hI gA0 (by decide) (n := 4) rfl rfl (lo := 0) (hi := 12) rfl ?_
    intro v2 e3 b4
    refine b_clt (t1 := 16) (t2 := 12) rfl rfl rfl (ev_w_in (by omega) (by omega)) (ev_w_in (by omega) (by omega)) (fun g5 => ?_) (fun g5 => ?_)
    · have b6 : 0 ≤ a1 ∧ a1 ≤ 11 := by omega
      have b7 : 1 ≤ v2 ∧ v2 ≤ 12 := by omega
      refine w_t (np := 17) (l2 := [some (eR a0), some (eI (a1))]) (s2 := [eR a0]) rfl (s_an rfl (pos_g hI gA0 (by decide))) rfl ?_
      refine j_gr (np := 20) rfl rfl hI gA0 (by decide) (n := 4) rfl rfl rfl ?_
      intro v6 e7 b8 z9
      have b8 : g v6 = 19 := Nat.eq_of_beq_eq_true b8
      refine w_t (np := 21) (l2 := [some (eR a0), some (eI (a1))]) (s2 := [eI (a1), eR v6]) rfl rfl rfl ?_
      refine j_ll (np := 22) rfl rfl hI b8 (by decide) (n := 12) rfl rfl (lo := -9223372036854775808) (hi := 9223372036854775807) (fun _ => rfl) (by omega) (by omega) ?_
      intro v10 e11 b12
      exact b_rl rfl rfl (K (v10) (by omega))
    · refine w_t (np := 13) (l2 := [some (eR a0), some (eI (a1))]) (s2 := [eJ (0)]) rfl rfl rfl ?_
      refine w_go (t1 := 22) rfl rfl ?_
      exact b_rl rfl rfl (K (0) (by decide))
theorem s_109 {L : Nat} {ρ : Nat → Int} {rc : eQ} {d : Nat} {f : eFr} {F : List eFr} {μ : eM} {g : Nat → Nat} {a0 : Nat} {a1 : Int} {a2 : Int} (hI : SI g μ) (gA0 : g a0 = 35) (bA1 : 0 ≤ a1 ∧ a1 ≤ 2669) (bA2 : 0 ≤ a2 ∧ a2 ≤ 1) (K : ∀ (v : Int), (0 ≤ v ∧ v ≤ 511) → ex_q (dt_fg L ρ) rc (d + 2, (f.1, f.2.1, f.2.2.1, eI v :: f.2.2.2), F, μ)) : ex_q (dt_fg L ρ) rc (d + 1, (109, 0, [some (eR a0), some (eI (a1)), some (eI (a2)), none, none], []), f :: F, μ) := by
  refine w_t (np := 1) (l2 := [some (eR a0), some (eI (a1)), some (eI (a2)), none, none]) (s2 := [eI (a1)]) rfl rfl rfl ?_
  refine w_t (np := 2) (l2 := [some (eR a0), some (eI (a1)), some (eI (a2)), none, none]) (s2 := [eI (3), eI (a1)]) rfl rfl rfl ?_
  obtain ⟨v1, e2, b3⟩ := h_irem (a := a1) (k := 3) (by decide) (by decide) (show (-2147483648 : Int) ≤ a1 ∧ (a1 : Int) ≤ 2147483647 by omega)
  have b4 : 0 ≤ v1 ∧ v1 ≤ 2 := by omega
  refine w_t (np := 3) (l2 := [some (eR a0), some (eI (a1)), some (eI (a2)), none, none]) (s2 := [eI (v1)]) rfl (e2 _ _) rfl ?_
  refine w_t (np := 4) (l2 := [some (eR a0), some (eI (a1)), some (eI (a2)), some (eI (v1)), none]) (s2 := []) rfl rfl rfl ?_
  refine w_t (np := 5) (l2 := [some (eR a0), some (eI (a1)), some (eI (a2)), some (eI (v1)), none]) (s2 := [eI (a2)]) rfl rfl rfl ?_
  refine b_ieq (t1 := 20) (t2 := 8) rfl rfl rfl (ev_w_in (by omega) (by omega)) (fun g5 => ?_) (fun g5 => ?_)
  · have b6 : 0 ≤ a2 ∧ a2 ≤ 0 := by omega
    refine w_t (np := 21) (l2 := [some (eR a0), some (eI (a1)), some (eI (a2)), some (eI (v1)), none]) (s2 := [eI (v1)]) rfl rfl rfl ?_
    refine w_t (np := 22) (l2 := [some (eR a0), some (eI (a1)), some (eI (a2)), some (eI (v1)), none]) (s2 := [eI (2), eI (v1)]) rfl rfl rfl ?_
    refine b_cne (t1 := 29) (t2 := 25) rfl rfl rfl (ev_w_in (by omega) (by omega)) rfl (fun g6 => ?_) (fun g6 => ?_)
    · have b7 : 0 ≤ v1 ∧ v1 ≤ 1 := by omega
      refine w_t (np := 30) (l2 := [some (eR a0), some (eI (a1)), some (eI (a2)), some (eI (v1)), none]) (s2 := [eI (0)]) rfl rfl rfl ?_
      refine w_t (np := 32) (l2 := [some (eR a0), some (eI (a1)), some (eI (a2)), some (eI (v1)), some (eI (0))]) (s2 := []) rfl rfl rfl ?_
      refine w_t (np := 33) (l2 := [some (eR a0), some (eI (a1)), some (eI (a2)), some (eI (v1)), some (eI (0))]) (s2 := [eR a0]) rfl (s_an rfl (pos_g hI gA0 (by decide))) rfl ?_
      refine j_gr (np := 36) rfl rfl hI gA0 (by decide) (n := 15) rfl rfl rfl ?_
      intro v7 e8 b9 z10
      rcases hor2 b9 with b9 | b9
      · refine w_t (np := 37) (l2 := [some (eR a0), some (eI (a1)), some (eI (a2)), some (eI (v1)), some (eI (0))]) (s2 := [eI (a1), eR v7]) rfl rfl rfl ?_
        refine w_t (np := 38) (l2 := [some (eR a0), some (eI (a1)), some (eI (a2)), some (eI (v1)), some (eI (0))]) (s2 := [eI (3), eI (a1), eR v7]) rfl rfl rfl ?_
        obtain ⟨v11, e12, b13⟩ := h_idiv (a := a1) (k := 3) (by decide) (by decide) (show (-2147483648 : Int) ≤ a1 ∧ (a1 : Int) ≤ 2147483647 by omega)
        have b14 : 0 ≤ v11 ∧ v11 ≤ 889 := by omega
        refine w_t (np := 39) (l2 := [some (eR a0), some (eI (a1)), some (eI (a2)), some (eI (v1)), some (eI (0))]) (s2 := [eI (v11), eR v7]) rfl (e12 _ _) rfl ?_
        refine w_t (np := 41) (l2 := [some (eR a0), some (eI (a1)), some (eI (a2)), some (eI (v1)), some (eI (0))]) (s2 := [eI (0), eI (v11), eR v7]) rfl rfl rfl ?_
        refine w_cw (np := 44) (as := [eI (v11), eI (0)]) (l2 := [some (eR v7), some (eI (v11)), some (eI (0))]) (rest := []) rfl rfl rfl (Nat.ble_eq.mp rfl) rfl rfl rfl (hI.kd b9 (by decide) (n := 8) rfl) rfl ?_
        refine s_21 (a1 := v11) (a2 := 0) hI b9 (by omega) (by decide) ?_
        intro v15 b16
        show ex_q (dt_fg L ρ) rc (d + 1, (109, 44, [some (eR a0), some (eI (a1)), some (eI (a2)), some (eI (v1)), some (eI (0))], [eI (v15)]), f :: F, μ)
        exact b_ri rfl rfl (K (v15) (by omega))
      · refine w_t (np := 37) (l2 := [some (eR a0), some (eI (a1)), some (eI (a2)), some (eI (v1)), some (eI (0))]) (s2 := [eI (a1), eR v7]) rfl rfl rfl ?_
        refine w_t (np := 38) (l2 := [some (eR a0), some (eI (a1)), some (eI (a2)), some (eI (v1)), some (eI (0))]) (s2 := [eI (3), eI (a1), eR v7]) rfl rfl rfl ?_
        obtain ⟨v11, e12, b13⟩ := h_idiv (a := a1) (k := 3) (by decide) (by decide) (show (-2147483648 : Int) ≤ a1 ∧ (a1 : Int) ≤ 2147483647 by omega)
        have b14 : 0 ≤ v11 ∧ v11 ≤ 889 := by omega
        refine w_t (np := 39) (l2 := [some (eR a0), some (eI (a1)), some (eI (a2)), some (eI (v1)), some (eI (0))]) (s2 := [eI (v11), eR v7]) rfl (e12 _ _) rfl ?_
        refine w_t (np := 41) (l2 := [some (eR a0), some (eI (a1)), some (eI (a2)), some (eI (v1)), some (eI (0))]) (s2 := [eI (0), eI (v11), eR v7]) rfl rfl rfl ?_
        refine w_cw (np := 44) (as := [eI (v11), eI (0)]) (l2 := [some (eR v7), some (eI (v11)), some (eI (0))]) (rest := []) rfl rfl rfl (Nat.ble_eq.mp rfl) rfl rfl rfl (hI.kd b9 (by decide) (n := 8) rfl) rfl ?_
        refine s_21_2 (a1 := v11) (a2 := 0) hI b9 (by omega) (by decide) ?_
        intro v15 b16
        show ex_q (dt_fg L ρ) rc (d + 1, (109, 44, [some (eR a0), some (eI (a1)), some (eI (a2)), some (eI (v1)), some (eI (0))], [eI (v15)]), f :: F, μ)
        exact b_ri rfl rfl (K (v15) (by omega))
    · have b7 : 2 ≤ v1 ∧ v1 ≤ 2 := by omega
      refine w_t (np := 26) (l2 := [some (eR a0), some (eI (a1)), some (eI (a2)), some (eI (v1)), none]) (s2 := [eI (1)]) rfl rfl rfl ?_
      refine w_go (t1 := 30) rfl rfl ?_
      refine w_t (np := 32) (l2 := [some (eR a0), some (eI (a1)), some (eI (a2)), some (eI (v1)), some (eI (1))]) (s2 := []) rfl rfl rfl ?_
      refine w_t (np := 33) (l2 := [some (eR a0), some (eI (a1)), some (eI (a2)), some (eI (v1)), some (eI (1))]) (s2 := [eR a0]) rfl (s_an rfl (pos_g hI gA0 (by decide))) rfl ?_
      refine j_gr (np := 36) rfl rfl hI gA0 (by decide) (n := 15) rfl rfl rfl ?_
      intro v7 e8 b9 z10
      rcases hor2 b9 with b9 | b9
      · refine w_t (np := 37) (l2 := [some (eR a0), some (eI (a1)), some (eI (a2)), some (eI (v1)), some (eI (1))]) (s2 := [eI (a1), eR v7]) rfl rfl rfl ?_
        refine w_t (np := 38) (l2 := [some (eR a0), some (eI (a1)), some (eI (a2)), some (eI (v1)), some (eI (1))]) (s2 := [eI (3), eI (a1), eR v7]) rfl rfl rfl ?_
        obtain ⟨v11, e12, b13⟩ := h_idiv (a := a1) (k := 3) (by decide) (by decide) (show (-2147483648 : Int) ≤ a1 ∧ (a1 : Int) ≤ 2147483647 by omega)
        have b14 : 0 ≤ v11 ∧ v11 ≤ 889 := by omega
        refine w_t (np := 39) (l2 := [some (eR a0), some (eI (a1)), some (eI (a2)), some (eI (v1)), some (eI (1))]) (s2 := [eI (v11), eR v7]) rfl (e12 _ _) rfl ?_
        refine w_t (np := 41) (l2 := [some (eR a0), some (eI (a1)), some (eI (a2)), some (eI (v1)), some (eI (1))]) (s2 := [eI (1), eI (v11), eR v7]) rfl rfl rfl ?_
        refine w_cw (np := 44) (as := [eI (v11), eI (1)]) (l2 := [some (eR v7), some (eI (v11)), some (eI (1))]) (rest := []) rfl rfl rfl (Nat.ble_eq.mp rfl) rfl rfl rfl (hI.kd b9 (by decide) (n := 8) rfl) rfl ?_
        refine s_21 (a1 := v11) (a2 := 1) hI b9 (by omega) (by decide) ?_
        intro v15 b16
        show ex_q (dt_fg L ρ) rc (d + 1, (109, 44, [some (eR a0), some (eI (a1)), some (eI (a2)), some (eI (v1)), some (eI (1))], [eI (v15)]), f :: F, μ)
        exact b_ri rfl rfl (K (v15) (by omega))
      · refine w_t (np := 37) (l2 := [some (eR a0), some (eI (a1)), some (eI (a2)), some (eI (v1)), some (eI (1))]) (s2 := [eI (a1), eR v7]) rfl rfl rfl ?_
        refine w_t (np := 38) (l2 := [some (eR a0), some (eI (a1)), some (eI (a2)), some (eI (v1)), some (eI (1))]) (s2 := [eI (3), eI (a1), eR v7]) rfl rfl rfl ?_
        obtain ⟨v11, e12, b13⟩ := h_idiv (a := a1) (k := 3) (by decide) (by decide) (show (-2147483648 : Int) ≤ a1 ∧ (a1 : Int) ≤ 2147483647 by omega)
        have b14 : 0 ≤ v11 ∧ v11 ≤ 889 := by omega
        refine w_t (np := 39) (l2 := [some (eR a0), some (eI (a1)), some (eI (a2)), some (eI (v1)), some (eI (1))]) (s2 := [eI (v11), eR v7]) rfl (e12 _ _) rfl ?_
        refine w_t (np := 41) (l2 := [some (eR a0), some (eI (a1)), some (eI (a2)), some (eI (v1)), some (eI (1))]) (s2 := [eI (1), eI (v11), eR v7]) rfl rfl rfl ?_
        refine w_cw (np := 44) (as := [eI (v11), eI (1)]) (l2 := [some (eR v7), some (eI (v11)), some (eI (1))]) (rest := []) rfl rfl rfl (Nat.ble_eq.mp rfl) rfl rfl rfl (hI.kd b9 (by decide) (n := 8) rfl) rfl ?_
        refine s_21_2 (a1 := v11) (a2 := 1) hI b9 (by omega) (by decide) ?_
        intro v15 b16
        show ex_q (dt_fg L ρ) rc (d + 1, (109, 44, [some (eR a0), some (eI (a1)), some (eI (a2)), some (eI (v1)), some (eI (1))], [eI (v15)]), f :: F, μ)
        exact b_ri rfl rfl (K (v15) (by omega))
  · have b6 : 1 ≤ a2 ∧ a2 ≤ 1 := by omega
    refine w_t (np := 9) (l2 := [some (eR a0), some (eI (a1)), some (eI (a2)), some (eI (v1)), none]) (s2 := [eI (v1)]) rfl rfl rfl ?_
    refine b_ine (t1 := 16) (t2 := 12) rfl rfl rfl (ev_w_in (by omega) (by omega)) (fun g6 => ?_) (fun g6 => ?_)
    · have b7 : 1 ≤ v1 ∧ v1 ≤ 2 := by omega
      refine w_t (np := 17) (l2 := [some (eR a0), some (eI (a1)), some (eI (a2)), some (eI (v1)), none]) (s2 := [eI (2)]) rfl rfl rfl ?_
      refine w_go (t1 := 30) rfl rfl ?_
      refine w_t (np := 32) (l2 := [some (eR a0), some (eI (a1)), some (eI (a2)), some (eI (v1)), some (eI (2))]) (s2 := []) rfl rfl rfl ?_
      refine w_t (np := 33) (l2 := [some (eR a0), some (eI (a1)), some (eI (a2)), some (eI (v1)), some (eI (2))]) (s2 := [eR a0]) rfl (s_an rfl (pos_g hI gA0 (by decide))) rfl ?_
      refine j_gr (np := 36) rfl rfl hI gA0 (by decide) (n := 15) rfl rfl rfl ?_
      intro v7 e8 b9 z10
      rcases hor2 b9 with b9 | b9
      · refine w_t (np := 37) (l2 := [some (eR a0), some (eI (a1)), some (eI (a2)), some (eI (v1)), some (eI (2))]) (s2 := [eI (a1), eR v7]) rfl rfl rfl ?_
        refine w_t (np := 38) (l2 := [some (eR a0), some (eI (a1)), some (eI (a2)), some (eI (v1)), some (eI (2))]) (s2 := [eI (3), eI (a1), eR v7]) rfl rfl rfl ?_
        obtain ⟨v11, e12, b13⟩ := h_idiv (a := a1) (k := 3) (by decide) (by decide) (show (-2147483648 : Int) ≤ a1 ∧ (a1 : Int) ≤ 2147483647 by omega)
        have b14 : 0 ≤ v11 ∧ v11 ≤ 889 := by omega
        refine w_t (np := 39) (l2 := [some (eR a0), some (eI (a1)), some (eI (a2)), some (eI (v1)), some (eI (2))]) (s2 := [eI (v11), eR v7]) rfl (e12 _ _) rfl ?_
        refine w_t (np := 41) (l2 := [some (eR a0), some (eI (a1)), some (eI (a2)), some (eI (v1)), some (eI (2))]) (s2 := [eI (2), eI (v11), eR v7]) rfl rfl rfl ?_
        refine w_cw (np := 44) (as := [eI (v11), eI (2)]) (l2 := [some (eR v7), some (eI (v11)), some (eI (2))]) (rest := []) rfl rfl rfl (Nat.ble_eq.mp rfl) rfl rfl rfl (hI.kd b9 (by decide) (n := 8) rfl) rfl ?_
        refine s_21 (a1 := v11) (a2 := 2) hI b9 (by omega) (by decide) ?_
        intro v15 b16
        show ex_q (dt_fg L ρ) rc (d + 1, (109, 44, [some (eR a0), some (eI (a1)), some (eI (a2)), some (eI (v1)), some (eI (2))], [eI (v15)]), f :: F, μ)
        exact b_ri rfl rfl (K (v15) (by omega))
      · refine w_t (np := 37) (l2 := [some (eR a0), some (eI (a1)), some (eI (a2)), some (eI (v1)), some (eI (2))]) (s2 := [eI (a1), eR v7]) rfl rfl rfl ?_
        refine w_t (np := 38) (l2 := [some (eR a0), some (eI (a1)), some (eI (a2)), some (eI (v1)), some (eI (2))]) (s2 := [eI (3), eI (a1), eR v7]) rfl rfl rfl ?_
        obtain ⟨v11, e12, b13⟩ := h_idiv (a := a1) (k := 3) (by decide) (by decide) (show (-2147483648 : Int) ≤ a1 ∧ (a1 : Int) ≤ 2147483647 by omega)
        have b14 : 0 ≤ v11 ∧ v11 ≤ 889 := by omega
        refine w_t (np := 39) (l2 := [some (eR a0), some (eI (a1)), some (eI (a2)), some (eI (v1)), some (eI (2))]) (s2 := [eI (v11), eR v7]) rfl (e12 _ _) rfl ?_
        refine w_t (np := 41) (l2 := [some (eR a0), some (eI (a1)), some (eI (a2)), some (eI (v1)), some (eI (2))]) (s2 := [eI (2), eI (v11), eR v7]) rfl rfl rfl ?_
        refine w_cw (np := 44) (as := [eI (v11), eI (2)]) (l2 := [some (eR v7), some (eI (v11)), some (eI (2))]) (rest := []) rfl rfl rfl (Nat.ble_eq.mp rfl) rfl rfl rfl (hI.kd b9 (by decide) (n := 8) rfl) rfl ?_
        refine s_21_2 (a1 := v11) (a2 := 2) hI b9 (by omega) (by decide) ?_
        intro v15 b16
        show ex_q (dt_fg L ρ) rc (d + 1, (109, 44, [some (eR a0), some (eI (a1)), some (eI (a2)), some (eI (v1)), some (eI (2))], [eI (v15)]), f :: F, μ)
        exact b_ri rfl rfl (K (v15) (by omega))
    · have b7 : 0 ≤ v1 ∧ v1 ≤ 0 := by omega
      refine w_t (np := 13) (l2 := [some (eR a0), some (eI (a1)), some (eI (a2)), some (eI (v1)), none]) (s2 := [eI (1)]) rfl rfl rfl ?_
      refine w_go (t1 := 30) rfl rfl ?_
      refine w_t (np := 32) (l2 := [some (eR a0), some (eI (a1)), some (eI (a2)), some (eI (v1)), some (eI (1))]) (s2 := []) rfl rfl rfl ?_
      refine w_t (np := 33) (l2 := [some (eR a0), some (eI (a1)), some (eI (a2)), some (eI (v1)), some (eI (1))]) (s2 := [eR a0]) rfl (s_an rfl (pos_g hI gA0 (by decide))) rfl ?_
      refine j_gr (np := 36) rfl rfl hI gA0 (by decide) (n := 15) rfl rfl rfl ?_
      intro v7 e8 b9 z10
      rcases hor2 b9 with b9 | b9
      · refine w_t (np := 37) (l2 := [some (eR a0), some (eI (a1)), some (eI (a2)), some (eI (v1)), some (eI (1))]) (s2 := [eI (a1), eR v7]) rfl rfl rfl ?_
        refine w_t (np := 38) (l2 := [some (eR a0), some (eI (a1)), some (eI (a2)), some (eI (v1)), some (eI (1))]) (s2 := [eI (3), eI (a1), eR v7]) rfl rfl rfl ?_
        obtain ⟨v11, e12, b13⟩ := h_idiv (a := a1) (k := 3) (by decide) (by decide) (show (-2147483648 : Int) ≤ a1 ∧ (a1 : Int) ≤ 2147483647 by omega)
        have b14 : 0 ≤ v11 ∧ v11 ≤ 889 := by omega
        refine w_t (np := 39) (l2 := [some (eR a0), some (eI (a1)), some (eI (a2)), some (eI (v1)), some (eI (1))]) (s2 := [eI (v11), eR v7]) rfl (e12 _ _) rfl ?_
        refine w_t (np := 41) (l2 := [some (eR a0), some (eI (a1)), some (eI (a2)), some (eI (v1)), some (eI (1))]) (s2 := [eI (1), eI (v11), eR v7]) rfl rfl rfl ?_
        refine w_cw (np := 44) (as := [eI (v11), eI (1)]) (l2 := [some (eR v7), some (eI (v11)), some (eI (1))]) (rest := []) rfl rfl rfl (Nat.ble_eq.mp rfl) rfl rfl rfl (hI.kd b9 (by decide) (n := 8) rfl) rfl ?_
        refine s_21 (a1 := v11) (a2 := 1) hI b9 (by omega) (by decide) ?_
        intro v15 b16
        show ex_q (dt_fg L ρ) rc (d + 1, (109, 44, [some (eR a0), some (eI (a1)), some (eI (a2)), some (eI (v1)), some (eI (1))], [eI (v15)]), f :: F, μ)
        exact b_ri rfl rfl (K (v15) (by omega))
      · refine w_t (np := 37) (l2 := [some (eR a0), some (eI (a1)), some (eI (a2)), some (eI (v1)), some (eI (1))]) (s2 := [eI (a1), eR v7]) rfl rfl rfl ?_
        refine w_t (np := 38) (l2 := [some (eR a0), some (eI (a1)), some (eI (a2)), some (eI (v1)), some (eI (1))]) (s2 := [eI (3), eI (a1), eR v7]) rfl rfl rfl ?_
        obtain ⟨v11, e12, b13⟩ := h_idiv (a := a1) (k := 3) (by decide) (by decide) (show (-2147483648 : Int) ≤ a1 ∧ (a1 : Int) ≤ 2147483647 by omega)
        have b14 : 0 ≤ v11 ∧ v11 ≤ 889 := by omega
        refine w_t (np := 39) (l2 := [some (eR a0), some (eI (a1)), some (eI (a2)), some (eI (v1)), some (eI (1))]) (s2 := [eI (v11), eR v7]) rfl (e12 _ _) rfl ?_
        refine w_t (np := 41) (l2 := [some (eR a0), some (eI (a1)), some (eI (a2)), some (eI (v1)), some (eI (1))]) (s2 := [eI (1), eI (v11), eR v7]) rfl rfl rfl ?_
        refine w_cw (np := 44) (as := [eI (v11), eI (1)]) (l2 := [some (eR v7), some (eI (v11)), some (eI (1))]) (rest := []) rfl rfl rfl (Nat.ble_eq.mp rfl) rfl rfl rfl (hI.kd b9 (by decide) (n := 8) rfl) rfl ?_
        refine s_21_2 (a1 := v11) (a2 := 1) hI b9 (by omega) (by decide) ?_
        intro v15 b16
        show ex_q (dt_fg L ρ) rc (d + 1, (109, 44, [some (eR a0), some (eI (a1)), some (eI (a2)), some (eI (v1)), some (eI (1))], [eI (v15)]), f :: F, μ)
        exact b_ri rfl rfl (K (v15) (by omega))
theorem s_110 {L : Nat} {ρ : Nat → Int} {rc : eQ} {d : Nat} {f : eFr} {F : List eFr} {μ : eM} {g : Nat → Nat} {a0 : Nat} {a1 : Int} (hI : SI g μ) (gA0 : g a0 = 35) (bA1 : 0 ≤ a1 ∧ a1 ≤ 2669) (K : ∀ (v : Int), (0 ≤ v ∧ v ≤ 511) → ex_q (dt_fg L ρ) rc (d + 3, (f.1, f.2.1, f.2.2.1, eI v :: f.2.2.2), F, μ)) : ex_q (dt_fg L ρ) rc (d + 2, (110, 0, [some (eR a0), some (eI (a1))], []), f :: F, μ) := by
  refine w_t (np := 1) (l2 := [some (eR a0), some (eI (a1))]) (s2 := [eR a0]) rfl (s_an rfl (pos_g hI gA0 (by decide))) rfl ?_
  refine w_t (np := 2) (l2 := [some (eR a0), some (eI (a1))]) (s2 := [eI (a1), eR a0]) rfl rfl rfl ?_
  refine w_t (np := 3) (l2 := [some (eR a0), some (eI (a1))]) (s2 := [eI (0), eI (a1), eR a0]) rfl rfl rfl ?_
  refine w_cw (np := 6) (as := [eI (a1), eI (0)]) (l2 := [some (eR a0), some (eI (a1)), some (eI (0)), none, none]) (rest := []) rfl rfl rfl (Nat.ble_eq.mp rfl) rfl rfl rfl (hI.kd gA0 (by decide) (n := 15) rfl) rfl ?_
  refine s_109 (a1 := a1) (a2 := 0) hI gA0 (by omega) (by decide) ?_
  intro v1 b2
  show ex_q (dt_fg L ρ) rc (d + 2, (110, 6, [some (eR a0), some (eI (a1))], [eI (v1)]), f :: F, μ)
  refine w_t (np := 7) (l2 := [some (eR a0), some (eI (a1))]) (s2 := [eR a0, eI (v1)]) rfl (s_an rfl (pos_g hI gA0 (by decide))) rfl ?_
  refine w_t (np := 8) (l2 := [some (eR a0), some (eI (a1))]) (s2 := [eI (a1), eR a0, eI (v1)]) rfl rfl rfl ?_
  refine w_t (np := 9) (l2 := [some (eR a0), some (eI (a1))]) (s2 := [eI (1), eI (a1), eR a0, eI (v1)]) rfl rfl rfl ?_
  refine w_cw (np := 12) (as := [eI (a1), eI (1)]) (l2 := [some (eR a0), some (eI (a1)), some (eI (1)), none, none]) (rest := [eI (v1)]) rfl rfl rfl (Nat.ble_eq.mp rfl) rfl rfl rfl (hI.kd gA0 (by decide) (n := 15) rfl) rfl ?_
  refine s_109 (a1 := a1) (a2 := 1) hI gA0 (by omega) (by decide) ?_
  intro v3 b4
  show ex_q (dt_fg L ρ) rc (d + 2, (110, 12, [some (eR a0), some (eI (a1))], [eI (v3), eI (v1)]), f :: F, μ)
  refine w_cu (np := 15) (as := [eI (v1), eI (v3)]) (l2 := [some (eI (v1)), some (eI (v3))]) (rest := []) rfl rfl rfl (Nat.ble_eq.mp rfl) rfl rfl rfl rfl ?_
  refine w_t (np := 1) (l2 := [some (eI (v1)), some (eI (v3))]) (s2 := [eI (v1)]) rfl rfl rfl ?_
  refine w_t (np := 2) (l2 := [some (eI (v1)), some (eI (v3))]) (s2 := [eI (v3), eI (v1)]) rfl rfl rfl ?_
  refine b_cgt (t1 := 9) (t2 := 5) rfl rfl rfl (ev_w_in (by omega) (by omega)) (ev_w_in (by omega) (by omega)) (fun g5 => ?_) (fun g5 => ?_)
  · have b6 : 1 ≤ v1 ∧ v1 ≤ 511 := by omega
    have b7 : 0 ≤ v3 ∧ v3 ≤ 510 := by omega
    refine w_t (np := 10) (l2 := [some (eI (v1)), some (eI (v3))]) (s2 := [eI (v3)]) rfl rfl rfl ?_
    refine b_ri rfl rfl ?_
    show ex_q (dt_fg L ρ) rc (d + 2, (110, 15, [some (eR a0), some (eI (a1))], [eI (v3)]), f :: F, μ)
    exact b_ri rfl rfl (K (v3) (by omega))
  · refine w_t (np := 6) (l2 := [some (eI (v1)), some (eI (v3))]) (s2 := [eI (v1)]) rfl rfl rfl ?_
    refine w_go (t1 := 10) rfl rfl ?_
    refine b_ri rfl rfl ?_
    show ex_q (dt_fg L ρ) rc (d + 2, (110, 15, [some (eR a0), some (eI (a1))], [eI (v1)]), f :: F, μ)
    exact b_ri rfl rfl (K (v1) (by omega))
theorem s_111 {L : Nat} {ρ : Nat → Int} {rc : eQ} {d : Nat} {f : eFr} {F : List eFr} {μ : eM} {g : Nat → Nat} {a0 : Nat} {a1 : Int} (hI : SI g μ) (gA0 : g a0 = 35) (bA1 : 0 ≤ a1 ∧ a1 ≤ 2669) (K : ∀ (v : Int), (0 ≤ v ∧ v ≤ 511) → ex_q (dt_fg L ρ) rc (d + 3, (f.1, f.2.1, f.2.2.1, eI v :: f.2.2.2), F, μ)) : ex_q (dt_fg L ρ) rc (d + 2, (111, 0, [some (eR a0), some (eI (a1))], []), f :: F, μ) := by
  refine w_t (np := 1) (l2 := [some (eR a0), some (eI (a1))]) (s2 := [eR a0]) rfl (s_an rfl (pos_g hI gA0 (by decide))) rfl ?_
  refine w_t (np := 2) (l2 := [some (eR a0), some (eI (a1))]) (s2 := [eI (a1), eR a0]) rfl rfl rfl ?_
  refine w_t (np := 3) (l2 := [some (eR a0), some (eI (a1))]) (s2 := [eI (0), eI (a1), eR a0]) rfl rfl rfl ?_
  refine w_cw (np := 6) (as := [eI (a1), eI (0)]) (l2 := [some (eR a0), some (eI (a1)), some (eI (0)), none, none]) (rest := []) rfl rfl rfl (Nat.ble_eq.mp rfl) rfl rfl rfl (hI.kd gA0 (by decide) (n := 15) rfl) rfl ?_
  refine s_109 (a1 := a1) (a2 := 0) hI gA0 (by omega) (by decide) ?_
  intro v1 b2
  show ex_q (dt_fg L ρ) rc (d + 2, (111, 6, [some (eR a0), some (eI (a1))], [eI (v1)]), f :: F, μ)
  refine w_t (np := 7) (l2 := [some (eR a0), some (eI (a1))]) (s2 := [eR a0, eI (v1)]) rfl (s_an rfl (pos_g hI gA0 (by decide))) rfl ?_
  refine w_t (np := 8) (l2 := [some (eR a0), some (eI (a1))]) (s2 := [eI (a1), eR a0, eI (v1)]) rfl rfl rfl ?_
  refine w_t (np := 9) (l2 := [some (eR a0), some (eI (a1))]) (s2 := [eI (1), eI (a1), eR a0, eI (v1)]) rfl rfl rfl ?_
  refine w_cw (np := 12) (as := [eI (a1), eI (1)]) (l2 := [some (eR a0), some (eI (a1)), some (eI (1)), none, none]) (rest := [eI (v1)]) rfl rfl rfl (Nat.ble_eq.mp rfl) rfl rfl rfl (hI.kd gA0 (by decide) (n := 15) rfl) rfl ?_
  refine s_109 (a1 := a1) (a2 := 1) hI gA0 (by omega) (by decide) ?_
  intro v3 b4
  show ex_q (dt_fg L ρ) rc (d + 2, (111, 12, [some (eR a0), some (eI (a1))], [eI (v3), eI (v1)]), f :: F, μ)
  refine w_cu (np := 15) (as := [eI (v1), eI (v3)]) (l2 := [some (eI (v1)), some (eI (v3))]) (rest := []) rfl rfl rfl (Nat.ble_eq.mp rfl) rfl rfl rfl rfl ?_
  refine w_t (np := 1) (l2 := [some (eI (v1)), some (eI (v3))]) (s2 := [eI (v1)]) rfl rfl rfl ?_
  refine w_t (np := 2) (l2 := [some (eI (v1)), some (eI (v3))]) (s2 := [eI (v3), eI (v1)]) rfl rfl rfl ?_
  refine b_clt (t1 := 9) (t2 := 5) rfl rfl rfl (ev_w_in (by omega) (by omega)) (ev_w_in (by omega) (by omega)) (fun g5 => ?_) (fun g5 => ?_)
  · have b6 : 0 ≤ v1 ∧ v1 ≤ 510 := by omega
    have b7 : 1 ≤ v3 ∧ v3 ≤ 511 := by omega
    refine w_t (np := 10) (l2 := [some (eI (v1)), some (eI (v3))]) (s2 := [eI (v3)]) rfl rfl rfl ?_
    refine b_ri rfl rfl ?_
    show ex_q (dt_fg L ρ) rc (d + 2, (111, 15, [some (eR a0), some (eI (a1))], [eI (v3)]), f :: F, μ)
    exact b_ri rfl rfl (K (v3) (by omega))
  · refine w_t (np := 6) (l2 := [some (eI (v1)), some (eI (v3))]) (s2 := [eI (v1)]) rfl rfl rfl ?_
    refine w_go (t1 := 10) rfl rfl ?_
    refine b_ri rfl rfl ?_
    show ex_q (dt_fg L ρ) rc (d + 2, (111, 15, [some (eR a0), some (eI (a1))], [eI (v1)]), f :: F, μ)
    exact b_ri rfl rfl (K (v1) (by omega))
theorem s_115 {L : Nat} {ρ : Nat → Int} {rc : eQ} {d : Nat} {f : eFr} {F : List eFr} {μ : eM} {g : Nat → Nat} {a0 : Nat} {a1 : Int} (hI : SI g μ) (gA0 : g a0 = 35) (bA1 : 0 ≤ a1 ∧ a1 ≤ 2669) (K : ∀ (v : Int), (0 ≤ v ∧ v ≤ 511) → ex_q (dt_fg L ρ) rc (d + 2, (f.1, f.2.1, f.2.2.1, eI v :: f.2.2.2), F, μ)) : ex_q (dt_fg L ρ) rc (d + 1, (115, 0, [some (eR a0), some (eI (a1)), none], []), f :: F, μ) := by
  refine w_t (np := 1) (l2 := [some (eR a0), some (eI (a1)), none]) (s2 := [eI (a1)]) rfl rfl rfl ?_
  refine w_t (np := 2) (l2 := [some (eR a0), some (eI (a1)), none]) (s2 := [eI (3), eI (a1)]) rfl rfl rfl ?_
  obtain ⟨v1, e2, b3⟩ := h_idiv (a := a1) (k := 3) (by decide) (by decide) (show (-2147483648 : Int) ≤ a1 ∧ (a1 : Int) ≤ 2147483647 by omega)
  have b4 : 0 ≤ v1 ∧ v1 ≤ 889 := by omega
  refine w_t (np := 3) (l2 := [some (eR a0), some (eI (a1)), none]) (s2 := [eI (v1)]) rfl (e2 _ _) rfl ?_
  refine w_t (np := 4) (l2 := [some (eR a0), some (eI (a1)), some (eI (v1))]) (s2 := []) rfl rfl rfl ?_
  refine w_t (np := 5) (l2 := [some (eR a0), some (eI (a1)), some (eI (v1))]) (s2 := [eR a0]) rfl (s_an rfl (pos_g hI gA0 (by decide))) rfl ?_
  refine j_gr (np := 8) rfl rfl hI gA0 (by decide) (n := 15) rfl rfl rfl ?_
  intro v5 e6 b7 z8
  rcases hor2 b7 with b7 | b7
  · refine w_t (np := 9) (l2 := [some (eR a0), some (eI (a1)), some (eI (v1))]) (s2 := [eI (v1), eR v5]) rfl rfl rfl ?_
    refine w_t (np := 10) (l2 := [some (eR a0), some (eI (a1)), some (eI (v1))]) (s2 := [eI (a1), eI (v1), eR v5]) rfl rfl rfl ?_
    refine w_t (np := 11) (l2 := [some (eR a0), some (eI (a1)), some (eI (v1))]) (s2 := [eI (3), eI (a1), eI (v1), eR v5]) rfl rfl rfl ?_
    obtain ⟨v9, e10, b11⟩ := h_irem (a := a1) (k := 3) (by decide) (by decide) (show (-2147483648 : Int) ≤ a1 ∧ (a1 : Int) ≤ 2147483647 by omega)
    have b12 : 0 ≤ v9 ∧ v9 ≤ 2 := by omega
    refine w_t (np := 12) (l2 := [some (eR a0), some (eI (a1)), some (eI (v1))]) (s2 := [eI (v9), eI (v1), eR v5]) rfl (e10 _ _) rfl ?_
    refine w_t (np := 13) (l2 := [some (eR a0), some (eI (a1)), some (eI (v1))]) (s2 := [eI (1), eI (v9), eI (v1), eR v5]) rfl rfl rfl ?_
    refine b_cne (t1 := 20) (t2 := 16) rfl rfl rfl (ev_w_in (by omega) (by omega)) rfl (fun g13 => ?_) (fun g13 => ?_)
    · refine w_t (np := 21) (l2 := [some (eR a0), some (eI (a1)), some (eI (v1))]) (s2 := [eR a0, eI (v1), eR v5]) rfl (s_an rfl (pos_g hI gA0 (by decide))) rfl ?_
      refine w_gf (np := 24) (v := eR v5) rfl rfl (hI.kd gA0 (by decide) (n := 15) rfl) (by rw [e6]; rfl) ?_
      refine w_t (np := 25) (l2 := [some (eR a0), some (eI (a1)), some (eI (v1))]) (s2 := [eI (v1), eR v5, eI (v1), eR v5]) rfl rfl rfl ?_
      refine w_cw (np := 28) (as := [eI (v1)]) (l2 := [some (eR v5), some (eI (v1))]) (rest := [eI (v1), eR v5]) rfl rfl rfl (Nat.ble_eq.mp rfl) rfl rfl rfl (hI.kd b7 (by decide) (n := 8) rfl) rfl ?_
      refine s_19 (a1 := v1) hI b7 (by omega) ?_
      intro v14 b15
      show ex_q (dt_fg L ρ) rc (d + 1, (115, 28, [some (eR a0), some (eI (a1)), some (eI (v1))], [eI (v14), eI (v1), eR v5]), f :: F, μ)
      refine b_ine (t1 := 35) (t2 := 31) rfl rfl rfl (ev_w_in (by omega) (by omega)) (fun g16 => ?_) (fun g16 => ?_)
      · have b17 : 1 ≤ v14 ∧ v14 ≤ 1 := by omega
        refine w_t (np := 36) (l2 := [some (eR a0), some (eI (a1)), some (eI (v1))]) (s2 := [eI (0), eI (v1), eR v5]) rfl rfl rfl ?_
        refine w_cw (np := 39) (as := [eI (v1), eI (0)]) (l2 := [some (eR v5), some (eI (v1)), some (eI (0))]) (rest := []) rfl rfl rfl (Nat.ble_eq.mp rfl) rfl rfl rfl (hI.kd b7 (by decide) (n := 8) rfl) rfl ?_
        refine s_21 (a1 := v1) (a2 := 0) hI b7 (by omega) (by decide) ?_
        intro v17 b18
        show ex_q (dt_fg L ρ) rc (d + 1, (115, 39, [some (eR a0), some (eI (a1)), some (eI (v1))], [eI (v17)]), f :: F, μ)
        exact b_ri rfl rfl (K (v17) (by omega))
      · have b17 : 0 ≤ v14 ∧ v14 ≤ 0 := by omega
        refine w_t (np := 32) (l2 := [some (eR a0), some (eI (a1)), some (eI (v1))]) (s2 := [eI (1), eI (v1), eR v5]) rfl rfl rfl ?_
        refine w_go (t1 := 36) rfl rfl ?_
        refine w_cw (np := 39) (as := [eI (v1), eI (1)]) (l2 := [some (eR v5), some (eI (v1)), some (eI (1))]) (rest := []) rfl rfl rfl (Nat.ble_eq.mp rfl) rfl rfl rfl (hI.kd b7 (by decide) (n := 8) rfl) rfl ?_
        refine s_21 (a1 := v1) (a2 := 1) hI b7 (by omega) (by decide) ?_
        intro v17 b18
        show ex_q (dt_fg L ρ) rc (d + 1, (115, 39, [some (eR a0), some (eI (a1)), some (eI (v1))], [eI (v17)]), f :: F, μ)
        exact b_ri rfl rfl (K (v17) (by omega))
    · have b14 : 1 ≤ v9 ∧ v9 ≤ 1 := by omega
      refine w_t (np := 17) (l2 := [some (eR a0), some (eI (a1)), some (eI (v1))]) (s2 := [eI (2), eI (v1), eR v5]) rfl rfl rfl ?_
      refine w_go (t1 := 36) rfl rfl ?_
      refine w_cw (np := 39) (as := [eI (v1), eI (2)]) (l2 := [some (eR v5), some (eI (v1)), some (eI (2))]) (rest := []) rfl rfl rfl (Nat.ble_eq.mp rfl) rfl rfl rfl (hI.kd b7 (by decide) (n := 8) rfl) rfl ?_
      refine s_21 (a1 := v1) (a2 := 2) hI b7 (by omega) (by decide) ?_
      intro v14 b15
      show ex_q (dt_fg L ρ) rc (d + 1, (115, 39, [some (eR a0), some (eI (a1)), some (eI (v1))], [eI (v14)]), f :: F, μ)
      exact b_ri rfl rfl (K (v14) (by omega))
  · refine w_t (np := 9) (l2 := [some (eR a0), some (eI (a1)), some (eI (v1))]) (s2 := [eI (v1), eR v5]) rfl rfl rfl ?_
    refine w_t (np := 10) (l2 := [some (eR a0), some (eI (a1)), some (eI (v1))]) (s2 := [eI (a1), eI (v1), eR v5]) rfl rfl rfl ?_
    refine w_t (np := 11) (l2 := [some (eR a0), some (eI (a1)), some (eI (v1))]) (s2 := [eI (3), eI (a1), eI (v1), eR v5]) rfl rfl rfl ?_
    obtain ⟨v9, e10, b11⟩ := h_irem (a := a1) (k := 3) (by decide) (by decide) (show (-2147483648 : Int) ≤ a1 ∧ (a1 : Int) ≤ 2147483647 by omega)
    have b12 : 0 ≤ v9 ∧ v9 ≤ 2 := by omega
    refine w_t (np := 12) (l2 := [some (eR a0), some (eI (a1)), some (eI (v1))]) (s2 := [eI (v9), eI (v1), eR v5]) rfl (e10 _ _) rfl ?_
    refine w_t (np := 13) (l2 := [some (eR a0), some (eI (a1)), some (eI (v1))]) (s2 := [eI (1), eI (v9), eI (v1), eR v5]) rfl rfl rfl ?_
    refine b_cne (t1 := 20) (t2 := 16) rfl rfl rfl (ev_w_in (by omega) (by omega)) rfl (fun g13 => ?_) (fun g13 => ?_)
    · refine w_t (np := 21) (l2 := [some (eR a0), some (eI (a1)), some (eI (v1))]) (s2 := [eR a0, eI (v1), eR v5]) rfl (s_an rfl (pos_g hI gA0 (by decide))) rfl ?_
      refine w_gf (np := 24) (v := eR v5) rfl rfl (hI.kd gA0 (by decide) (n := 15) rfl) (by rw [e6]; rfl) ?_
      refine w_t (np := 25) (l2 := [some (eR a0), some (eI (a1)), some (eI (v1))]) (s2 := [eI (v1), eR v5, eI (v1), eR v5]) rfl rfl rfl ?_
      refine w_cw (np := 28) (as := [eI (v1)]) (l2 := [some (eR v5), some (eI (v1))]) (rest := [eI (v1), eR v5]) rfl rfl rfl (Nat.ble_eq.mp rfl) rfl rfl rfl (hI.kd b7 (by decide) (n := 8) rfl) rfl ?_
      refine s_19_2 (a1 := v1) hI b7 (by omega) ?_
      intro v14 b15
      show ex_q (dt_fg L ρ) rc (d + 1, (115, 28, [some (eR a0), some (eI (a1)), some (eI (v1))], [eI (v14), eI (v1), eR v5]), f :: F, μ)
      refine b_ine (t1 := 35) (t2 := 31) rfl rfl rfl (ev_w_in (by omega) (by omega)) (fun g16 => ?_) (fun g16 => ?_)
      · have b17 : 1 ≤ v14 ∧ v14 ≤ 1 := by omega
        refine w_t (np := 36) (l2 := [some (eR a0), some (eI (a1)), some (eI (v1))]) (s2 := [eI (0), eI (v1), eR v5]) rfl rfl rfl ?_
        refine w_cw (np := 39) (as := [eI (v1), eI (0)]) (l2 := [some (eR v5), some (eI (v1)), some (eI (0))]) (rest := []) rfl rfl rfl (Nat.ble_eq.mp rfl) rfl rfl rfl (hI.kd b7 (by decide) (n := 8) rfl) rfl ?_
        refine s_21_2 (a1 := v1) (a2 := 0) hI b7 (by omega) (by decide) ?_
        intro v17 b18
        show ex_q (dt_fg L ρ) rc (d + 1, (115, 39, [some (eR a0), some (eI (a1)), some (eI (v1))], [eI (v17)]), f :: F, μ)
        exact b_ri rfl rfl (K (v17) (by omega))
      · have b17 : 0 ≤ v14 ∧ v14 ≤ 0 := by omega
        refine w_t (np := 32) (l2 := [some (eR a0), some (eI (a1)), some (eI (v1))]) (s2 := [eI (1), eI (v1), eR v5]) rfl rfl rfl ?_
        refine w_go (t1 := 36) rfl rfl ?_
        refine w_cw (np := 39) (as := [eI (v1), eI (1)]) (l2 := [some (eR v5), some (eI (v1)), some (eI (1))]) (rest := []) rfl rfl rfl (Nat.ble_eq.mp rfl) rfl rfl rfl (hI.kd b7 (by decide) (n := 8) rfl) rfl ?_
        refine s_21_2 (a1 := v1) (a2 := 1) hI b7 (by omega) (by decide) ?_
        intro v17 b18
        show ex_q (dt_fg L ρ) rc (d + 1, (115, 39, [some (eR a0), some (eI (a1)), some (eI (v1))], [eI (v17)]), f :: F, μ)
        exact b_ri rfl rfl (K (v17) (by omega))
    · have b14 : 1 ≤ v9 ∧ v9 ≤ 1 := by omega
      refine w_t (np := 17) (l2 := [some (eR a0), some (eI (a1)), some (eI (v1))]) (s2 := [eI (2), eI (v1), eR v5]) rfl rfl rfl ?_
      refine w_go (t1 := 36) rfl rfl ?_
      refine w_cw (np := 39) (as := [eI (v1), eI (2)]) (l2 := [some (eR v5), some (eI (v1)), some (eI (2))]) (rest := []) rfl rfl rfl (Nat.ble_eq.mp rfl) rfl rfl rfl (hI.kd b7 (by decide) (n := 8) rfl) rfl ?_
      refine s_21_2 (a1 := v1) (a2 := 2) hI b7 (by omega) (by decide) ?_
      intro v14 b15
      show ex_q (dt_fg L ρ) rc (d + 1, (115, 39, [some (eR a0), some (eI (a1)), some (eI (v1))], [eI (v14)]), f :: F, μ)
      exact b_ri rfl rfl (K (v14) (by omega))
theorem s_116 {L : Nat} {ρ : Nat → Int} {rc : eQ} {d : Nat} {f : eFr} {F : List eFr} {μ : eM} {g : Nat → Nat} {a0 : Nat} {a1 : Int} {a2 : Int} (hI : SI g μ) (gA0 : g a0 = 35) (bA1 : -2147483648 ≤ a1 ∧ a1 ≤ 2147483647) (bA2 : -2147483648 ≤ a2 ∧ a2 ≤ 2147483647) (K : ∀ (v : Int), (-1 ≤ v ∧ v ≤ 889) → ex_q (dt_fg L ρ) rc (d + 2, (f.1, f.2.1, f.2.2.1, eI v :: f.2.2.2), F, μ)) : ex_q (dt_fg L ρ) rc (d + 1, (116, 0, [some (eR a0), some (eI (a1)), some (eI (a2)), none], []), f :: F, μ) := by
  refine w_t (np := 1) (l2 := [some (eR a0), some (eI (a1)), some (eI (a2)), none]) (s2 := [eR a0]) rfl (s_an rfl (pos_g hI gA0 (by decide))) rfl ?_
  refine j_gr (np := 4) rfl rfl hI gA0 (by decide) (n := 15) rfl rfl rfl ?_
  intro v1 e2 b3 z4
  rcases hor2 b3 with b3 | b3
  · refine w_t (np := 5) (l2 := [some (eR a0), some (eI (a1)), some (eI (a2)), none]) (s2 := [eI (a1), eR v1]) rfl rfl rfl ?_
    refine w_cw (np := 8) (as := [eI (a1)]) (l2 := [some (eR v1), some (eI (a1))]) (rest := []) rfl rfl rfl (Nat.ble_eq.mp rfl) rfl rfl rfl (hI.kd b3 (by decide) (n := 8) rfl) rfl ?_
    refine w_t (np := 1) (l2 := [some (eR v1), some (eI (a1))]) (s2 := [eI (a1)]) rfl rfl rfl ?_
    refine b_ilt (t1 := 12) (t2 := 4) rfl rfl rfl (ev_w_in (by omega) (by omega)) (fun g5 => ?_) (fun g5 => ?_)
    · have b6 : -2147483648 ≤ a1 ∧ a1 ≤ -1 := by omega
      refine w_t (np := 13) (l2 := [some (eR v1), some (eI (a1))]) (s2 := [eI (1)]) rfl rfl rfl ?_
      refine w_go (t1 := 17) rfl rfl ?_
      refine b_rz rfl rfl (Or.inr rfl) ?_
      show ex_q (dt_fg L ρ) rc (d + 1, (116, 8, [some (eR a0), some (eI (a1)), some (eI (a2)), none], [eI (1)]), f :: F, μ)
      refine b_ine (t1 := 20) (t2 := 11) rfl rfl rfl rfl (fun g6 => ?_) (fun g6 => absurd g6 (by decide))
      refine w_t (np := 21) (l2 := [some (eR a0), some (eI (a1)), some (eI (a2)), none]) (s2 := [eI (-1)]) rfl rfl rfl ?_
      refine w_go (t1 := 34) rfl rfl ?_
      refine w_t (np := 35) (l2 := [some (eR a0), some (eI (a1)), some (eI (a2)), some (eI (-1))]) (s2 := []) rfl rfl rfl ?_
      refine w_t (np := 36) (l2 := [some (eR a0), some (eI (a1)), some (eI (a2)), some (eI (-1))]) (s2 := [eI (-1)]) rfl rfl rfl ?_
      refine b_ige (t1 := 43) (t2 := 39) rfl rfl rfl rfl (fun g7 => absurd g7 (by decide)) (fun g7 => ?_)
      refine w_t (np := 40) (l2 := [some (eR a0), some (eI (a1)), some (eI (a2)), some (eI (-1))]) (s2 := [eI (-1)]) rfl rfl rfl ?_
      refine w_go (t1 := 46) rfl rfl ?_
      exact b_ri rfl rfl (K (-1) (by decide))
    · have b6 : 0 ≤ a1 ∧ a1 ≤ 2147483647 := by omega
      refine w_t (np := 5) (l2 := [some (eR v1), some (eI (a1))]) (s2 := [eI (a1)]) rfl rfl rfl ?_
      refine w_t (np := 6) (l2 := [some (eR v1), some (eI (a1))]) (s2 := [eR v1, eI (a1)]) rfl (s_an rfl (pos_g hI b3 (by decide))) rfl ?_
      refine j_gi (np := 9) rfl rfl rfl hI b3 (by decide) (n := 8) rfl rfl (lo := 0) (hi := 50) rfl ?_
      intro v6 e7 b8
      refine b_clt (t1 := 16) (t2 := 12) rfl rfl rfl (ev_w_in (by omega) (by omega)) (ev_w_in (by omega) (by omega)) (fun g9 => ?_) (fun g9 => ?_)
      · have b10 : 0 ≤ a1 ∧ a1 ≤ 49 := by omega
        have b11 : 1 ≤ v6 ∧ v6 ≤ 50 := by omega
        refine w_t (np := 17) (l2 := [some (eR v1), some (eI (a1))]) (s2 := [eI (0)]) rfl rfl rfl ?_
        refine b_rz rfl rfl (Or.inl rfl) ?_
        show ex_q (dt_fg L ρ) rc (d + 1, (116, 8, [some (eR a0), some (eI (a1)), some (eI (a2)), none], [eI (0)]), f :: F, μ)
        refine b_ine (t1 := 20) (t2 := 11) rfl rfl rfl rfl (fun g10 => absurd g10 (by decide)) (fun g10 => ?_)
        refine w_t (np := 12) (l2 := [some (eR a0), some (eI (a1)), some (eI (a2)), none]) (s2 := [eI (a2)]) rfl rfl rfl ?_
        refine b_ilt (t1 := 20) (t2 := 15) rfl rfl rfl (ev_w_in (by omega) (by omega)) (fun g11 => ?_) (fun g11 => ?_)
        · have b12 : -2147483648 ≤ a2 ∧ a2 ≤ -1 := by omega
          refine w_t (np := 21) (l2 := [some (eR a0), some (eI (a1)), some (eI (a2)), none]) (s2 := [eI (-1)]) rfl rfl rfl ?_
          refine w_go (t1 := 34) rfl rfl ?_
          refine w_t (np := 35) (l2 := [some (eR a0), some (eI (a1)), some (eI (a2)), some (eI (-1))]) (s2 := []) rfl rfl rfl ?_
          refine w_t (np := 36) (l2 := [some (eR a0), some (eI (a1)), some (eI (a2)), some (eI (-1))]) (s2 := [eI (-1)]) rfl rfl rfl ?_
          refine b_ige (t1 := 43) (t2 := 39) rfl rfl rfl rfl (fun g12 => absurd g12 (by decide)) (fun g12 => ?_)
          refine w_t (np := 40) (l2 := [some (eR a0), some (eI (a1)), some (eI (a2)), some (eI (-1))]) (s2 := [eI (-1)]) rfl rfl rfl ?_
          refine w_go (t1 := 46) rfl rfl ?_
          exact b_ri rfl rfl (K (-1) (by decide))
        · have b12 : 0 ≤ a2 ∧ a2 ≤ 2147483647 := by omega
          refine w_t (np := 16) (l2 := [some (eR a0), some (eI (a1)), some (eI (a2)), none]) (s2 := [eI (a2)]) rfl rfl rfl ?_
          refine w_t (np := 17) (l2 := [some (eR a0), some (eI (a1)), some (eI (a2)), none]) (s2 := [eI (2), eI (a2)]) rfl rfl rfl ?_
          refine b_cle (t1 := 24) (t2 := 20) rfl rfl rfl (ev_w_in (by omega) (by omega)) rfl (fun g12 => ?_) (fun g12 => ?_)
          · have b13 : 0 ≤ a2 ∧ a2 ≤ 2 := by omega
            refine w_t (np := 25) (l2 := [some (eR a0), some (eI (a1)), some (eI (a2)), none]) (s2 := [eR a0]) rfl (s_an rfl (pos_g hI gA0 (by decide))) rfl ?_
            refine j_gr (np := 28) rfl rfl hI gA0 (by decide) (n := 15) rfl rfl rfl ?_
            intro v13 e14 b15 z16
            have b15 : g v13 = 36 := Nat.eq_of_beq_eq_true b15
            refine w_t (np := 29) (l2 := [some (eR a0), some (eI (a1)), some (eI (a2)), none]) (s2 := [eI (3), eR v13]) rfl rfl rfl ?_
            refine w_t (np := 30) (l2 := [some (eR a0), some (eI (a1)), some (eI (a2)), none]) (s2 := [eI (a1), eI (3), eR v13]) rfl rfl rfl ?_
            obtain ⟨v17, e18⟩ : ∃ zz : Int, zz = (3) * (a1) := ⟨_, rfl⟩
            have b19 : 0 ≤ v17 ∧ v17 ≤ 147 := by omega
            refine w_t (np := 31) (l2 := [some (eR a0), some (eI (a1)), some (eI (a2)), none]) (s2 := [eI (v17), eR v13]) rfl (b_imul (by rw [← e18]; exact ev_w_in (by omega) (by omega))) rfl ?_
            refine w_t (np := 32) (l2 := [some (eR a0), some (eI (a1)), some (eI (a2)), none]) (s2 := [eI (a2), eI (v17), eR v13]) rfl rfl rfl ?_
            obtain ⟨v20, e21⟩ : ∃ zz : Int, zz = (v17) + (a2) := ⟨_, rfl⟩
            have b22 : 0 ≤ v20 ∧ v20 ≤ 149 := by omega
            refine w_t (np := 33) (l2 := [some (eR a0), some (eI (a1)), some (eI (a2)), none]) (s2 := [eI (v20), eR v13]) rfl (b_iadd (by rw [← e21]; exact ev_w_in (by omega) (by omega))) rfl ?_
            refine j_al (np := 34) rfl rfl hI b15 (by decide) (n := 2670) rfl rfl (lo := -1) (hi := 2669) (fun _ => rfl) (by omega) (by omega) ?_
            intro v23 e24 b25
            refine w_t (np := 35) (l2 := [some (eR a0), some (eI (a1)), some (eI (a2)), some (eI (v23))]) (s2 := []) rfl rfl rfl ?_
            refine w_t (np := 36) (l2 := [some (eR a0), some (eI (a1)), some (eI (a2)), some (eI (v23))]) (s2 := [eI (v23)]) rfl rfl rfl ?_
            refine b_ige (t1 := 43) (t2 := 39) rfl rfl rfl (ev_w_in (by omega) (by omega)) (fun g26 => ?_) (fun g26 => ?_)
            · have b27 : 0 ≤ v23 ∧ v23 ≤ 2669 := by omega
              refine w_t (np := 44) (l2 := [some (eR a0), some (eI (a1)), some (eI (a2)), some (eI (v23))]) (s2 := [eI (v23)]) rfl rfl rfl ?_
              refine w_t (np := 45) (l2 := [some (eR a0), some (eI (a1)), some (eI (a2)), some (eI (v23))]) (s2 := [eI (3), eI (v23)]) rfl rfl rfl ?_
              obtain ⟨v27, e28, b29⟩ := h_idiv (a := v23) (k := 3) (by decide) (by decide) (show (-2147483648 : Int) ≤ v23 ∧ (v23 : Int) ≤ 2147483647 by omega)
              have b30 : 0 ≤ v27 ∧ v27 ≤ 889 := by omega
              refine w_t (np := 46) (l2 := [some (eR a0), some (eI (a1)), some (eI (a2)), some (eI (v23))]) (s2 := [eI (v27)]) rfl (e28 _ _) rfl ?_
              exact b_ri rfl rfl (K (v27) (by omega))
            · have b27 : -1 ≤ v23 ∧ v23 ≤ -1 := by omega
              refine w_t (np := 40) (l2 := [some (eR a0), some (eI (a1)), some (eI (a2)), some (eI (v23))]) (s2 := [eI (-1)]) rfl rfl rfl ?_
              refine w_go (t1 := 46) rfl rfl ?_
              exact b_ri rfl rfl (K (-1) (by decide))
          · have b13 : 3 ≤ a2 ∧ a2 ≤ 2147483647 := by omega
            refine w_t (np := 21) (l2 := [some (eR a0), some (eI (a1)), some (eI (a2)), none]) (s2 := [eI (-1)]) rfl rfl rfl ?_
            refine w_go (t1 := 34) rfl rfl ?_
            refine w_t (np := 35) (l2 := [some (eR a0), some (eI (a1)), some (eI (a2)), some (eI (-1))]) (s2 := []) rfl rfl rfl ?_
            refine w_t (np := 36) (l2 := [some (eR a0), some (eI (a1)), some (eI (a2)), some (eI (-1))]) (s2 := [eI (-1)]) rfl rfl rfl ?_
            refine b_ige (t1 := 43) (t2 := 39) rfl rfl rfl rfl (fun g13 => absurd g13 (by decide)) (fun g13 => ?_)
            refine w_t (np := 40) (l2 := [some (eR a0), some (eI (a1)), some (eI (a2)), some (eI (-1))]) (s2 := [eI (-1)]) rfl rfl rfl ?_
            refine w_go (t1 := 46) rfl rfl ?_
            exact b_ri rfl rfl (K (-1) (by decide))
      · refine w_t (np := 13) (l2 := [some (eR v1), some (eI (a1))]) (s2 := [eI (1)]) rfl rfl rfl ?_
        refine w_go (t1 := 17) rfl rfl ?_
        refine b_rz rfl rfl (Or.inr rfl) ?_
        show ex_q (dt_fg L ρ) rc (d + 1, (116, 8, [some (eR a0), some (eI (a1)), some (eI (a2)), none], [eI (1)]), f :: F, μ)
        refine b_ine (t1 := 20) (t2 := 11) rfl rfl rfl rfl (fun g10 => ?_) (fun g10 => absurd g10 (by decide))
        refine w_t (np := 21) (l2 := [some (eR a0), some (eI (a1)), some (eI (a2)), none]) (s2 := [eI (-1)]) rfl rfl rfl ?_
        refine w_go (t1 := 34) rfl rfl ?_
        refine w_t (np := 35) (l2 := [some (eR a0), some (eI (a1)), some (eI (a2)), some (eI (-1))]) (s2 := []) rfl rfl rfl ?_
        refine w_t (np := 36) (l2 := [some (eR a0), some (eI (a1)), some (eI (a2)), some (eI (-1))]) (s2 := [eI (-1)]) rfl rfl rfl ?_
        refine b_ige (t1 := 43) (t2 := 39) rfl rfl rfl rfl (fun g11 => absurd g11 (by decide)) (fun g11 => ?_)
        refine w_t (np := 40) (l2 := [some (eR a0), some (eI (a1)), some (eI (a2)), some (eI (-1))]) (s2 := [eI (-1)]) rfl rfl rfl ?_
        refine w_go (t1 := 46) rfl rfl ?_
        exact b_ri rfl rfl (K (-1) (by decide))
  · refine w_t (np := 5) (l2 := [some (eR a0), some (eI (a1)), some (eI (a2)), none]) (s2 := [eI (a1), eR v1]) rfl rfl rfl ?_
    refine w_cw (np := 8) (as := [eI (a1)]) (l2 := [some (eR v1), some (eI (a1))]) (rest := []) rfl rfl rfl (Nat.ble_eq.mp rfl) rfl rfl rfl (hI.kd b3 (by decide) (n := 8) rfl) rfl ?_
    refine w_t (np := 1) (l2 := [some (eR v1), some (eI (a1))]) (s2 := [eI (a1)]) rfl rfl rfl ?_
    refine b_ilt (t1 := 12) (t2 := 4) rfl rfl rfl (ev_w_in (by omega) (by omega)) (fun g5 => ?_) (fun g5 => ?_)
    · have b6 : -2147483648 ≤ a1 ∧ a1 ≤ -1 := by omega
      refine w_t (np := 13) (l2 := [some (eR v1), some (eI (a1))]) (s2 := [eI (1)]) rfl rfl rfl ?_
      refine w_go (t1 := 17) rfl rfl ?_
      refine b_rz rfl rfl (Or.inr rfl) ?_
      show ex_q (dt_fg L ρ) rc (d + 1, (116, 8, [some (eR a0), some (eI (a1)), some (eI (a2)), none], [eI (1)]), f :: F, μ)
      refine b_ine (t1 := 20) (t2 := 11) rfl rfl rfl rfl (fun g6 => ?_) (fun g6 => absurd g6 (by decide))
      refine w_t (np := 21) (l2 := [some (eR a0), some (eI (a1)), some (eI (a2)), none]) (s2 := [eI (-1)]) rfl rfl rfl ?_
      refine w_go (t1 := 34) rfl rfl ?_
      refine w_t (np := 35) (l2 := [some (eR a0), some (eI (a1)), some (eI (a2)), some (eI (-1))]) (s2 := []) rfl rfl rfl ?_
      refine w_t (np := 36) (l2 := [some (eR a0), some (eI (a1)), some (eI (a2)), some (eI (-1))]) (s2 := [eI (-1)]) rfl rfl rfl ?_
      refine b_ige (t1 := 43) (t2 := 39) rfl rfl rfl rfl (fun g7 => absurd g7 (by decide)) (fun g7 => ?_)
      refine w_t (np := 40) (l2 := [some (eR a0), some (eI (a1)), some (eI (a2)), some (eI (-1))]) (s2 := [eI (-1)]) rfl rfl rfl ?_
      refine w_go (t1 := 46) rfl rfl ?_
      exact b_ri rfl rfl (K (-1) (by decide))
    · have b6 : 0 ≤ a1 ∧ a1 ≤ 2147483647 := by omega
      refine w_t (np := 5) (l2 := [some (eR v1), some (eI (a1))]) (s2 := [eI (a1)]) rfl rfl rfl ?_
      refine w_t (np := 6) (l2 := [some (eR v1), some (eI (a1))]) (s2 := [eR v1, eI (a1)]) rfl (s_an rfl (pos_g hI b3 (by decide))) rfl ?_
      refine j_gi (np := 9) rfl rfl rfl hI b3 (by decide) (n := 8) rfl rfl (lo := 0) (hi := 890) rfl ?_
      intro v6 e7 b8
      refine b_clt (t1 := 16) (t2 := 12) rfl rfl rfl (ev_w_in (by omega) (by omega)) (ev_w_in (by omega) (by omega)) (fun g9 => ?_) (fun g9 => ?_)
      · have b10 : 0 ≤ a1 ∧ a1 ≤ 889 := by omega
        have b11 : 1 ≤ v6 ∧ v6 ≤ 890 := by omega
        refine w_t (np := 17) (l2 := [some (eR v1), some (eI (a1))]) (s2 := [eI (0)]) rfl rfl rfl ?_
        refine b_rz rfl rfl (Or.inl rfl) ?_
        show ex_q (dt_fg L ρ) rc (d + 1, (116, 8, [some (eR a0), some (eI (a1)), some (eI (a2)), none], [eI (0)]), f :: F, μ)
        refine b_ine (t1 := 20) (t2 := 11) rfl rfl rfl rfl (fun g10 => absurd g10 (by decide)) (fun g10 => ?_)
        refine w_t (np := 12) (l2 := [some (eR a0), some (eI (a1)), some (eI (a2)), none]) (s2 := [eI (a2)]) rfl rfl rfl ?_
        refine b_ilt (t1 := 20) (t2 := 15) rfl rfl rfl (ev_w_in (by omega) (by omega)) (fun g11 => ?_) (fun g11 => ?_)
        · have b12 : -2147483648 ≤ a2 ∧ a2 ≤ -1 := by omega
          refine w_t (np := 21) (l2 := [some (eR a0), some (eI (a1)), some (eI (a2)), none]) (s2 := [eI (-1)]) rfl rfl rfl ?_
          refine w_go (t1 := 34) rfl rfl ?_
          refine w_t (np := 35) (l2 := [some (eR a0), some (eI (a1)), some (eI (a2)), some (eI (-1))]) (s2 := []) rfl rfl rfl ?_
          refine w_t (np := 36) (l2 := [some (eR a0), some (eI (a1)), some (eI (a2)), some (eI (-1))]) (s2 := [eI (-1)]) rfl rfl rfl ?_
          refine b_ige (t1 := 43) (t2 := 39) rfl rfl rfl rfl (fun g12 => absurd g12 (by decide)) (fun g12 => ?_)
          refine w_t (np := 40) (l2 := [some (eR a0), some (eI (a1)), some (eI (a2)), some (eI (-1))]) (s2 := [eI (-1)]) rfl rfl rfl ?_
          refine w_go (t1 := 46) rfl rfl ?_
          exact b_ri rfl rfl (K (-1) (by decide))
        · have b12 : 0 ≤ a2 ∧ a2 ≤ 2147483647 := by omega
          refine w_t (np := 16) (l2 := [some (eR a0), some (eI (a1)), some (eI (a2)), none]) (s2 := [eI (a2)]) rfl rfl rfl ?_
          refine w_t (np := 17) (l2 := [some (eR a0), some (eI (a1)), some (eI (a2)), none]) (s2 := [eI (2), eI (a2)]) rfl rfl rfl ?_
          refine b_cle (t1 := 24) (t2 := 20) rfl rfl rfl (ev_w_in (by omega) (by omega)) rfl (fun g12 => ?_) (fun g12 => ?_)
          · have b13 : 0 ≤ a2 ∧ a2 ≤ 2 := by omega
            refine w_t (np := 25) (l2 := [some (eR a0), some (eI (a1)), some (eI (a2)), none]) (s2 := [eR a0]) rfl (s_an rfl (pos_g hI gA0 (by decide))) rfl ?_
            refine j_gr (np := 28) rfl rfl hI gA0 (by decide) (n := 15) rfl rfl rfl ?_
            intro v13 e14 b15 z16
            have b15 : g v13 = 36 := Nat.eq_of_beq_eq_true b15
            refine w_t (np := 29) (l2 := [some (eR a0), some (eI (a1)), some (eI (a2)), none]) (s2 := [eI (3), eR v13]) rfl rfl rfl ?_
            refine w_t (np := 30) (l2 := [some (eR a0), some (eI (a1)), some (eI (a2)), none]) (s2 := [eI (a1), eI (3), eR v13]) rfl rfl rfl ?_
            obtain ⟨v17, e18⟩ : ∃ zz : Int, zz = (3) * (a1) := ⟨_, rfl⟩
            have b19 : 0 ≤ v17 ∧ v17 ≤ 2667 := by omega
            refine w_t (np := 31) (l2 := [some (eR a0), some (eI (a1)), some (eI (a2)), none]) (s2 := [eI (v17), eR v13]) rfl (b_imul (by rw [← e18]; exact ev_w_in (by omega) (by omega))) rfl ?_
            refine w_t (np := 32) (l2 := [some (eR a0), some (eI (a1)), some (eI (a2)), none]) (s2 := [eI (a2), eI (v17), eR v13]) rfl rfl rfl ?_
            obtain ⟨v20, e21⟩ : ∃ zz : Int, zz = (v17) + (a2) := ⟨_, rfl⟩
            have b22 : 0 ≤ v20 ∧ v20 ≤ 2669 := by omega
            refine w_t (np := 33) (l2 := [some (eR a0), some (eI (a1)), some (eI (a2)), none]) (s2 := [eI (v20), eR v13]) rfl (b_iadd (by rw [← e21]; exact ev_w_in (by omega) (by omega))) rfl ?_
            refine j_al (np := 34) rfl rfl hI b15 (by decide) (n := 2670) rfl rfl (lo := -1) (hi := 2669) (fun _ => rfl) (by omega) (by omega) ?_
            intro v23 e24 b25
            refine w_t (np := 35) (l2 := [some (eR a0), some (eI (a1)), some (eI (a2)), some (eI (v23))]) (s2 := []) rfl rfl rfl ?_
            refine w_t (np := 36) (l2 := [some (eR a0), some (eI (a1)), some (eI (a2)), some (eI (v23))]) (s2 := [eI (v23)]) rfl rfl rfl ?_
            refine b_ige (t1 := 43) (t2 := 39) rfl rfl rfl (ev_w_in (by omega) (by omega)) (fun g26 => ?_) (fun g26 => ?_)
            · have b27 : 0 ≤ v23 ∧ v23 ≤ 2669 := by omega
              refine w_t (np := 44) (l2 := [some (eR a0), some (eI (a1)), some (eI (a2)), some (eI (v23))]) (s2 := [eI (v23)]) rfl rfl rfl ?_
              refine w_t (np := 45) (l2 := [some (eR a0), some (eI (a1)), some (eI (a2)), some (eI (v23))]) (s2 := [eI (3), eI (v23)]) rfl rfl rfl ?_
              obtain ⟨v27, e28, b29⟩ := h_idiv (a := v23) (k := 3) (by decide) (by decide) (show (-2147483648 : Int) ≤ v23 ∧ (v23 : Int) ≤ 2147483647 by omega)
              have b30 : 0 ≤ v27 ∧ v27 ≤ 889 := by omega
              refine w_t (np := 46) (l2 := [some (eR a0), some (eI (a1)), some (eI (a2)), some (eI (v23))]) (s2 := [eI (v27)]) rfl (e28 _ _) rfl ?_
              exact b_ri rfl rfl (K (v27) (by omega))
            · have b27 : -1 ≤ v23 ∧ v23 ≤ -1 := by omega
              refine w_t (np := 40) (l2 := [some (eR a0), some (eI (a1)), some (eI (a2)), some (eI (v23))]) (s2 := [eI (-1)]) rfl rfl rfl ?_
              refine w_go (t1 := 46) rfl rfl ?_
              exact b_ri rfl rfl (K (-1) (by decide))
          · have b13 : 3 ≤ a2 ∧ a2 ≤ 2147483647 := by omega
            refine w_t (np := 21) (l2 := [some (eR a0), some (eI (a1)), some (eI (a2)), none]) (s2 := [eI (-1)]) rfl rfl rfl ?_
            refine w_go (t1 := 34) rfl rfl ?_
            refine w_t (np := 35) (l2 := [some (eR a0), some (eI (a1)), some (eI (a2)), some (eI (-1))]) (s2 := []) rfl rfl rfl ?_
            refine w_t (np := 36) (l2 := [some (eR a0), some (eI (a1)), some (eI (a2)), some (eI (-1))]) (s2 := [eI (-1)]) rfl rfl rfl ?_
            refine b_ige (t1 := 43) (t2 := 39) rfl rfl rfl rfl (fun g13 => absurd g13 (by decide)) (fun g13 => ?_)
            refine w_t (np := 40) (l2 := [some (eR a0), some (eI (a1)), some (eI (a2)), some (eI (-1))]) (s2 := [eI (-1)]) rfl rfl rfl ?_
            refine w_go (t1 := 46) rfl rfl ?_
            exact b_ri rfl rfl (K (-1) (by decide))
      · refine w_t (np := 13) (l2 := [some (eR v1), some (eI (a1))]) (s2 := [eI (1)]) rfl rfl rfl ?_
        refine w_go (t1 := 17) rfl rfl ?_
        refine b_rz rfl rfl (Or.inr rfl) ?_
        show ex_q (dt_fg L ρ) rc (d + 1, (116, 8, [some (eR a0), some (eI (a1)), some (eI (a2)), none], [eI (1)]), f :: F, μ)
        refine b_ine (t1 := 20) (t2 := 11) rfl rfl rfl rfl (fun g10 => ?_) (fun g10 => absurd g10 (by decide))
        refine w_t (np := 21) (l2 := [some (eR a0), some (eI (a1)), some (eI (a2)), none]) (s2 := [eI (-1)]) rfl rfl rfl ?_
        refine w_go (t1 := 34) rfl rfl ?_
        refine w_t (np := 35) (l2 := [some (eR a0), some (eI (a1)), some (eI (a2)), some (eI (-1))]) (s2 := []) rfl rfl rfl ?_
        refine w_t (np := 36) (l2 := [some (eR a0), some (eI (a1)), some (eI (a2)), some (eI (-1))]) (s2 := [eI (-1)]) rfl rfl rfl ?_
        refine b_ige (t1 := 43) (t2 := 39) rfl rfl rfl rfl (fun g11 => absurd g11 (by decide)) (fun g11 => ?_)
        refine w_t (np := 40) (l2 := [some (eR a0), some (eI (a1)), some (eI (a2)), some (eI (-1))]) (s2 := [eI (-1)]) rfl rfl rfl ?_
        refine w_go (t1 := 46) rfl rfl ?_
        exact b_ri rfl rfl (K (-1) (by decide))
theorem s_117 {L : Nat} {ρ : Nat → Int} {rc : eQ} {d : Nat} {f : eFr} {F : List eFr} {μ : eM} {g : Nat → Nat} {a0 : Nat} {a1 : Int} (hI : SI g μ) (gA0 : g a0 = 35) (bA1 : -2147483648 ≤ a1 ∧ a1 ≤ 2147483647) (K : ∀ (v : Int), (-1 ≤ v ∧ v ≤ 889) → ex_q (dt_fg L ρ) rc (d + 3, (f.1, f.2.1, f.2.2.1, eI v :: f.2.2.2), F, μ)) : ex_q (dt_fg L ρ) rc (d + 2, (117, 0, [some (eR a0), some (eI (a1)), none, none], []), f :: F, μ) := by
  refine w_t (np := 1) (l2 := [some (eR a0), some (eI (a1)), none, none]) (s2 := [eR a0]) rfl (s_an rfl (pos_g hI gA0 (by decide))) rfl ?_
  refine w_t (np := 2) (l2 := [some (eR a0), some (eI (a1)), none, none]) (s2 := [eI (a1), eR a0]) rfl rfl rfl ?_
  refine w_t (np := 3) (l2 := [some (eR a0), some (eI (a1)), none, none]) (s2 := [eI (2), eI (a1), eR a0]) rfl rfl rfl ?_
  refine w_cw (np := 6) (as := [eI (a1), eI (2)]) (l2 := [some (eR a0), some (eI (a1)), some (eI (2)), none]) (rest := []) rfl rfl rfl (Nat.ble_eq.mp rfl) rfl rfl rfl (hI.kd gA0 (by decide) (n := 15) rfl) rfl ?_
  refine s_116 (a1 := a1) (a2 := 2) hI gA0 (by omega) (by decide) ?_
  intro v1 b2
  show ex_q (dt_fg L ρ) rc (d + 2, (117, 6, [some (eR a0), some (eI (a1)), none, none], [eI (v1)]), f :: F, μ)
  refine w_t (np := 7) (l2 := [some (eR a0), some (eI (a1)), some (eI (v1)), none]) (s2 := []) rfl rfl rfl ?_
  refine w_t (np := 8) (l2 := [some (eR a0), some (eI (a1)), some (eI (v1)), none]) (s2 := [eI (v1)]) rfl rfl rfl ?_
  refine b_ilt (t1 := 76) (t2 := 11) rfl rfl rfl (ev_w_in (by omega) (by omega)) (fun g3 => ?_) (fun g3 => ?_)
  · have b4 : -1 ≤ v1 ∧ v1 ≤ -1 := by omega
    refine w_t (np := 77) (l2 := [some (eR a0), some (eI (a1)), some (eI (v1)), none]) (s2 := [eI (0)]) rfl rfl rfl ?_
    refine w_t (np := 78) (l2 := [some (eR a0), some (eI (a1)), some (eI (v1)), some (eI (0))]) (s2 := []) rfl rfl rfl ?_
    refine w_t (np := 79) (l2 := [some (eR a0), some (eI (a1)), some (eI (v1)), some (eI (0))]) (s2 := [eI (0)]) rfl rfl rfl ?_
    refine b_ieq (t1 := 86) (t2 := 82) rfl rfl rfl rfl (fun g4 => ?_) (fun g4 => absurd g4 (by decide))
    refine w_t (np := 87) (l2 := [some (eR a0), some (eI (a1)), some (eI (v1)), some (eI (0))]) (s2 := [eI (-1)]) rfl rfl rfl ?_
    exact b_ri rfl rfl (K (-1) (by decide))
  · have b4 : 0 ≤ v1 ∧ v1 ≤ 889 := by omega
    refine w_t (np := 12) (l2 := [some (eR a0), some (eI (a1)), some (eI (v1)), none]) (s2 := [eR a0]) rfl (s_an rfl (pos_g hI gA0 (by decide))) rfl ?_
    refine j_gr (np := 15) rfl rfl hI gA0 (by decide) (n := 15) rfl rfl rfl ?_
    intro v4 e5 b6 z7
    rcases hor2 b6 with b6 | b6
    · refine w_t (np := 16) (l2 := [some (eR a0), some (eI (a1)), some (eI (v1)), none]) (s2 := [eI (v1), eR v4]) rfl rfl rfl ?_
      refine w_cw (np := 19) (as := [eI (v1)]) (l2 := [some (eR v4), some (eI (v1))]) (rest := []) rfl rfl rfl (Nat.ble_eq.mp rfl) rfl rfl rfl (hI.kd b6 (by decide) (n := 8) rfl) rfl ?_
      refine s_19 (a1 := v1) hI b6 (by omega) ?_
      intro v8 b9
      show ex_q (dt_fg L ρ) rc (d + 2, (117, 19, [some (eR a0), some (eI (a1)), some (eI (v1)), none], [eI (v8)]), f :: F, μ)
      refine w_t (np := 20) (l2 := [some (eR a0), some (eI (a1)), some (eI (v1)), none]) (s2 := [eR a0, eI (v8)]) rfl (s_an rfl (pos_g hI gA0 (by decide))) rfl ?_
      refine w_gf (np := 23) (v := eR v4) rfl rfl (hI.kd gA0 (by decide) (n := 15) rfl) (by rw [e5]; rfl) ?_
      refine w_t (np := 24) (l2 := [some (eR a0), some (eI (a1)), some (eI (v1)), none]) (s2 := [eI (a1), eR v4, eI (v8)]) rfl rfl rfl ?_
      refine w_cw (np := 27) (as := [eI (a1)]) (l2 := [some (eR v4), some (eI (a1))]) (rest := [eI (v8)]) rfl rfl rfl (Nat.ble_eq.mp rfl) rfl rfl rfl (hI.kd b6 (by decide) (n := 8) rfl) rfl ?_
      refine s_19 (a1 := a1) hI b6 (by omega) ?_
      intro v10 b11
      show ex_q (dt_fg L ρ) rc (d + 2, (117, 27, [some (eR a0), some (eI (a1)), some (eI (v1)), none], [eI (v10), eI (v8)]), f :: F, μ)
      refine b_cne (t1 := 76) (t2 := 30) rfl rfl rfl (ev_w_in (by omega) (by omega)) (ev_w_in (by omega) (by omega)) (fun g12 => ?_) (fun g12 => ?_)
      · refine w_t (np := 77) (l2 := [some (eR a0), some (eI (a1)), some (eI (v1)), none]) (s2 := [eI (0)]) rfl rfl rfl ?_
        refine w_t (np := 78) (l2 := [some (eR a0), some (eI (a1)), some (eI (v1)), some (eI (0))]) (s2 := []) rfl rfl rfl ?_
        refine w_t (np := 79) (l2 := [some (eR a0), some (eI (a1)), some (eI (v1)), some (eI (0))]) (s2 := [eI (0)]) rfl rfl rfl ?_
        refine b_ieq (t1 := 86) (t2 := 82) rfl rfl rfl rfl (fun g13 => ?_) (fun g13 => absurd g13 (by decide))
        refine w_t (np := 87) (l2 := [some (eR a0), some (eI (a1)), some (eI (v1)), some (eI (0))]) (s2 := [eI (-1)]) rfl rfl rfl ?_
        exact b_ri rfl rfl (K (-1) (by decide))
      · refine w_t (np := 31) (l2 := [some (eR a0), some (eI (a1)), some (eI (v1)), none]) (s2 := [eR a0]) rfl (s_an rfl (pos_g hI gA0 (by decide))) rfl ?_
        refine w_gf (np := 34) (v := eR v4) rfl rfl (hI.kd gA0 (by decide) (n := 15) rfl) (by rw [e5]; rfl) ?_
        refine w_t (np := 35) (l2 := [some (eR a0), some (eI (a1)), some (eI (v1)), none]) (s2 := [eI (v1), eR v4]) rfl rfl rfl ?_
        refine w_t (np := 36) (l2 := [some (eR a0), some (eI (a1)), some (eI (v1)), none]) (s2 := [eI (1), eI (v1), eR v4]) rfl rfl rfl ?_
        refine w_cw (np := 39) (as := [eI (v1), eI (1)]) (l2 := [some (eR v4), some (eI (v1)), some (eI (1))]) (rest := []) rfl rfl rfl (Nat.ble_eq.mp rfl) rfl rfl rfl (hI.kd b6 (by decide) (n := 8) rfl) rfl ?_
        refine s_21 (a1 := v1) (a2 := 1) hI b6 (by omega) (by decide) ?_
        intro v13 b14
        show ex_q (dt_fg L ρ) rc (d + 2, (117, 39, [some (eR a0), some (eI (a1)), some (eI (v1)), none], [eI (v13)]), f :: F, μ)
        refine w_t (np := 40) (l2 := [some (eR a0), some (eI (a1)), some (eI (v1)), none]) (s2 := [eR a0, eI (v13)]) rfl (s_an rfl (pos_g hI gA0 (by decide))) rfl ?_
        refine w_gf (np := 43) (v := eR v4) rfl rfl (hI.kd gA0 (by decide) (n := 15) rfl) (by rw [e5]; rfl) ?_
        refine w_t (np := 44) (l2 := [some (eR a0), some (eI (a1)), some (eI (v1)), none]) (s2 := [eI (a1), eR v4, eI (v13)]) rfl rfl rfl ?_
        refine w_t (np := 45) (l2 := [some (eR a0), some (eI (a1)), some (eI (v1)), none]) (s2 := [eI (1), eI (a1), eR v4, eI (v13)]) rfl rfl rfl ?_
        refine w_cw (np := 48) (as := [eI (a1), eI (1)]) (l2 := [some (eR v4), some (eI (a1)), some (eI (1))]) (rest := [eI (v13)]) rfl rfl rfl (Nat.ble_eq.mp rfl) rfl rfl rfl (hI.kd b6 (by decide) (n := 8) rfl) rfl ?_
        refine s_21 (a1 := a1) (a2 := 1) hI b6 (by omega) (by decide) ?_
        intro v15 b16
        show ex_q (dt_fg L ρ) rc (d + 2, (117, 48, [some (eR a0), some (eI (a1)), some (eI (v1)), none], [eI (v15), eI (v13)]), f :: F, μ)
        refine b_cne (t1 := 76) (t2 := 51) rfl rfl rfl (ev_w_in (by omega) (by omega)) (ev_w_in (by omega) (by omega)) (fun g17 => ?_) (fun g17 => ?_)
        · refine w_t (np := 77) (l2 := [some (eR a0), some (eI (a1)), some (eI (v1)), none]) (s2 := [eI (0)]) rfl rfl rfl ?_
          refine w_t (np := 78) (l2 := [some (eR a0), some (eI (a1)), some (eI (v1)), some (eI (0))]) (s2 := []) rfl rfl rfl ?_
          refine w_t (np := 79) (l2 := [some (eR a0), some (eI (a1)), some (eI (v1)), some (eI (0))]) (s2 := [eI (0)]) rfl rfl rfl ?_
          refine b_ieq (t1 := 86) (t2 := 82) rfl rfl rfl rfl (fun g18 => ?_) (fun g18 => absurd g18 (by decide))
          refine w_t (np := 87) (l2 := [some (eR a0), some (eI (a1)), some (eI (v1)), some (eI (0))]) (s2 := [eI (-1)]) rfl rfl rfl ?_
          exact b_ri rfl rfl (K (-1) (by decide))
        · refine w_t (np := 52) (l2 := [some (eR a0), some (eI (a1)), some (eI (v1)), none]) (s2 := [eR a0]) rfl (s_an rfl (pos_g hI gA0 (by decide))) rfl ?_
          refine w_gf (np := 55) (v := eR v4) rfl rfl (hI.kd gA0 (by decide) (n := 15) rfl) (by rw [e5]; rfl) ?_
          refine w_t (np := 56) (l2 := [some (eR a0), some (eI (a1)), some (eI (v1)), none]) (s2 := [eI (v1), eR v4]) rfl rfl rfl ?_
          refine w_t (np := 57) (l2 := [some (eR a0), some (eI (a1)), some (eI (v1)), none]) (s2 := [eI (2), eI (v1), eR v4]) rfl rfl rfl ?_
          refine w_cw (np := 60) (as := [eI (v1), eI (2)]) (l2 := [some (eR v4), some (eI (v1)), some (eI (2))]) (rest := []) rfl rfl rfl (Nat.ble_eq.mp rfl) rfl rfl rfl (hI.kd b6 (by decide) (n := 8) rfl) rfl ?_
          refine s_21 (a1 := v1) (a2 := 2) hI b6 (by omega) (by decide) ?_
          intro v18 b19
          show ex_q (dt_fg L ρ) rc (d + 2, (117, 60, [some (eR a0), some (eI (a1)), some (eI (v1)), none], [eI (v18)]), f :: F, μ)
          refine w_t (np := 61) (l2 := [some (eR a0), some (eI (a1)), some (eI (v1)), none]) (s2 := [eR a0, eI (v18)]) rfl (s_an rfl (pos_g hI gA0 (by decide))) rfl ?_
          refine w_gf (np := 64) (v := eR v4) rfl rfl (hI.kd gA0 (by decide) (n := 15) rfl) (by rw [e5]; rfl) ?_
          refine w_t (np := 65) (l2 := [some (eR a0), some (eI (a1)), some (eI (v1)), none]) (s2 := [eI (a1), eR v4, eI (v18)]) rfl rfl rfl ?_
          refine w_t (np := 66) (l2 := [some (eR a0), some (eI (a1)), some (eI (v1)), none]) (s2 := [eI (2), eI (a1), eR v4, eI (v18)]) rfl rfl rfl ?_
          refine w_cw (np := 69) (as := [eI (a1), eI (2)]) (l2 := [some (eR v4), some (eI (a1)), some (eI (2))]) (rest := [eI (v18)]) rfl rfl rfl (Nat.ble_eq.mp rfl) rfl rfl rfl (hI.kd b6 (by decide) (n := 8) rfl) rfl ?_
          refine s_21 (a1 := a1) (a2 := 2) hI b6 (by omega) (by decide) ?_
          intro v20 b21
          show ex_q (dt_fg L ρ) rc (d + 2, (117, 69, [some (eR a0), some (eI (a1)), some (eI (v1)), none], [eI (v20), eI (v18)]), f :: F, μ)
          refine b_cne (t1 := 76) (t2 := 72) rfl rfl rfl (ev_w_in (by omega) (by omega)) (ev_w_in (by omega) (by omega)) (fun g22 => ?_) (fun g22 => ?_)
          · refine w_t (np := 77) (l2 := [some (eR a0), some (eI (a1)), some (eI (v1)), none]) (s2 := [eI (0)]) rfl rfl rfl ?_
            refine w_t (np := 78) (l2 := [some (eR a0), some (eI (a1)), some (eI (v1)), some (eI (0))]) (s2 := []) rfl rfl rfl ?_
            refine w_t (np := 79) (l2 := [some (eR a0), some (eI (a1)), some (eI (v1)), some (eI (0))]) (s2 := [eI (0)]) rfl rfl rfl ?_
            refine b_ieq (t1 := 86) (t2 := 82) rfl rfl rfl rfl (fun g23 => ?_) (fun g23 => absurd g23 (by decide))
            refine w_t (np := 87) (l2 := [some (eR a0), some (eI (a1)), some (eI (v1)), some (eI (0))]) (s2 := [eI (-1)]) rfl rfl rfl ?_
            exact b_ri rfl rfl (K (-1) (by decide))
          · refine w_t (np := 73) (l2 := [some (eR a0), some (eI (a1)), some (eI (v1)), none]) (s2 := [eI (1)]) rfl rfl rfl ?_
            refine w_go (t1 := 77) rfl rfl ?_
            refine w_t (np := 78) (l2 := [some (eR a0), some (eI (a1)), some (eI (v1)), some (eI (1))]) (s2 := []) rfl rfl rfl ?_
            refine w_t (np := 79) (l2 := [some (eR a0), some (eI (a1)), some (eI (v1)), some (eI (1))]) (s2 := [eI (1)]) rfl rfl rfl ?_
            refine b_ieq (t1 := 86) (t2 := 82) rfl rfl rfl rfl (fun g23 => absurd g23 (by decide)) (fun g23 => ?_)
            refine w_t (np := 83) (l2 := [some (eR a0), some (eI (a1)), some (eI (v1)), some (eI (1))]) (s2 := [eI (v1)]) rfl rfl rfl ?_
            refine w_go (t1 := 87) rfl rfl ?_
            exact b_ri rfl rfl (K (v1) (by omega))
    · refine w_t (np := 16) (l2 := [some (eR a0), some (eI (a1)), some (eI (v1)), none]) (s2 := [eI (v1), eR v4]) rfl rfl rfl ?_
      refine w_cw (np := 19) (as := [eI (v1)]) (l2 := [some (eR v4), some (eI (v1))]) (rest := []) rfl rfl rfl (Nat.ble_eq.mp rfl) rfl rfl rfl (hI.kd b6 (by decide) (n := 8) rfl) rfl ?_
      refine s_19_2 (a1 := v1) hI b6 (by omega) ?_
      intro v8 b9
      show ex_q (dt_fg L ρ) rc (d + 2, (117, 19, [some (eR a0), some (eI (a1)), some (eI (v1)), none], [eI (v8)]), f :: F, μ)
      refine w_t (np := 20) (l2 := [some (eR a0), some (eI (a1)), some (eI (v1)), none]) (s2 := [eR a0, eI (v8)]) rfl (s_an rfl (pos_g hI gA0 (by decide))) rfl ?_
      refine w_gf (np := 23) (v := eR v4) rfl rfl (hI.kd gA0 (by decide) (n := 15) rfl) (by rw [e5]; rfl) ?_
      refine w_t (np := 24) (l2 := [some (eR a0), some (eI (a1)), some (eI (v1)), none]) (s2 := [eI (a1), eR v4, eI (v8)]) rfl rfl rfl ?_
      refine w_cw (np := 27) (as := [eI (a1)]) (l2 := [some (eR v4), some (eI (a1))]) (rest := [eI (v8)]) rfl rfl rfl (Nat.ble_eq.mp rfl) rfl rfl rfl (hI.kd b6 (by decide) (n := 8) rfl) rfl ?_
      refine s_19_2 (a1 := a1) hI b6 (by omega) ?_
      intro v10 b11
      show ex_q (dt_fg L ρ) rc (d + 2, (117, 27, [some (eR a0), some (eI (a1)), some (eI (v1)), none], [eI (v10), eI (v8)]), f :: F, μ)
      refine b_cne (t1 := 76) (t2 := 30) rfl rfl rfl (ev_w_in (by omega) (by omega)) (ev_w_in (by omega) (by omega)) (fun g12 => ?_) (fun g12 => ?_)
      · refine w_t (np := 77) (l2 := [some (eR a0), some (eI (a1)), some (eI (v1)), none]) (s2 := [eI (0)]) rfl rfl rfl ?_
        refine w_t (np := 78) (l2 := [some (eR a0), some (eI (a1)), some (eI (v1)), some (eI (0))]) (s2 := []) rfl rfl rfl ?_
        refine w_t (np := 79) (l2 := [some (eR a0), some (eI (a1)), some (eI (v1)), some (eI (0))]) (s2 := [eI (0)]) rfl rfl rfl ?_
        refine b_ieq (t1 := 86) (t2 := 82) rfl rfl rfl rfl (fun g13 => ?_) (fun g13 => absurd g13 (by decide))
        refine w_t (np := 87) (l2 := [some (eR a0), some (eI (a1)), some (eI (v1)), some (eI (0))]) (s2 := [eI (-1)]) rfl rfl rfl ?_
        exact b_ri rfl rfl (K (-1) (by decide))
      · refine w_t (np := 31) (l2 := [some (eR a0), some (eI (a1)), some (eI (v1)), none]) (s2 := [eR a0]) rfl (s_an rfl (pos_g hI gA0 (by decide))) rfl ?_
        refine w_gf (np := 34) (v := eR v4) rfl rfl (hI.kd gA0 (by decide) (n := 15) rfl) (by rw [e5]; rfl) ?_
        refine w_t (np := 35) (l2 := [some (eR a0), some (eI (a1)), some (eI (v1)), none]) (s2 := [eI (v1), eR v4]) rfl rfl rfl ?_
        refine w_t (np := 36) (l2 := [some (eR a0), some (eI (a1)), some (eI (v1)), none]) (s2 := [eI (1), eI (v1), eR v4]) rfl rfl rfl ?_
        refine w_cw (np := 39) (as := [eI (v1), eI (1)]) (l2 := [some (eR v4), some (eI (v1)), some (eI (1))]) (rest := []) rfl rfl rfl (Nat.ble_eq.mp rfl) rfl rfl rfl (hI.kd b6 (by decide) (n := 8) rfl) rfl ?_
        refine s_21_2 (a1 := v1) (a2 := 1) hI b6 (by omega) (by decide) ?_
        intro v13 b14
        show ex_q (dt_fg L ρ) rc (d + 2, (117, 39, [some (eR a0), some (eI (a1)), some (eI (v1)), none], [eI (v13)]), f :: F, μ)
        refine w_t (np := 40) (l2 := [some (eR a0), some (eI (a1)), some (eI (v1)), none]) (s2 := [eR a0, eI (v13)]) rfl (s_an rfl (pos_g hI gA0 (by decide))) rfl ?_
        refine w_gf (np := 43) (v := eR v4) rfl rfl (hI.kd gA0 (by decide) (n := 15) rfl) (by rw [e5]; rfl) ?_
        refine w_t (np := 44) (l2 := [some (eR a0), some (eI (a1)), some (eI (v1)), none]) (s2 := [eI (a1), eR v4, eI (v13)]) rfl rfl rfl ?_
        refine w_t (np := 45) (l2 := [some (eR a0), some (eI (a1)), some (eI (v1)), none]) (s2 := [eI (1), eI (a1), eR v4, eI (v13)]) rfl rfl rfl ?_
        refine w_cw (np := 48) (as := [eI (a1), eI (1)]) (l2 := [some (eR v4), some (eI (a1)), some (eI (1))]) (rest := [eI (v13)]) rfl rfl rfl (Nat.ble_eq.mp rfl) rfl rfl rfl (hI.kd b6 (by decide) (n := 8) rfl) rfl ?_
        refine s_21_2 (a1 := a1) (a2 := 1) hI b6 (by omega) (by decide) ?_
        intro v15 b16
        show ex_q (dt_fg L ρ) rc (d + 2, (117, 48, [some (eR a0), some (eI (a1)), some (eI (v1)), none], [eI (v15), eI (v13)]), f :: F, μ)
        refine b_cne (t1 := 76) (t2 := 51) rfl rfl rfl (ev_w_in (by omega) (by omega)) (ev_w_in (by omega) (by omega)) (fun g17 => ?_) (fun g17 => ?_)
        · refine w_t (np := 77) (l2 := [some (eR a0), some (eI (a1)), some (eI (v1)), none]) (s2 := [eI (0)]) rfl rfl rfl ?_
          refine w_t (np := 78) (l2 := [some (eR a0), some (eI (a1)), some (eI (v1)), some (eI (0))]) (s2 := []) rfl rfl rfl ?_
          refine w_t (np := 79) (l2 := [some (eR a0), some (eI (a1)), some (eI (v1)), some (eI (0))]) (s2 := [eI (0)]) rfl rfl rfl ?_
          refine b_ieq (t1 := 86) (t2 := 82) rfl rfl rfl rfl (fun g18 => ?_) (fun g18 => absurd g18 (by decide))
          refine w_t (np := 87) (l2 := [some (eR a0), some (eI (a1)), some (eI (v1)), some (eI (0))]) (s2 := [eI (-1)]) rfl rfl rfl ?_
          exact b_ri rfl rfl (K (-1) (by decide))
        · refine w_t (np := 52) (l2 := [some (eR a0), some (eI (a1)), some (eI (v1)), none]) (s2 := [eR a0]) rfl (s_an rfl (pos_g hI gA0 (by decide))) rfl ?_
          refine w_gf (np := 55) (v := eR v4) rfl rfl (hI.kd gA0 (by decide) (n := 15) rfl) (by rw [e5]; rfl) ?_
          refine w_t (np := 56) (l2 := [some (eR a0), some (eI (a1)), some (eI (v1)), none]) (s2 := [eI (v1), eR v4]) rfl rfl rfl ?_
          refine w_t (np := 57) (l2 := [some (eR a0), some (eI (a1)), some (eI (v1)), none]) (s2 := [eI (2), eI (v1), eR v4]) rfl rfl rfl ?_
          refine w_cw (np := 60) (as := [eI (v1), eI (2)]) (l2 := [some (eR v4), some (eI (v1)), some (eI (2))]) (rest := []) rfl rfl rfl (Nat.ble_eq.mp rfl) rfl rfl rfl (hI.kd b6 (by decide) (n := 8) rfl) rfl ?_
          refine s_21_2 (a1 := v1) (a2 := 2) hI b6 (by omega) (by decide) ?_
          intro v18 b19
          show ex_q (dt_fg L ρ) rc (d + 2, (117, 60, [some (eR a0), some (eI (a1)), some (eI (v1)), none], [eI (v18)]), f :: F, μ)
          refine w_t (np := 61) (l2 := [some (eR a0), some (eI (a1)), some (eI (v1)), none]) (s2 := [eR a0, eI (v18)]) rfl (s_an rfl (pos_g hI gA0 (by decide))) rfl ?_
          refine w_gf (np := 64) (v := eR v4) rfl rfl (hI.kd gA0 (by decide) (n := 15) rfl) (by rw [e5]; rfl) ?_
          refine w_t (np := 65) (l2 := [some (eR a0), some (eI (a1)), some (eI (v1)), none]) (s2 := [eI (a1), eR v4, eI (v18)]) rfl rfl rfl ?_
          refine w_t (np := 66) (l2 := [some (eR a0), some (eI (a1)), some (eI (v1)), none]) (s2 := [eI (2), eI (a1), eR v4, eI (v18)]) rfl rfl rfl ?_
          refine w_cw (np := 69) (as := [eI (a1), eI (2)]) (l2 := [some (eR v4), some (eI (a1)), some (eI (2))]) (rest := [eI (v18)]) rfl rfl rfl (Nat.ble_eq.mp rfl) rfl rfl rfl (hI.kd b6 (by decide) (n := 8) rfl) rfl ?_
          refine s_21_2 (a1 := a1) (a2 := 2) hI b6 (by omega) (by decide) ?_
          intro v20 b21
          show ex_q (dt_fg L ρ) rc (d + 2, (117, 69, [some (eR a0), some (eI (a1)), some (eI (v1)), none], [eI (v20), eI (v18)]), f :: F, μ)
          refine b_cne (t1 := 76) (t2 := 72) rfl rfl rfl (ev_w_in (by omega) (by omega)) (ev_w_in (by omega) (by omega)) (fun g22 => ?_) (fun g22 => ?_)
          · refine w_t (np := 77) (l2 := [some (eR a0), some (eI (a1)), some (eI (v1)), none]) (s2 := [eI (0)]) rfl rfl rfl ?_
            refine w_t (np := 78) (l2 := [some (eR a0), some (eI (a1)), some (eI (v1)), some (eI (0))]) (s2 := []) rfl rfl rfl ?_
            refine w_t (np := 79) (l2 := [some (eR a0), some (eI (a1)), some (eI (v1)), some (eI (0))]) (s2 := [eI (0)]) rfl rfl rfl ?_
            refine b_ieq (t1 := 86) (t2 := 82) rfl rfl rfl rfl (fun g23 => ?_) (fun g23 => absurd g23 (by decide))
            refine w_t (np := 87) (l2 := [some (eR a0), some (eI (a1)), some (eI (v1)), some (eI (0))]) (s2 := [eI (-1)]) rfl rfl rfl ?_
            exact b_ri rfl rfl (K (-1) (by decide))
          · refine w_t (np := 73) (l2 := [some (eR a0), some (eI (a1)), some (eI (v1)), none]) (s2 := [eI (1)]) rfl rfl rfl ?_
            refine w_go (t1 := 77) rfl rfl ?_
            refine w_t (np := 78) (l2 := [some (eR a0), some (eI (a1)), some (eI (v1)), some (eI (1))]) (s2 := []) rfl rfl rfl ?_
            refine w_t (np := 79) (l2 := [some (eR a0), some (eI (a1)), some (eI (v1)), some (eI (1))]) (s2 := [eI (1)]) rfl rfl rfl ?_
            refine b_ieq (t1 := 86) (t2 := 82) rfl rfl rfl rfl (fun g23 => absurd g23 (by decide)) (fun g23 => ?_)
            refine w_t (np := 83) (l2 := [some (eR a0), some (eI (a1)), some (eI (v1)), some (eI (1))]) (s2 := [eI (v1)]) rfl rfl rfl ?_
            refine w_go (t1 := 87) rfl rfl ?_
            exact b_ri rfl rfl (K (v1) (by omega))
theorem s_118 {L : Nat} {ρ : Nat → Int} {rc : eQ} {d : Nat} {f : eFr} {F : List eFr} {μ : eM} {g : Nat → Nat} {a0 : Nat} {a1 : Int} (hI : SI g μ) (gA0 : g a0 = 35) (bA1 : -2147483648 ≤ a1 ∧ a1 ≤ 2147483647) (K : ∀ (v : Int), (-2147483648 ≤ v ∧ v ≤ 2147483647) → ex_q (dt_fg L ρ) rc (d + 2, (f.1, f.2.1, f.2.2.1, eI v :: f.2.2.2), F, μ)) : ex_q (dt_fg L ρ) rc (d + 1, (118, 0, [some (eR a0), some (eI (a1))], []), f :: F, μ) := by
  refine w_t (np := 1) (l2 := [some (eR a0), some (eI (a1))]) (s2 := [eR a0]) rfl (s_an rfl (pos_g hI gA0 (by decide))) rfl ?_
  refine j_gr (np := 4) rfl rfl hI gA0 (by decide) (n := 15) rfl rfl rfl ?_
  intro v1 e2 b3 z4
  rcases hor2 b3 with b3 | b3
  · refine w_t (np := 5) (l2 := [some (eR a0), some (eI (a1))]) (s2 := [eI (a1), eR v1]) rfl rfl rfl ?_
    refine w_cw (np := 8) (as := [eI (a1)]) (l2 := [some (eR v1), some (eI (a1))]) (rest := []) rfl rfl rfl (Nat.ble_eq.mp rfl) rfl rfl rfl (hI.kd b3 (by decide) (n := 8) rfl) rfl ?_
    refine w_t (np := 1) (l2 := [some (eR v1), some (eI (a1))]) (s2 := [eI (a1)]) rfl rfl rfl ?_
    refine b_ilt (t1 := 12) (t2 := 4) rfl rfl rfl (ev_w_in (by omega) (by omega)) (fun g5 => ?_) (fun g5 => ?_)
    · have b6 : -2147483648 ≤ a1 ∧ a1 ≤ -1 := by omega
      refine w_t (np := 13) (l2 := [some (eR v1), some (eI (a1))]) (s2 := [eI (1)]) rfl rfl rfl ?_
      refine w_go (t1 := 17) rfl rfl ?_
      refine b_rz rfl rfl (Or.inr rfl) ?_
      show ex_q (dt_fg L ρ) rc (d + 1, (118, 8, [some (eR a0), some (eI (a1))], [eI (1)]), f :: F, μ)
      refine b_ieq (t1 := 15) (t2 := 11) rfl rfl rfl rfl (fun g6 => absurd g6 (by decide)) (fun g6 => ?_)
      refine w_t (np := 12) (l2 := [some (eR a0), some (eI (a1))]) (s2 := [eI (-1)]) rfl rfl rfl ?_
      refine w_go (t1 := 21) rfl rfl ?_
      exact b_ri rfl rfl (K (-1) (by decide))
    · have b6 : 0 ≤ a1 ∧ a1 ≤ 2147483647 := by omega
      refine w_t (np := 5) (l2 := [some (eR v1), some (eI (a1))]) (s2 := [eI (a1)]) rfl rfl rfl ?_
      refine w_t (np := 6) (l2 := [some (eR v1), some (eI (a1))]) (s2 := [eR v1, eI (a1)]) rfl (s_an rfl (pos_g hI b3 (by decide))) rfl ?_
      refine j_gi (np := 9) rfl rfl rfl hI b3 (by decide) (n := 8) rfl rfl (lo := 0) (hi := 50) rfl ?_
      intro v6 e7 b8
      refine b_clt (t1 := 16) (t2 := 12) rfl rfl rfl (ev_w_in (by omega) (by omega)) (ev_w_in (by omega) (by omega)) (fun g9 => ?_) (fun g9 => ?_)
      · have b10 : 0 ≤ a1 ∧ a1 ≤ 49 := by omega
        have b11 : 1 ≤ v6 ∧ v6 ≤ 50 := by omega
        refine w_t (np := 17) (l2 := [some (eR v1), some (eI (a1))]) (s2 := [eI (0)]) rfl rfl rfl ?_
        refine b_rz rfl rfl (Or.inl rfl) ?_
        show ex_q (dt_fg L ρ) rc (d + 1, (118, 8, [some (eR a0), some (eI (a1))], [eI (0)]), f :: F, μ)
        refine b_ieq (t1 := 15) (t2 := 11) rfl rfl rfl rfl (fun g10 => ?_) (fun g10 => absurd g10 (by decide))
        refine w_t (np := 16) (l2 := [some (eR a0), some (eI (a1))]) (s2 := [eR a0]) rfl (s_an rfl (pos_g hI gA0 (by decide))) rfl ?_
        refine j_gr (np := 19) rfl rfl hI gA0 (by decide) (n := 15) rfl rfl rfl ?_
        intro v11 e12 b13 z14
        have b13 : g v11 = 39 := Nat.eq_of_beq_eq_true b13
        refine w_t (np := 20) (l2 := [some (eR a0), some (eI (a1))]) (s2 := [eI (a1), eR v11]) rfl rfl rfl ?_
        refine j_al (np := 21) rfl rfl hI b13 (by decide) (n := 890) rfl rfl (lo := -2147483648) (hi := 2147483647) (fun _ => rfl) (by omega) (by omega) ?_
        intro v15 e16 b17
        exact b_ri rfl rfl (K (v15) (by omega))
      · refine w_t (np := 13) (l2 := [some (eR v1), some (eI (a1))]) (s2 := [eI (1)]) rfl rfl rfl ?_
        refine w_go (t1 := 17) rfl rfl ?_
        refine b_rz rfl rfl (Or.inr rfl) ?_
        show ex_q (dt_fg L ρ) rc (d + 1, (118, 8, [some (eR a0), some (eI (a1))], [eI (1)]), f :: F, μ)
        refine b_ieq (t1 := 15) (t2 := 11) rfl rfl rfl rfl (fun g10 => absurd g10 (by decide)) (fun g10 => ?_)
        refine w_t (np := 12) (l2 := [some (eR a0), some (eI (a1))]) (s2 := [eI (-1)]) rfl rfl rfl ?_
        refine w_go (t1 := 21) rfl rfl ?_
        exact b_ri rfl rfl (K (-1) (by decide))
  · refine w_t (np := 5) (l2 := [some (eR a0), some (eI (a1))]) (s2 := [eI (a1), eR v1]) rfl rfl rfl ?_
    refine w_cw (np := 8) (as := [eI (a1)]) (l2 := [some (eR v1), some (eI (a1))]) (rest := []) rfl rfl rfl (Nat.ble_eq.mp rfl) rfl rfl rfl (hI.kd b3 (by decide) (n := 8) rfl) rfl ?_
    refine w_t (np := 1) (l2 := [some (eR v1), some (eI (a1))]) (s2 := [eI (a1)]) rfl rfl rfl ?_
    refine b_ilt (t1 := 12) (t2 := 4) rfl rfl rfl (ev_w_in (by omega) (by omega)) (fun g5 => ?_) (fun g5 => ?_)
    · have b6 : -2147483648 ≤ a1 ∧ a1 ≤ -1 := by omega
      refine w_t (np := 13) (l2 := [some (eR v1), some (eI (a1))]) (s2 := [eI (1)]) rfl rfl rfl ?_
      refine w_go (t1 := 17) rfl rfl ?_
      refine b_rz rfl rfl (Or.inr rfl) ?_
      show ex_q (dt_fg L ρ) rc (d + 1, (118, 8, [some (eR a0), some (eI (a1))], [eI (1)]), f :: F, μ)
      refine b_ieq (t1 := 15) (t2 := 11) rfl rfl rfl rfl (fun g6 => absurd g6 (by decide)) (fun g6 => ?_)
      refine w_t (np := 12) (l2 := [some (eR a0), some (eI (a1))]) (s2 := [eI (-1)]) rfl rfl rfl ?_
      refine w_go (t1 := 21) rfl rfl ?_
      exact b_ri rfl rfl (K (-1) (by decide))
    · have b6 : 0 ≤ a1 ∧ a1 ≤ 2147483647 := by omega
      refine w_t (np := 5) (l2 := [some (eR v1), some (eI (a1))]) (s2 := [eI (a1)]) rfl rfl rfl ?_
      refine w_t (np := 6) (l2 := [some (eR v1), some (eI (a1))]) (s2 := [eR v1, eI (a1)]) rfl (s_an rfl (pos_g hI b3 (by decide))) rfl ?_
      refine j_gi (np := 9) rfl rfl rfl hI b3 (by decide) (n := 8) rfl rfl (lo := 0) (hi := 890) rfl ?_
      intro v6 e7 b8
      refine b_clt (t1 := 16) (t2 := 12) rfl rfl rfl (ev_w_in (by omega) (by omega)) (ev_w_in (by omega) (by omega)) (fun g9 => ?_) (fun g9 => ?_)
      · have b10 : 0 ≤ a1 ∧ a1 ≤ 889 := by omega
        have b11 : 1 ≤ v6 ∧ v6 ≤ 890 := by omega
        refine w_t (np := 17) (l2 := [some (eR v1), some (eI (a1))]) (s2 := [eI (0)]) rfl rfl rfl ?_
        refine b_rz rfl rfl (Or.inl rfl) ?_
        show ex_q (dt_fg L ρ) rc (d + 1, (118, 8, [some (eR a0), some (eI (a1))], [eI (0)]), f :: F, μ)
        refine b_ieq (t1 := 15) (t2 := 11) rfl rfl rfl rfl (fun g10 => ?_) (fun g10 => absurd g10 (by decide))
        refine w_t (np := 16) (l2 := [some (eR a0), some (eI (a1))]) (s2 := [eR a0]) rfl (s_an rfl (pos_g hI gA0 (by decide))) rfl ?_
        refine j_gr (np := 19) rfl rfl hI gA0 (by decide) (n := 15) rfl rfl rfl ?_
        intro v11 e12 b13 z14
        have b13 : g v11 = 39 := Nat.eq_of_beq_eq_true b13
        refine w_t (np := 20) (l2 := [some (eR a0), some (eI (a1))]) (s2 := [eI (a1), eR v11]) rfl rfl rfl ?_
        refine j_al (np := 21) rfl rfl hI b13 (by decide) (n := 890) rfl rfl (lo := -2147483648) (hi := 2147483647) (fun _ => rfl) (by omega) (by omega) ?_
        intro v15 e16 b17
        exact b_ri rfl rfl (K (v15) (by omega))
      · refine w_t (np := 13) (l2 := [some (eR v1), some (eI (a1))]) (s2 := [eI (1)]) rfl rfl rfl ?_
        refine w_go (t1 := 17) rfl rfl ?_
        refine b_rz rfl rfl (Or.inr rfl) ?_
        show ex_q (dt_fg L ρ) rc (d + 1, (118, 8, [some (eR a0), some (eI (a1))], [eI (1)]), f :: F, μ)
        refine b_ieq (t1 := 15) (t2 := 11) rfl rfl rfl rfl (fun g10 => absurd g10 (by decide)) (fun g10 => ?_)
        refine w_t (np := 12) (l2 := [some (eR a0), some (eI (a1))]) (s2 := [eI (-1)]) rfl rfl rfl ?_
        refine w_go (t1 := 21) rfl rfl ?_
        exact b_ri rfl rfl (K (-1) (by decide))
def l_121 : List Nat := [8974, 8975]
theorem s_121 {L : Nat} {ρ : Nat → Int} {rc : eQ} {d : Nat} {f : eFr} {F : List eFr} {μ : eM} {g : Nat → Nat} {a0 : Nat} {a1 : Int} {a2 : Int} (hI : SI g μ) (gA0 : g a0 = 35) (bA1 : 0 ≤ a1 ∧ a1 ≤ 889) (bA2 : 0 ≤ a2 ∧ a2 ≤ 1) (K : ∀ (μ2 : eM), SI g μ2 → Fr l_121 0 0 g μ μ2 → ex_q (dt_fg L ρ) rc (d + 4, (f.1, f.2.1, f.2.2.1, f.2.2.2), F, μ2)) : ex_q (dt_fg L ρ) rc (d + 3, (121, 0, [some (eR a0), some (eI (a1)), some (eI (a2)), none, none, none, none, none, none], []), f :: F, μ) := by
  have F0 : Fr l_121 0 0 g μ μ := Fr.r
  refine w_t (np := 1) (l2 := [some (eR a0), some (eI (a1)), some (eI (a2)), none, none, none, none, none, none]) (s2 := [eI (a1)]) rfl rfl rfl ?_
  refine w_t (np := 2) (l2 := [some (eR a0), some (eI (a1)), some (eI (a2)), some (eI (a1)), none, none, none, none, none]) (s2 := []) rfl rfl rfl ?_
  refine w_t (np := 3) (l2 := [some (eR a0), some (eI (a1)), some (eI (a2)), some (eI (a1)), none, none, none, none, none]) (s2 := [eI (a2)]) rfl rfl rfl ?_
  refine w_t (np := 5) (l2 := [some (eR a0), some (eI (a1)), some (eI (a2)), some (eI (a1)), some (eI (a2)), none, none, none, none]) (s2 := []) rfl rfl rfl ?_
  refine w_t (np := 6) (l2 := [some (eR a0), some (eI (a1)), some (eI (a2)), some (eI (a1)), some (eI (a2)), none, none, none, none]) (s2 := [eI (0)]) rfl rfl rfl ?_
  refine w_t (np := 8) (l2 := [some (eR a0), some (eI (a1)), some (eI (a2)), some (eI (a1)), some (eI (a2)), some (eI (0)), none, none, none]) (s2 := []) rfl rfl rfl ?_
  have hL8 : ∀ (n1 : Nat) (m12 : eM) (i3 : Int) (i5 : Int) (i7 : Int) (o9 : Option eV) (o10 : Option eV) (o11 : Option eV), SI g m12 → Fr l_121 0 0 g μ m12 → (0 ≤ i3 ∧ i3 ≤ 889) → (0 ≤ i5 ∧ i5 ≤ 1) → (0 ≤ i7 ∧ i7 ≤ 890) → n1 = (890 - i7).toNat → ex_q (dt_fg L ρ) rc (d + 3, (121, 8, [some (eR a0), some (eI (a1)), some (eI (a2)), some (eI (i3)), some (eI (i5)), some (eI (i7)), o9, o10, o11], []), f :: F, m12) := by
    intro n1
    induction n1 using Nat.strongRecOn with
    | _ n1 ih2 =>
    intro m12 i3 i5 i7 o9 o10 o11 I13 F14 b4 b6 b8 hn15
    refine w_t (np := 10) (l2 := [some (eR a0), some (eI (a1)), some (eI (a2)), some (eI (i3)), some (eI (i5)), some (eI (i7)), o9, o10, o11]) (s2 := [eI (i7)]) rfl rfl rfl ?_
    refine w_t (np := 11) (l2 := [some (eR a0), some (eI (a1)), some (eI (a2)), some (eI (i3)), some (eI (i5)), some (eI (i7)), o9, o10, o11]) (s2 := [eR a0, eI (i7)]) rfl (s_an rfl (pos_g I13 gA0 (by decide))) rfl ?_
    refine j_gr (np := 14) rfl rfl I13 gA0 (by decide) (n := 15) rfl rfl rfl ?_
    intro v16 e17 b18 z19
    rcases hor2 b18 with b18 | b18
    · refine j_gi (np := 17) rfl rfl rfl I13 b18 (by decide) (n := 8) rfl rfl (lo := 0) (hi := 50) rfl ?_
      intro v20 e21 b22
      refine b_cge (t1 := 124) (t2 := 20) rfl rfl rfl (ev_w_in (by omega) (by omega)) (ev_w_in (by omega) (by omega)) (fun g23 => ?_) (fun g23 => ?_)
      · exact v_rv rfl rfl (K m12 I13 F14)
      · have b24 : 0 ≤ i7 ∧ i7 ≤ 49 := by omega
        have b25 : 1 ≤ v20 ∧ v20 ≤ 50 := by omega
        refine w_t (np := 21) (l2 := [some (eR a0), some (eI (a1)), some (eI (a2)), some (eI (i3)), some (eI (i5)), some (eI (i7)), o9, o10, o11]) (s2 := [eR a0]) rfl (s_an rfl (pos_g I13 gA0 (by decide))) rfl ?_
        refine j_gr (np := 24) rfl rfl I13 gA0 (by decide) (n := 15) rfl rfl rfl ?_
        intro v24 e25 b26 z27
        have b26 : g v24 = 36 := Nat.eq_of_beq_eq_true b26
        refine w_t (np := 25) (l2 := [some (eR a0), some (eI (a1)), some (eI (a2)), some (eI (i3)), some (eI (i5)), some (eI (i7)), o9, o10, o11]) (s2 := [eI (3), eR v24]) rfl rfl rfl ?_
        refine w_t (np := 26) (l2 := [some (eR a0), some (eI (a1)), some (eI (a2)), some (eI (i3)), some (eI (i5)), some (eI (i7)), o9, o10, o11]) (s2 := [eI (i3), eI (3), eR v24]) rfl rfl rfl ?_
        obtain ⟨v28, e29⟩ : ∃ zz : Int, zz = (3) * (i3) := ⟨_, rfl⟩
        have b30 : 0 ≤ v28 ∧ v28 ≤ 2667 := by omega
        refine w_t (np := 27) (l2 := [some (eR a0), some (eI (a1)), some (eI (a2)), some (eI (i3)), some (eI (i5)), some (eI (i7)), o9, o10, o11]) (s2 := [eI (v28), eR v24]) rfl (b_imul (by rw [← e29]; exact ev_w_in (by omega) (by omega))) rfl ?_
        refine w_t (np := 29) (l2 := [some (eR a0), some (eI (a1)), some (eI (a2)), some (eI (i3)), some (eI (i5)), some (eI (i7)), o9, o10, o11]) (s2 := [eI (i5), eI (v28), eR v24]) rfl rfl rfl ?_
        obtain ⟨v31, e32⟩ : ∃ zz : Int, zz = (v28) + (i5) := ⟨_, rfl⟩
        have b33 : 0 ≤ v31 ∧ v31 ≤ 2668 := by omega
        refine w_t (np := 30) (l2 := [some (eR a0), some (eI (a1)), some (eI (a2)), some (eI (i3)), some (eI (i5)), some (eI (i7)), o9, o10, o11]) (s2 := [eI (v31), eR v24]) rfl (b_iadd (by rw [← e32]; exact ev_w_in (by omega) (by omega))) rfl ?_
        refine j_al (np := 31) rfl rfl I13 b26 (by decide) (n := 2670) rfl rfl (lo := -1) (hi := 2669) (fun _ => rfl) (by omega) (by omega) ?_
        intro v34 e35 b36
        refine w_t (np := 33) (l2 := [some (eR a0), some (eI (a1)), some (eI (a2)), some (eI (i3)), some (eI (i5)), some (eI (i7)), some (eI (v34)), o10, o11]) (s2 := []) rfl rfl rfl ?_
        refine w_t (np := 35) (l2 := [some (eR a0), some (eI (a1)), some (eI (a2)), some (eI (i3)), some (eI (i5)), some (eI (i7)), some (eI (v34)), o10, o11]) (s2 := [eI (v34)]) rfl rfl rfl ?_
        refine b_ige (t1 := 42) (t2 := 38) rfl rfl rfl (ev_w_in (by omega) (by omega)) (fun g37 => ?_) (fun g37 => ?_)
        · have b38 : 0 ≤ v34 ∧ v34 ≤ 2669 := by omega
          refine w_t (np := 44) (l2 := [some (eR a0), some (eI (a1)), some (eI (a2)), some (eI (i3)), some (eI (i5)), some (eI (i7)), some (eI (v34)), o10, o11]) (s2 := [eI (v34)]) rfl rfl rfl ?_
          refine w_t (np := 45) (l2 := [some (eR a0), some (eI (a1)), some (eI (a2)), some (eI (i3)), some (eI (i5)), some (eI (i7)), some (eI (v34)), o10, o11]) (s2 := [eI (3), eI (v34)]) rfl rfl rfl ?_
          obtain ⟨v38, e39, b40⟩ := h_idiv (a := v34) (k := 3) (by decide) (by decide) (show (-2147483648 : Int) ≤ v34 ∧ (v34 : Int) ≤ 2147483647 by omega)
          have b41 : 0 ≤ v38 ∧ v38 ≤ 889 := by omega
          refine w_t (np := 46) (l2 := [some (eR a0), some (eI (a1)), some (eI (a2)), some (eI (i3)), some (eI (i5)), some (eI (i7)), some (eI (v34)), o10, o11]) (s2 := [eI (v38)]) rfl (e39 _ _) rfl ?_
          refine w_t (np := 48) (l2 := [some (eR a0), some (eI (a1)), some (eI (a2)), some (eI (i3)), some (eI (i5)), some (eI (i7)), some (eI (v34)), some (eI (v38)), o11]) (s2 := []) rfl rfl rfl ?_
          refine w_t (np := 50) (l2 := [some (eR a0), some (eI (a1)), some (eI (a2)), some (eI (i3)), some (eI (i5)), some (eI (i7)), some (eI (v34)), some (eI (v38)), o11]) (s2 := [eI (v38)]) rfl rfl rfl ?_
          refine b_ige (t1 := 57) (t2 := 53) rfl rfl rfl (ev_w_in (by omega) (by omega)) (fun g42 => ?_) (fun g42 => False.elim (by omega))
          refine w_t (np := 58) (l2 := [some (eR a0), some (eI (a1)), some (eI (a2)), some (eI (i3)), some (eI (i5)), some (eI (i7)), some (eI (v34)), some (eI (v38)), o11]) (s2 := [eR a0]) rfl (s_an rfl (pos_g I13 gA0 (by decide))) rfl ?_
          refine w_t (np := 60) (l2 := [some (eR a0), some (eI (a1)), some (eI (a2)), some (eI (i3)), some (eI (i5)), some (eI (i7)), some (eI (v34)), some (eI (v38)), o11]) (s2 := [eI (v38), eR a0]) rfl rfl rfl ?_
          refine w_cw (np := 63) (as := [eI (v38)]) (l2 := [some (eR a0), some (eI (v38)), none, none]) (rest := []) rfl rfl rfl (Nat.ble_eq.mp rfl) rfl rfl rfl (I13.kd gA0 (by decide) (n := 15) rfl) rfl ?_
          refine s_117 (a1 := v38) I13 gA0 (by omega) ?_
          intro v43 b44
          show ex_q (dt_fg L ρ) rc (d + 3, (121, 63, [some (eR a0), some (eI (a1)), some (eI (a2)), some (eI (i3)), some (eI (i5)), some (eI (i7)), some (eI (v34)), some (eI (v38)), o11], [eI (v43)]), f :: F, m12)
          refine w_t (np := 65) (l2 := [some (eR a0), some (eI (a1)), some (eI (a2)), some (eI (i3)), some (eI (i5)), some (eI (i7)), some (eI (v34)), some (eI (v38)), some (eI (v43))]) (s2 := []) rfl rfl rfl ?_
          refine w_t (np := 67) (l2 := [some (eR a0), some (eI (a1)), some (eI (a2)), some (eI (i3)), some (eI (i5)), some (eI (i7)), some (eI (v34)), some (eI (v38)), some (eI (v43))]) (s2 := [eI (v43)]) rfl rfl rfl ?_
          refine b_ilt (t1 := 78) (t2 := 70) rfl rfl rfl (ev_w_in (by omega) (by omega)) (fun g45 => ?_) (fun g45 => ?_)
          · have b46 : -1 ≤ v43 ∧ v43 ≤ -1 := by omega
            exact v_rv rfl rfl (K m12 I13 F14)
          · have b46 : 0 ≤ v43 ∧ v43 ≤ 889 := by omega
            refine w_t (np := 72) (l2 := [some (eR a0), some (eI (a1)), some (eI (a2)), some (eI (i3)), some (eI (i5)), some (eI (i7)), some (eI (v34)), some (eI (v38)), some (eI (v43))]) (s2 := [eI (v34)]) rfl rfl rfl ?_
            refine w_t (np := 73) (l2 := [some (eR a0), some (eI (a1)), some (eI (a2)), some (eI (i3)), some (eI (i5)), some (eI (i7)), some (eI (v34)), some (eI (v38)), some (eI (v43))]) (s2 := [eI (3), eI (v34)]) rfl rfl rfl ?_
            obtain ⟨v46, e47, b48⟩ := h_irem (a := v34) (k := 3) (by decide) (by decide) (show (-2147483648 : Int) ≤ v34 ∧ (v34 : Int) ≤ 2147483647 by omega)
            have b49 : 0 ≤ v46 ∧ v46 ≤ 2 := by omega
            refine w_t (np := 74) (l2 := [some (eR a0), some (eI (a1)), some (eI (a2)), some (eI (i3)), some (eI (i5)), some (eI (i7)), some (eI (v34)), some (eI (v38)), some (eI (v43))]) (s2 := [eI (v46)]) rfl (e47 _ _) rfl ?_
            refine w_t (np := 75) (l2 := [some (eR a0), some (eI (a1)), some (eI (a2)), some (eI (i3)), some (eI (i5)), some (eI (i7)), some (eI (v34)), some (eI (v38)), some (eI (v43))]) (s2 := [eI (2), eI (v46)]) rfl rfl rfl ?_
            refine b_cne (t1 := 79) (t2 := 78) rfl rfl rfl (ev_w_in (by omega) (by omega)) rfl (fun g50 => ?_) (fun g50 => ?_)
            · have b51 : 0 ≤ v46 ∧ v46 ≤ 1 := by omega
              refine w_t (np := 80) (l2 := [some (eR a0), some (eI (a1)), some (eI (a2)), some (eI (i3)), some (eI (i5)), some (eI (i7)), some (eI (v34)), some (eI (v38)), some (eI (v43))]) (s2 := [eR a0]) rfl (s_an rfl (pos_g I13 gA0 (by decide))) rfl ?_
              refine w_t (np := 81) (l2 := [some (eR a0), some (eI (a1)), some (eI (a2)), some (eI (i3)), some (eI (i5)), some (eI (i7)), some (eI (v34)), some (eI (v38)), some (eI (v43))]) (s2 := [eR a0, eR a0]) rfl rfl rfl ?_
              refine j_gi (np := 84) rfl rfl rfl I13 gA0 (by decide) (n := 15) rfl rfl (lo := -2147483648) (hi := 2147483647) rfl ?_
              intro v51 e52 b53
              refine w_t (np := 85) (l2 := [some (eR a0), some (eI (a1)), some (eI (a2)), some (eI (i3)), some (eI (i5)), some (eI (i7)), some (eI (v34)), some (eI (v38)), some (eI (v43))]) (s2 := [eI (1), eI (v51), eR a0]) rfl rfl rfl ?_
              obtain ⟨v54, e55, b56⟩ : ∃ zz : Int, ev_w ((v51) + (1)) = zz ∧ (-2147483648 ≤ zz ∧ zz ≤ 2147483647) := ⟨_, rfl, hw_bd _⟩
              refine w_t (np := 86) (l2 := [some (eR a0), some (eI (a1)), some (eI (a2)), some (eI (i3)), some (eI (i5)), some (eI (i7)), some (eI (v34)), some (eI (v38)), some (eI (v43))]) (s2 := [eI (v54), eR a0]) rfl (b_iadd e55) rfl ?_
              refine j_pf (np := 89) (w := v54) rfl rfl I13 gA0 (by decide) (n := 15) rfl rfl (hO_i (lo := -2147483648) (hi := 2147483647) rfl (by omega)) ?_
              intro m57 I58 W59
              have F60 : Fr l_121 0 0 g μ m57 := F14.w W59 gA0 rfl
              refine w_t (np := 90) (l2 := [some (eR a0), some (eI (a1)), some (eI (a2)), some (eI (i3)), some (eI (i5)), some (eI (i7)), some (eI (v34)), some (eI (v38)), some (eI (v43))]) (s2 := [eR a0]) rfl (s_an rfl (pos_g I58 gA0 (by decide))) rfl ?_
              refine w_t (np := 91) (l2 := [some (eR a0), some (eI (a1)), some (eI (a2)), some (eI (i3)), some (eI (i5)), some (eI (i7)), some (eI (v34)), some (eI (v38)), some (eI (v43))]) (s2 := [eR a0, eR a0]) rfl (s_an rfl (pos_g I58 gA0 (by decide))) rfl ?_
              refine j_gi (np := 94) rfl rfl rfl I58 gA0 (by decide) (n := 15) rfl rfl (lo := -2147483648) (hi := 2147483647) rfl ?_
              intro v61 e62 b63
              refine w_t (np := 96) (l2 := [some (eR a0), some (eI (a1)), some (eI (a2)), some (eI (i3)), some (eI (i5)), some (eI (i7)), some (eI (v34)), some (eI (v38)), some (eI (v43))]) (s2 := [eI (v38), eI (v61), eR a0]) rfl rfl rfl ?_
              refine w_t (np := 98) (l2 := [some (eR a0), some (eI (a1)), some (eI (a2)), some (eI (i3)), some (eI (i5)), some (eI (i7)), some (eI (v34)), some (eI (v38)), some (eI (v43))]) (s2 := [eI (v43), eI (v38), eI (v61), eR a0]) rfl rfl rfl ?_
              refine w_cu (np := 101) (as := [eI (v38), eI (v43)]) (l2 := [some (eI (v38)), some (eI (v43))]) (rest := [eI (v61), eR a0]) rfl rfl rfl (Nat.ble_eq.mp rfl) rfl rfl rfl rfl ?_
              refine w_t (np := 1) (l2 := [some (eI (v38)), some (eI (v43))]) (s2 := [eI (v38)]) rfl rfl rfl ?_
              refine w_t (np := 2) (l2 := [some (eI (v38)), some (eI (v43))]) (s2 := [eI (v43), eI (v38)]) rfl rfl rfl ?_
              refine b_cgt (t1 := 9) (t2 := 5) rfl rfl rfl (ev_w_in (by omega) (by omega)) (ev_w_in (by omega) (by omega)) (fun g64 => ?_) (fun g64 => ?_)
              · have b65 : 1 ≤ v38 ∧ v38 ≤ 889 := by omega
                have b66 : 0 ≤ v43 ∧ v43 ≤ 888 := by omega
                refine w_t (np := 10) (l2 := [some (eI (v38)), some (eI (v43))]) (s2 := [eI (v43)]) rfl rfl rfl ?_
                refine b_ri rfl rfl ?_
                show ex_q (dt_fg L ρ) rc (d + 3, (121, 101, [some (eR a0), some (eI (a1)), some (eI (a2)), some (eI (i3)), some (eI (i5)), some (eI (i7)), some (eI (v34)), some (eI (v38)), some (eI (v43))], [eI (v43), eI (v61), eR a0]), f :: F, m57)
                refine w_cu (np := 104) (as := [eI (v61), eI (v43)]) (l2 := [some (eI (v61)), some (eI (v43))]) (rest := [eR a0]) rfl rfl rfl (Nat.ble_eq.mp rfl) rfl rfl rfl rfl ?_
                refine w_t (np := 1) (l2 := [some (eI (v61)), some (eI (v43))]) (s2 := [eI (v61)]) rfl rfl rfl ?_
                refine w_t (np := 2) (l2 := [some (eI (v61)), some (eI (v43))]) (s2 := [eI (v43), eI (v61)]) rfl rfl rfl ?_
                refine b_cgt (t1 := 9) (t2 := 5) rfl rfl rfl (ev_w_in (by omega) (by omega)) (ev_w_in (by omega) (by omega)) (fun g65 => ?_) (fun g65 => ?_)
                · have b66 : 1 ≤ v61 ∧ v61 ≤ 2147483647 := by omega
                  refine w_t (np := 10) (l2 := [some (eI (v61)), some (eI (v43))]) (s2 := [eI (v43)]) rfl rfl rfl ?_
                  refine b_ri rfl rfl ?_
                  show ex_q (dt_fg L ρ) rc (d + 3, (121, 104, [some (eR a0), some (eI (a1)), some (eI (a2)), some (eI (i3)), some (eI (i5)), some (eI (i7)), some (eI (v34)), some (eI (v38)), some (eI (v43))], [eI (v43), eR a0]), f :: F, m57)
                  refine j_pf (np := 107) (w := v43) rfl rfl I58 gA0 (by decide) (n := 15) rfl rfl (hO_i (lo := -2147483648) (hi := 2147483647) rfl (by omega)) ?_
                  intro m66 I67 W68
                  have F69 : Fr l_121 0 0 g μ m66 := F60.w W68 gA0 rfl
                  refine w_t (np := 109) (l2 := [some (eR a0), some (eI (a1)), some (eI (a2)), some (eI (i3)), some (eI (i5)), some (eI (i7)), some (eI (v34)), some (eI (v38)), some (eI (v43))]) (s2 := [eI (v43)]) rfl rfl rfl ?_
                  refine w_t (np := 110) (l2 := [some (eR a0), some (eI (a1)), some (eI (a2)), some (eI (v43)), some (eI (i5)), some (eI (i7)), some (eI (v34)), some (eI (v38)), some (eI (v43))]) (s2 := []) rfl rfl rfl ?_
                  refine w_t (np := 111) (l2 := [some (eR a0), some (eI (a1)), some (eI (a2)), some (eI (v43)), some (eI (i5)), some (eI (i7)), some (eI (v34)), some (eI (v38)), some (eI (v43))]) (s2 := [eI (1)]) rfl rfl rfl ?_
                  refine w_t (np := 113) (l2 := [some (eR a0), some (eI (a1)), some (eI (a2)), some (eI (v43)), some (eI (i5)), some (eI (i7)), some (eI (v34)), some (eI (v38)), some (eI (v43))]) (s2 := [eI (v34), eI (1)]) rfl rfl rfl ?_
                  refine w_t (np := 114) (l2 := [some (eR a0), some (eI (a1)), some (eI (a2)), some (eI (v43)), some (eI (i5)), some (eI (i7)), some (eI (v34)), some (eI (v38)), some (eI (v43))]) (s2 := [eI (3), eI (v34), eI (1)]) rfl rfl rfl ?_
                  obtain ⟨v70, e71, b72⟩ := h_irem (a := v34) (k := 3) (by decide) (by decide) (show (-2147483648 : Int) ≤ v34 ∧ (v34 : Int) ≤ 2147483647 by omega)
                  have b73 : 0 ≤ v70 ∧ v70 ≤ 2 := by omega
                  refine w_t (np := 115) (l2 := [some (eR a0), some (eI (a1)), some (eI (a2)), some (eI (v43)), some (eI (i5)), some (eI (i7)), some (eI (v34)), some (eI (v38)), some (eI (v43))]) (s2 := [eI (v70), eI (1)]) rfl (e71 _ _) rfl ?_
                  obtain ⟨v74, e75⟩ : ∃ zz : Int, zz = (1) - (v70) := ⟨_, rfl⟩
                  have b76 : -1 ≤ v74 ∧ v74 ≤ 1 := by omega
                  refine w_t (np := 116) (l2 := [some (eR a0), some (eI (a1)), some (eI (a2)), some (eI (v43)), some (eI (i5)), some (eI (i7)), some (eI (v34)), some (eI (v38)), some (eI (v43))]) (s2 := [eI (v74)]) rfl (b_isub (by rw [← e75]; exact ev_w_in (by omega) (by omega))) rfl ?_
                  refine w_t (np := 118) (l2 := [some (eR a0), some (eI (a1)), some (eI (a2)), some (eI (v43)), some (eI (v74)), some (eI (i7)), some (eI (v34)), some (eI (v38)), some (eI (v43))]) (s2 := []) rfl rfl rfl ?_
                  obtain ⟨v77, e78⟩ : ∃ zz : Int, zz = (i7) + (1) := ⟨_, rfl⟩
                  have b79 : 1 ≤ v77 ∧ v77 ≤ 50 := by omega
                  refine w_t (np := 121) (l2 := [some (eR a0), some (eI (a1)), some (eI (a2)), some (eI (v43)), some (eI (v74)), some (eI (v77)), some (eI (v34)), some (eI (v38)), some (eI (v43))]) (s2 := []) rfl (b_iinc rfl (by rw [← e78]; exact ev_w_in (by omega) (by omega)) rfl) rfl ?_
                  refine w_go (t1 := 8) rfl rfl ?_
                  exact ih2 (890 - (v77)).toNat (by omega) m66 (v43) (v74) (v77) (some (eI (v34))) (some (eI (v38))) (some (eI (v43))) I67 F69 (by omega) (by omega) (by omega)     rfl
                · have b66 : -2147483648 ≤ v61 ∧ v61 ≤ 888 := by omega
                  refine w_t (np := 6) (l2 := [some (eI (v61)), some (eI (v43))]) (s2 := [eI (v61)]) rfl rfl rfl ?_
                  refine w_go (t1 := 10) rfl rfl ?_
                  refine b_ri rfl rfl ?_
                  show ex_q (dt_fg L ρ) rc (d + 3, (121, 104, [some (eR a0), some (eI (a1)), some (eI (a2)), some (eI (i3)), some (eI (i5)), some (eI (i7)), some (eI (v34)), some (eI (v38)), some (eI (v43))], [eI (v61), eR a0]), f :: F, m57)
                  refine j_pf (np := 107) (w := v61) rfl rfl I58 gA0 (by decide) (n := 15) rfl rfl (hO_i (lo := -2147483648) (hi := 2147483647) rfl (by omega)) ?_
                  intro m66 I67 W68
                  have F69 : Fr l_121 0 0 g μ m66 := F60.w W68 gA0 rfl
                  refine w_t (np := 109) (l2 := [some (eR a0), some (eI (a1)), some (eI (a2)), some (eI (i3)), some (eI (i5)), some (eI (i7)), some (eI (v34)), some (eI (v38)), some (eI (v43))]) (s2 := [eI (v43)]) rfl rfl rfl ?_
                  refine w_t (np := 110) (l2 := [some (eR a0), some (eI (a1)), some (eI (a2)), some (eI (v43)), some (eI (i5)), some (eI (i7)), some (eI (v34)), some (eI (v38)), some (eI (v43))]) (s2 := []) rfl rfl rfl ?_
                  refine w_t (np := 111) (l2 := [some (eR a0), some (eI (a1)), some (eI (a2)), some (eI (v43)), some (eI (i5)), some (eI (i7)), some (eI (v34)), some (eI (v38)), some (eI (v43))]) (s2 := [eI (1)]) rfl rfl rfl ?_
                  refine w_t (np := 113) (l2 := [some (eR a0), some (eI (a1)), some (eI (a2)), some (eI (v43)), some (eI (i5)), some (eI (i7)), some (eI (v34)), some (eI (v38)), some (eI (v43))]) (s2 := [eI (v34), eI (1)]) rfl rfl rfl ?_
                  refine w_t (np := 114) (l2 := [some (eR a0), some (eI (a1)), some (eI (a2)), some (eI (v43)), some (eI (i5)), some (eI (i7)), some (eI (v34)), some (eI (v38)), some (eI (v43))]) (s2 := [eI (3), eI (v34), eI (1)]) rfl rfl rfl ?_
                  obtain ⟨v70, e71, b72⟩ := h_irem (a := v34) (k := 3) (by decide) (by decide) (show (-2147483648 : Int) ≤ v34 ∧ (v34 : Int) ≤ 2147483647 by omega)
                  have b73 : 0 ≤ v70 ∧ v70 ≤ 2 := by omega
                  refine w_t (np := 115) (l2 := [some (eR a0), some (eI (a1)), some (eI (a2)), some (eI (v43)), some (eI (i5)), some (eI (i7)), some (eI (v34)), some (eI (v38)), some (eI (v43))]) (s2 := [eI (v70), eI (1)]) rfl (e71 _ _) rfl ?_
                  obtain ⟨v74, e75⟩ : ∃ zz : Int, zz = (1) - (v70) := ⟨_, rfl⟩
                  have b76 : -1 ≤ v74 ∧ v74 ≤ 1 := by omega
                  refine w_t (np := 116) (l2 := [some (eR a0), some (eI (a1)), some (eI (a2)), some (eI (v43)), some (eI (i5)), some (eI (i7)), some (eI (v34)), some (eI (v38)), some (eI (v43))]) (s2 := [eI (v74)]) rfl (b_isub (by rw [← e75]; exact ev_w_in (by omega) (by omega))) rfl ?_
                  refine w_t (np := 118) (l2 := [some (eR a0), some (eI (a1)), some (eI (a2)), some (eI (v43)), some (eI (v74)), some (eI (i7)), some (eI (v34)), some (eI (v38)), some (eI (v43))]) (s2 := []) rfl rfl rfl ?_
                  obtain ⟨v77, e78⟩ : ∃ zz : Int, zz = (i7) + (1) := ⟨_, rfl⟩
                  have b79 : 1 ≤ v77 ∧ v77 ≤ 50 := by omega
                  refine w_t (np := 121) (l2 := [some (eR a0), some (eI (a1)), some (eI (a2)), some (eI (v43)), some (eI (v74)), some (eI (v77)), some (eI (v34)), some (eI (v38)), some (eI (v43))]) (s2 := []) rfl (b_iinc rfl (by rw [← e78]; exact ev_w_in (by omega) (by omega)) rfl) rfl ?_
                  refine w_go (t1 := 8) rfl rfl ?_
                  exact ih2 (890 - (v77)).toNat (by omega) m66 (v43) (v74) (v77) (some (eI (v34))) (some (eI (v38))) (some (eI (v43))) I67 F69 (by omega) (by omega) (by omega)     rfl
              · refine w_t (np := 6) (l2 := [some (eI (v38)), some (eI (v43))]) (s2 := [eI (v38)]) rfl rfl rfl ?_
                refine w_go (t1 := 10) rfl rfl ?_
                refine b_ri rfl rfl ?_
                show ex_q (dt_fg L ρ) rc (d + 3, (121, 101, [some (eR a0), some (eI (a1)), some (eI (a2)), some (eI (i3)), some (eI (i5)), some (eI (i7)), some (eI (v34)), some (eI (v38)), some (eI (v43))], [eI (v38), eI (v61), eR a0]), f :: F, m57)
                refine w_cu (np := 104) (as := [eI (v61), eI (v38)]) (l2 := [some (eI (v61)), some (eI (v38))]) (rest := [eR a0]) rfl rfl rfl (Nat.ble_eq.mp rfl) rfl rfl rfl rfl ?_
                refine w_t (np := 1) (l2 := [some (eI (v61)), some (eI (v38))]) (s2 := [eI (v61)]) rfl rfl rfl ?_
                refine w_t (np := 2) (l2 := [some (eI (v61)), some (eI (v38))]) (s2 := [eI (v38), eI (v61)]) rfl rfl rfl ?_
                refine b_cgt (t1 := 9) (t2 := 5) rfl rfl rfl (ev_w_in (by omega) (by omega)) (ev_w_in (by omega) (by omega)) (fun g65 => ?_) (fun g65 => ?_)
                · have b66 : 1 ≤ v61 ∧ v61 ≤ 2147483647 := by omega
                  refine w_t (np := 10) (l2 := [some (eI (v61)), some (eI (v38))]) (s2 := [eI (v38)]) rfl rfl rfl ?_
                  refine b_ri rfl rfl ?_
                  show ex_q (dt_fg L ρ) rc (d + 3, (121, 104, [some (eR a0), some (eI (a1)), some (eI (a2)), some (eI (i3)), some (eI (i5)), some (eI (i7)), some (eI (v34)), some (eI (v38)), some (eI (v43))], [eI (v38), eR a0]), f :: F, m57)
                  refine j_pf (np := 107) (w := v38) rfl rfl I58 gA0 (by decide) (n := 15) rfl rfl (hO_i (lo := -2147483648) (hi := 2147483647) rfl (by omega)) ?_
                  intro m66 I67 W68
                  have F69 : Fr l_121 0 0 g μ m66 := F60.w W68 gA0 rfl
                  refine w_t (np := 109) (l2 := [some (eR a0), some (eI (a1)), some (eI (a2)), some (eI (i3)), some (eI (i5)), some (eI (i7)), some (eI (v34)), some (eI (v38)), some (eI (v43))]) (s2 := [eI (v43)]) rfl rfl rfl ?_
                  refine w_t (np := 110) (l2 := [some (eR a0), some (eI (a1)), some (eI (a2)), some (eI (v43)), some (eI (i5)), some (eI (i7)), some (eI (v34)), some (eI (v38)), some (eI (v43))]) (s2 := []) rfl rfl rfl ?_
                  refine w_t (np := 111) (l2 := [some (eR a0), some (eI (a1)), some (eI (a2)), some (eI (v43)), some (eI (i5)), some (eI (i7)), some (eI (v34)), some (eI (v38)), some (eI (v43))]) (s2 := [eI (1)]) rfl rfl rfl ?_
                  refine w_t (np := 113) (l2 := [some (eR a0), some (eI (a1)), some (eI (a2)), some (eI (v43)), some (eI (i5)), some (eI (i7)), some (eI (v34)), some (eI (v38)), some (eI (v43))]) (s2 := [eI (v34), eI (1)]) rfl rfl rfl ?_
                  refine w_t (np := 114) (l2 := [some (eR a0), some (eI (a1)), some (eI (a2)), some (eI (v43)), some (eI (i5)), some (eI (i7)), some (eI (v34)), some (eI (v38)), some (eI (v43))]) (s2 := [eI (3), eI (v34), eI (1)]) rfl rfl rfl ?_
                  obtain ⟨v70, e71, b72⟩ := h_irem (a := v34) (k := 3) (by decide) (by decide) (show (-2147483648 : Int) ≤ v34 ∧ (v34 : Int) ≤ 2147483647 by omega)
                  have b73 : 0 ≤ v70 ∧ v70 ≤ 2 := by omega
                  refine w_t (np := 115) (l2 := [some (eR a0), some (eI (a1)), some (eI (a2)), some (eI (v43)), some (eI (i5)), some (eI (i7)), some (eI (v34)), some (eI (v38)), some (eI (v43))]) (s2 := [eI (v70), eI (1)]) rfl (e71 _ _) rfl ?_
                  obtain ⟨v74, e75⟩ : ∃ zz : Int, zz = (1) - (v70) := ⟨_, rfl⟩
                  have b76 : -1 ≤ v74 ∧ v74 ≤ 1 := by omega
                  refine w_t (np := 116) (l2 := [some (eR a0), some (eI (a1)), some (eI (a2)), some (eI (v43)), some (eI (i5)), some (eI (i7)), some (eI (v34)), some (eI (v38)), some (eI (v43))]) (s2 := [eI (v74)]) rfl (b_isub (by rw [← e75]; exact ev_w_in (by omega) (by omega))) rfl ?_
                  refine w_t (np := 118) (l2 := [some (eR a0), some (eI (a1)), some (eI (a2)), some (eI (v43)), some (eI (v74)), some (eI (i7)), some (eI (v34)), some (eI (v38)), some (eI (v43))]) (s2 := []) rfl rfl rfl ?_
                  obtain ⟨v77, e78⟩ : ∃ zz : Int, zz = (i7) + (1) := ⟨_, rfl⟩
                  have b79 : 1 ≤ v77 ∧ v77 ≤ 50 := by omega
                  refine w_t (np := 121) (l2 := [some (eR a0), some (eI (a1)), some (eI (a2)), some (eI (v43)), some (eI (v74)), some (eI (v77)), some (eI (v34)), some (eI (v38)), some (eI (v43))]) (s2 := []) rfl (b_iinc rfl (by rw [← e78]; exact ev_w_in (by omega) (by omega)) rfl) rfl ?_
                  refine w_go (t1 := 8) rfl rfl ?_
                  exact ih2 (890 - (v77)).toNat (by omega) m66 (v43) (v74) (v77) (some (eI (v34))) (some (eI (v38))) (some (eI (v43))) I67 F69 (by omega) (by omega) (by omega)     rfl
                · have b66 : -2147483648 ≤ v61 ∧ v61 ≤ 889 := by omega
                  refine w_t (np := 6) (l2 := [some (eI (v61)), some (eI (v38))]) (s2 := [eI (v61)]) rfl rfl rfl ?_
                  refine w_go (t1 := 10) rfl rfl ?_
                  refine b_ri rfl rfl ?_
                  show ex_q (dt_fg L ρ) rc (d + 3, (121, 104, [some (eR a0), some (eI (a1)), some (eI (a2)), some (eI (i3)), some (eI (i5)), some (eI (i7)), some (eI (v34)), some (eI (v38)), some (eI (v43))], [eI (v61), eR a0]), f :: F, m57)
                  refine j_pf (np := 107) (w := v61) rfl rfl I58 gA0 (by decide) (n := 15) rfl rfl (hO_i (lo := -2147483648) (hi := 2147483647) rfl (by omega)) ?_
                  intro m66 I67 W68
                  have F69 : Fr l_121 0 0 g μ m66 := F60.w W68 gA0 rfl
                  refine w_t (np := 109) (l2 := [some (eR a0), some (eI (a1)), some (eI (a2)), some (eI (i3)), some (eI (i5)), some (eI (i7)), some (eI (v34)), some (eI (v38)), some (eI (v43))]) (s2 := [eI (v43)]) rfl rfl rfl ?_
                  refine w_t (np := 110) (l2 := [some (eR a0), some (eI (a1)), some (eI (a2)), some (eI (v43)), some (eI (i5)), some (eI (i7)), some (eI (v34)), some (eI (v38)), some (eI (v43))]) (s2 := []) rfl rfl rfl ?_
                  refine w_t (np := 111) (l2 := [some (eR a0), some (eI (a1)), some (eI (a2)), some (eI (v43)), some (eI (i5)), some (eI (i7)), some (eI (v34)), some (eI (v38)), some (eI (v43))]) (s2 := [eI (1)]) rfl rfl rfl ?_
                  refine w_t (np := 113) (l2 := [some (eR a0), some (eI (a1)), some (eI (a2)), some (eI (v43)), some (eI (i5)), some (eI (i7)), some (eI (v34)), some (eI (v38)), some (eI (v43))]) (s2 := [eI (v34), eI (1)]) rfl rfl rfl ?_
                  refine w_t (np := 114) (l2 := [some (eR a0), some (eI (a1)), some (eI (a2)), some (eI (v43)), some (eI (i5)), some (eI (i7)), some (eI (v34)), some (eI (v38)), some (eI (v43))]) (s2 := [eI (3), eI (v34), eI (1)]) rfl rfl rfl ?_
                  obtain ⟨v70, e71, b72⟩ := h_irem (a := v34) (k := 3) (by decide) (by decide) (show (-2147483648 : Int) ≤ v34 ∧ (v34 : Int) ≤ 2147483647 by omega)
                  have b73 : 0 ≤ v70 ∧ v70 ≤ 2 := by omega
                  refine w_t (np := 115) (l2 := [some (eR a0), some (eI (a1)), some (eI (a2)), some (eI (v43)), some (eI (i5)), some (eI (i7)), some (eI (v34)), some (eI (v38)), some (eI (v43))]) (s2 := [eI (v70), eI (1)]) rfl (e71 _ _) rfl ?_
                  obtain ⟨v74, e75⟩ : ∃ zz : Int, zz = (1) - (v70) := ⟨_, rfl⟩
                  have b76 : -1 ≤ v74 ∧ v74 ≤ 1 := by omega
                  refine w_t (np := 116) (l2 := [some (eR a0), some (eI (a1)), some (eI (a2)), some (eI (v43)), some (eI (i5)), some (eI (i7)), some (eI (v34)), some (eI (v38)), some (eI (v43))]) (s2 := [eI (v74)]) rfl (b_isub (by rw [← e75]; exact ev_w_in (by omega) (by omega))) rfl ?_
                  refine w_t (np := 118) (l2 := [some (eR a0), some (eI (a1)), some (eI (a2)), some (eI (v43)), some (eI (v74)), some (eI (i7)), some (eI (v34)), some (eI (v38)), some (eI (v43))]) (s2 := []) rfl rfl rfl ?_
                  obtain ⟨v77, e78⟩ : ∃ zz : Int, zz = (i7) + (1) := ⟨_, rfl⟩
                  have b79 : 1 ≤ v77 ∧ v77 ≤ 50 := by omega
                  refine w_t (np := 121) (l2 := [some (eR a0), some (eI (a1)), some (eI (a2)), some (eI (v43)), some (eI (v74)), some (eI (v77)), some (eI (v34)), some (eI (v38)), some (eI (v43))]) (s2 := []) rfl (b_iinc rfl (by rw [← e78]; exact ev_w_in (by omega) (by omega)) rfl) rfl ?_
                  refine w_go (t1 := 8) rfl rfl ?_
                  exact ih2 (890 - (v77)).toNat (by omega) m66 (v43) (v74) (v77) (some (eI (v34))) (some (eI (v38))) (some (eI (v43))) I67 F69 (by omega) (by omega) (by omega)     rfl
            · have b51 : 2 ≤ v46 ∧ v46 ≤ 2 := by omega
              exact v_rv rfl rfl (K m12 I13 F14)
        · have b38 : -1 ≤ v34 ∧ v34 ≤ -1 := by omega
          refine w_t (np := 39) (l2 := [some (eR a0), some (eI (a1)), some (eI (a2)), some (eI (i3)), some (eI (i5)), some (eI (i7)), some (eI (v34)), o10, o11]) (s2 := [eI (-1)]) rfl rfl rfl ?_
          refine w_go (t1 := 46) rfl rfl ?_
          refine w_t (np := 48) (l2 := [some (eR a0), some (eI (a1)), some (eI (a2)), some (eI (i3)), some (eI (i5)), some (eI (i7)), some (eI (v34)), some (eI (-1)), o11]) (s2 := []) rfl rfl rfl ?_
          refine w_t (np := 50) (l2 := [some (eR a0), some (eI (a1)), some (eI (a2)), some (eI (i3)), some (eI (i5)), some (eI (i7)), some (eI (v34)), some (eI (-1)), o11]) (s2 := [eI (-1)]) rfl rfl rfl ?_
          refine b_ige (t1 := 57) (t2 := 53) rfl rfl rfl rfl (fun g38 => absurd g38 (by decide)) (fun g38 => ?_)
          refine w_t (np := 54) (l2 := [some (eR a0), some (eI (a1)), some (eI (a2)), some (eI (i3)), some (eI (i5)), some (eI (i7)), some (eI (v34)), some (eI (-1)), o11]) (s2 := [eI (-1)]) rfl rfl rfl ?_
          refine w_go (t1 := 63) rfl rfl ?_
          refine w_t (np := 65) (l2 := [some (eR a0), some (eI (a1)), some (eI (a2)), some (eI (i3)), some (eI (i5)), some (eI (i7)), some (eI (v34)), some (eI (-1)), some (eI (-1))]) (s2 := []) rfl rfl rfl ?_
          refine w_t (np := 67) (l2 := [some (eR a0), some (eI (a1)), some (eI (a2)), some (eI (i3)), some (eI (i5)), some (eI (i7)), some (eI (v34)), some (eI (-1)), some (eI (-1))]) (s2 := [eI (-1)]) rfl rfl rfl ?_
          refine b_ilt (t1 := 78) (t2 := 70) rfl rfl rfl rfl (fun g39 => ?_) (fun g39 => absurd g39 (by decide))
          exact v_rv rfl rfl (K m12 I13 F14)
    · refine j_gi (np := 17) rfl rfl rfl I13 b18 (by decide) (n := 8) rfl rfl (lo := 0) (hi := 890) rfl ?_
      intro v20 e21 b22
      refine b_cge (t1 := 124) (t2 := 20) rfl rfl rfl (ev_w_in (by omega) (by omega)) (ev_w_in (by omega) (by omega)) (fun g23 => ?_) (fun g23 => ?_)
      · exact v_rv rfl rfl (K m12 I13 F14)
      · have b24 : 0 ≤ i7 ∧ i7 ≤ 889 := by omega
        have b25 : 1 ≤ v20 ∧ v20 ≤ 890 := by omega
        refine w_t (np := 21) (l2 := [some (eR a0), some (eI (a1)), some (eI (a2)), some (eI (i3)), some (eI (i5)), some (eI (i7)), o9, o10, o11]) (s2 := [eR a0]) rfl (s_an rfl (pos_g I13 gA0 (by decide))) rfl ?_
        refine j_gr (np := 24) rfl rfl I13 gA0 (by decide) (n := 15) rfl rfl rfl ?_
        intro v24 e25 b26 z27
        have b26 : g v24 = 36 := Nat.eq_of_beq_eq_true b26
        refine w_t (np := 25) (l2 := [some (eR a0), some (eI (a1)), some (eI (a2)), some (eI (i3)), some (eI (i5)), some (eI (i7)), o9, o10, o11]) (s2 := [eI (3), eR v24]) rfl rfl rfl ?_
        refine w_t (np := 26) (l2 := [some (eR a0), some (eI (a1)), some (eI (a2)), some (eI (i3)), some (eI (i5)), some (eI (i7)), o9, o10, o11]) (s2 := [eI (i3), eI (3), eR v24]) rfl rfl rfl ?_
        obtain ⟨v28, e29⟩ : ∃ zz : Int, zz = (3) * (i3) := ⟨_, rfl⟩
        have b30 : 0 ≤ v28 ∧ v28 ≤ 2667 := by omega
        refine w_t (np := 27) (l2 := [some (eR a0), some (eI (a1)), some (eI (a2)), some (eI (i3)), some (eI (i5)), some (eI (i7)), o9, o10, o11]) (s2 := [eI (v28), eR v24]) rfl (b_imul (by rw [← e29]; exact ev_w_in (by omega) (by omega))) rfl ?_
        refine w_t (np := 29) (l2 := [some (eR a0), some (eI (a1)), some (eI (a2)), some (eI (i3)), some (eI (i5)), some (eI (i7)), o9, o10, o11]) (s2 := [eI (i5), eI (v28), eR v24]) rfl rfl rfl ?_
        obtain ⟨v31, e32⟩ : ∃ zz : Int, zz = (v28) + (i5) := ⟨_, rfl⟩
        have b33 : 0 ≤ v31 ∧ v31 ≤ 2668 := by omega
        refine w_t (np := 30) (l2 := [some (eR a0), some (eI (a1)), some (eI (a2)), some (eI (i3)), some (eI (i5)), some (eI (i7)), o9, o10, o11]) (s2 := [eI (v31), eR v24]) rfl (b_iadd (by rw [← e32]; exact ev_w_in (by omega) (by omega))) rfl ?_
        refine j_al (np := 31) rfl rfl I13 b26 (by decide) (n := 2670) rfl rfl (lo := -1) (hi := 2669) (fun _ => rfl) (by omega) (by omega) ?_
        intro v34 e35 b36
        refine w_t (np := 33) (l2 := [some (eR a0), some (eI (a1)), some (eI (a2)), some (eI (i3)), some (eI (i5)), some (eI (i7)), some (eI (v34)), o10, o11]) (s2 := []) rfl rfl rfl ?_
        refine w_t (np := 35) (l2 := [some (eR a0), some (eI (a1)), some (eI (a2)), some (eI (i3)), some (eI (i5)), some (eI (i7)), some (eI (v34)), o10, o11]) (s2 := [eI (v34)]) rfl rfl rfl ?_
        refine b_ige (t1 := 42) (t2 := 38) rfl rfl rfl (ev_w_in (by omega) (by omega)) (fun g37 => ?_) (fun g37 => ?_)
        · have b38 : 0 ≤ v34 ∧ v34 ≤ 2669 := by omega
          refine w_t (np := 44) (l2 := [some (eR a0), some (eI (a1)), some (eI (a2)), some (eI (i3)), some (eI (i5)), some (eI (i7)), some (eI (v34)), o10, o11]) (s2 := [eI (v34)]) rfl rfl rfl ?_
          refine w_t (np := 45) (l2 := [some (eR a0), some (eI (a1)), some (eI (a2)), some (eI (i3)), some (eI (i5)), some (eI (i7)), some (eI (v34)), o10, o11]) (s2 := [eI (3), eI (v34)]) rfl rfl rfl ?_
          obtain ⟨v38, e39, b40⟩ := h_idiv (a := v34) (k := 3) (by decide) (by decide) (show (-2147483648 : Int) ≤ v34 ∧ (v34 : Int) ≤ 2147483647 by omega)
          have b41 : 0 ≤ v38 ∧ v38 ≤ 889 := by omega
          refine w_t (np := 46) (l2 := [some (eR a0), some (eI (a1)), some (eI (a2)), some (eI (i3)), some (eI (i5)), some (eI (i7)), some (eI (v34)), o10, o11]) (s2 := [eI (v38)]) rfl (e39 _ _) rfl ?_
          refine w_t (np := 48) (l2 := [some (eR a0), some (eI (a1)), some (eI (a2)), some (eI (i3)), some (eI (i5)), some (eI (i7)), some (eI (v34)), some (eI (v38)), o11]) (s2 := []) rfl rfl rfl ?_
          refine w_t (np := 50) (l2 := [some (eR a0), some (eI (a1)), some (eI (a2)), some (eI (i3)), some (eI (i5)), some (eI (i7)), some (eI (v34)), some (eI (v38)), o11]) (s2 := [eI (v38)]) rfl rfl rfl ?_
          refine b_ige (t1 := 57) (t2 := 53) rfl rfl rfl (ev_w_in (by omega) (by omega)) (fun g42 => ?_) (fun g42 => False.elim (by omega))
          refine w_t (np := 58) (l2 := [some (eR a0), some (eI (a1)), some (eI (a2)), some (eI (i3)), some (eI (i5)), some (eI (i7)), some (eI (v34)), some (eI (v38)), o11]) (s2 := [eR a0]) rfl (s_an rfl (pos_g I13 gA0 (by decide))) rfl ?_
          refine w_t (np := 60) (l2 := [some (eR a0), some (eI (a1)), some (eI (a2)), some (eI (i3)), some (eI (i5)), some (eI (i7)), some (eI (v34)), some (eI (v38)), o11]) (s2 := [eI (v38), eR a0]) rfl rfl rfl ?_
          refine w_cw (np := 63) (as := [eI (v38)]) (l2 := [some (eR a0), some (eI (v38)), none, none]) (rest := []) rfl rfl rfl (Nat.ble_eq.mp rfl) rfl rfl rfl (I13.kd gA0 (by decide) (n := 15) rfl) rfl ?_
          refine s_117 (a1 := v38) I13 gA0 (by omega) ?_
          intro v43 b44
          show ex_q (dt_fg L ρ) rc (d + 3, (121, 63, [some (eR a0), some (eI (a1)), some (eI (a2)), some (eI (i3)), some (eI (i5)), some (eI (i7)), some (eI (v34)), some (eI (v38)), o11], [eI (v43)]), f :: F, m12)
          refine w_t (np := 65) (l2 := [some (eR a0), some (eI (a1)), some (eI (a2)), some (eI (i3)), some (eI (i5)), some (eI (i7)), some (eI (v34)), some (eI (v38)), some (eI (v43))]) (s2 := []) rfl rfl rfl ?_
          refine w_t (np := 67) (l2 := [some (eR a0), some (eI (a1)), some (eI (a2)), some (eI (i3)), some (eI (i5)), some (eI (i7)), some (eI (v34)), some (eI (v38)), some (eI (v43))]) (s2 := [eI (v43)]) rfl rfl rfl ?_
          refine b_ilt (t1 := 78) (t2 := 70) rfl rfl rfl (ev_w_in (by omega) (by omega)) (fun g45 => ?_) (fun g45 => ?_)
          · have b46 : -1 ≤ v43 ∧ v43 ≤ -1 := by omega
            exact v_rv rfl rfl (K m12 I13 F14)
          · have b46 : 0 ≤ v43 ∧ v43 ≤ 889 := by omega
            refine w_t (np := 72) (l2 := [some (eR a0), some (eI (a1)), some (eI (a2)), some (eI (i3)), some (eI (i5)), some (eI (i7)), some (eI (v34)), some (eI (v38)), some (eI (v43))]) (s2 := [eI (v34)]) rfl rfl rfl ?_
            refine w_t (np := 73) (l2 := [some (eR a0), some (eI (a1)), some (eI (a2)), some (eI (i3)), some (eI (i5)), some (eI (i7)), some (eI (v34)), some (eI (v38)), some (eI (v43))]) (s2 := [eI (3), eI (v34)]) rfl rfl rfl ?_
            obtain ⟨v46, e47, b48⟩ := h_irem (a := v34) (k := 3) (by decide) (by decide) (show (-2147483648 : Int) ≤ v34 ∧ (v34 : Int) ≤ 2147483647 by omega)
            have b49 : 0 ≤ v46 ∧ v46 ≤ 2 := by omega
            refine w_t (np := 74) (l2 := [some (eR a0), some (eI (a1)), some (eI (a2)), some (eI (i3)), some (eI (i5)), some (eI (i7)), some (eI (v34)), some (eI (v38)), some (eI (v43))]) (s2 := [eI (v46)]) rfl (e47 _ _) rfl ?_
            refine w_t (np := 75) (l2 := [some (eR a0), some (eI (a1)), some (eI (a2)), some (eI (i3)), some (eI (i5)), some (eI (i7)), some (eI (v34)), some (eI (v38)), some (eI (v43))]) (s2 := [eI (2), eI (v46)]) rfl rfl rfl ?_
            refine b_cne (t1 := 79) (t2 := 78) rfl rfl rfl (ev_w_in (by omega) (by omega)) rfl (fun g50 => ?_) (fun g50 => ?_)
            · have b51 : 0 ≤ v46 ∧ v46 ≤ 1 := by omega
              refine w_t (np := 80) (l2 := [some (eR a0), some (eI (a1)), some (eI (a2)), some (eI (i3)), some (eI (i5)), some (eI (i7)), some (eI (v34)), some (eI (v38)), some (eI (v43))]) (s2 := [eR a0]) rfl (s_an rfl (pos_g I13 gA0 (by decide))) rfl ?_
              refine w_t (np := 81) (l2 := [some (eR a0), some (eI (a1)), some (eI (a2)), some (eI (i3)), some (eI (i5)), some (eI (i7)), some (eI (v34)), some (eI (v38)), some (eI (v43))]) (s2 := [eR a0, eR a0]) rfl rfl rfl ?_
              refine j_gi (np := 84) rfl rfl rfl I13 gA0 (by decide) (n := 15) rfl rfl (lo := -2147483648) (hi := 2147483647) rfl ?_
              intro v51 e52 b53
              refine w_t (np := 85) (l2 := [some (eR a0), some (eI (a1)), some (eI (a2)), some (eI (i3)), some (eI (i5)), some (eI (i7)), some (eI (v34)), some (eI (v38)), some (eI (v43))]) (s2 := [eI (1), eI (v51), eR a0]) rfl rfl rfl ?_
              obtain ⟨v54, e55, b56⟩ : ∃ zz : Int, ev_w ((v51) + (1)) = zz ∧ (-2147483648 ≤ zz ∧ zz ≤ 2147483647) := ⟨_, rfl, hw_bd _⟩
              refine w_t (np := 86) (l2 := [some (eR a0), some (eI (a1)), some (eI (a2)), some (eI (i3)), some (eI (i5)), some (eI (i7)), some (eI (v34)), some (eI (v38)), some (eI (v43))]) (s2 := [eI (v54), eR a0]) rfl (b_iadd e55) rfl ?_
              refine j_pf (np := 89) (w := v54) rfl rfl I13 gA0 (by decide) (n := 15) rfl rfl (hO_i (lo := -2147483648) (hi := 2147483647) rfl (by omega)) ?_
              intro m57 I58 W59
              have F60 : Fr l_121 0 0 g μ m57 := F14.w W59 gA0 rfl
              refine w_t (np := 90) (l2 := [some (eR a0), some (eI (a1)), some (eI (a2)), some (eI (i3)), some (eI (i5)), some (eI (i7)), some (eI (v34)), some (eI (v38)), some (eI (v43))]) (s2 := [eR a0]) rfl (s_an rfl (pos_g I58 gA0 (by decide))) rfl ?_
              refine w_t (np := 91) (l2 := [some (eR a0), some (eI (a1)), some (eI (a2)), some (eI (i3)), some (eI (i5)), some (eI (i7)), some (eI (v34)), some (eI (v38)), some (eI (v43))]) (s2 := [eR a0, eR a0]) rfl (s_an rfl (pos_g I58 gA0 (by decide))) rfl ?_
              refine j_gi (np := 94) rfl rfl rfl I58 gA0 (by decide) (n := 15) rfl rfl (lo := -2147483648) (hi := 2147483647) rfl ?_
              intro v61 e62 b63
              refine w_t (np := 96) (l2 := [some (eR a0), some (eI (a1)), some (eI (a2)), some (eI (i3)), some (eI (i5)), some (eI (i7)), some (eI (v34)), some (eI (v38)), some (eI (v43))]) (s2 := [eI (v38), eI (v61), eR a0]) rfl rfl rfl ?_
              refine w_t (np := 98) (l2 := [some (eR a0), some (eI (a1)), some (eI (a2)), some (eI (i3)), some (eI (i5)), some (eI (i7)), some (eI (v34)), some (eI (v38)), some (eI (v43))]) (s2 := [eI (v43), eI (v38), eI (v61), eR a0]) rfl rfl rfl ?_
              refine w_cu (np := 101) (as := [eI (v38), eI (v43)]) (l2 := [some (eI (v38)), some (eI (v43))]) (rest := [eI (v61), eR a0]) rfl rfl rfl (Nat.ble_eq.mp rfl) rfl rfl rfl rfl ?_
              refine w_t (np := 1) (l2 := [some (eI (v38)), some (eI (v43))]) (s2 := [eI (v38)]) rfl rfl rfl ?_
              refine w_t (np := 2) (l2 := [some (eI (v38)), some (eI (v43))]) (s2 := [eI (v43), eI (v38)]) rfl rfl rfl ?_
              refine b_cgt (t1 := 9) (t2 := 5) rfl rfl rfl (ev_w_in (by omega) (by omega)) (ev_w_in (by omega) (by omega)) (fun g64 => ?_) (fun g64 => ?_)
              · have b65 : 1 ≤ v38 ∧ v38 ≤ 889 := by omega
                have b66 : 0 ≤ v43 ∧ v43 ≤ 888 := by omega
                refine w_t (np := 10) (l2 := [some (eI (v38)), some (eI (v43))]) (s2 := [eI (v43)]) rfl rfl rfl ?_
                refine b_ri rfl rfl ?_
                show ex_q (dt_fg L ρ) rc (d + 3, (121, 101, [some (eR a0), some (eI (a1)), some (eI (a2)), some (eI (i3)), some (eI (i5)), some (eI (i7)), some (eI (v34)), some (eI (v38)), some (eI (v43))], [eI (v43), eI (v61), eR a0]), f :: F, m57)
                refine w_cu (np := 104) (as := [eI (v61), eI (v43)]) (l2 := [some (eI (v61)), some (eI (v43))]) (rest := [eR a0]) rfl rfl rfl (Nat.ble_eq.mp rfl) rfl rfl rfl rfl ?_
                refine w_t (np := 1) (l2 := [some (eI (v61)), some (eI (v43))]) (s2 := [eI (v61)]) rfl rfl rfl ?_
                refine w_t (np := 2) (l2 := [some (eI (v61)), some (eI (v43))]) (s2 := [eI (v43), eI (v61)]) rfl rfl rfl ?_
                refine b_cgt (t1 := 9) (t2 := 5) rfl rfl rfl (ev_w_in (by omega) (by omega)) (ev_w_in (by omega) (by omega)) (fun g65 => ?_) (fun g65 => ?_)
                · have b66 : 1 ≤ v61 ∧ v61 ≤ 2147483647 := by omega
                  refine w_t (np := 10) (l2 := [some (eI (v61)), some (eI (v43))]) (s2 := [eI (v43)]) rfl rfl rfl ?_
                  refine b_ri rfl rfl ?_
                  show ex_q (dt_fg L ρ) rc (d + 3, (121, 104, [some (eR a0), some (eI (a1)), some (eI (a2)), some (eI (i3)), some (eI (i5)), some (eI (i7)), some (eI (v34)), some (eI (v38)), some (eI (v43))], [eI (v43), eR a0]), f :: F, m57)
                  refine j_pf (np := 107) (w := v43) rfl rfl I58 gA0 (by decide) (n := 15) rfl rfl (hO_i (lo := -2147483648) (hi := 2147483647) rfl (by omega)) ?_
                  intro m66 I67 W68
                  have F69 : Fr l_121 0 0 g μ m66 := F60.w W68 gA0 rfl
                  refine w_t (np := 109) (l2 := [some (eR a0), some (eI (a1)), some (eI (a2)), some (eI (i3)), some (eI (i5)), some (eI (i7)), some (eI (v34)), some (eI (v38)), some (eI (v43))]) (s2 := [eI (v43)]) rfl rfl rfl ?_
                  refine w_t (np := 110) (l2 := [some (eR a0), some (eI (a1)), some (eI (a2)), some (eI (v43)), some (eI (i5)), some (eI (i7)), some (eI (v34)), some (eI (v38)), some (eI (v43))]) (s2 := []) rfl rfl rfl ?_
                  refine w_t (np := 111) (l2 := [some (eR a0), some (eI (a1)), some (eI (a2)), some (eI (v43)), some (eI (i5)), some (eI (i7)), some (eI (v34)), some (eI (v38)), some (eI (v43))]) (s2 := [eI (1)]) rfl rfl rfl ?_
                  refine w_t (np := 113) (l2 := [some (eR a0), some (eI (a1)), some (eI (a2)), some (eI (v43)), some (eI (i5)), some (eI (i7)), some (eI (v34)), some (eI (v38)), some (eI (v43))]) (s2 := [eI (v34), eI (1)]) rfl rfl rfl ?_
                  refine w_t (np := 114) (l2 := [some (eR a0), some (eI (a1)), some (eI (a2)), some (eI (v43)), some (eI (i5)), some (eI (i7)), some (eI (v34)), some (eI (v38)), some (eI (v43))]) (s2 := [eI (3), eI (v34), eI (1)]) rfl rfl rfl ?_
                  obtain ⟨v70, e71, b72⟩ := h_irem (a := v34) (k := 3) (by decide) (by decide) (show (-2147483648 : Int) ≤ v34 ∧ (v34 : Int) ≤ 2147483647 by omega)
                  have b73 : 0 ≤ v70 ∧ v70 ≤ 2 := by omega
                  refine w_t (np := 115) (l2 := [some (eR a0), some (eI (a1)), some (eI (a2)), some (eI (v43)), some (eI (i5)), some (eI (i7)), some (eI (v34)), some (eI (v38)), some (eI (v43))]) (s2 := [eI (v70), eI (1)]) rfl (e71 _ _) rfl ?_
                  obtain ⟨v74, e75⟩ : ∃ zz : Int, zz = (1) - (v70) := ⟨_, rfl⟩
                  have b76 : -1 ≤ v74 ∧ v74 ≤ 1 := by omega
                  refine w_t (np := 116) (l2 := [some (eR a0), some (eI (a1)), some (eI (a2)), some (eI (v43)), some (eI (i5)), some (eI (i7)), some (eI (v34)), some (eI (v38)), some (eI (v43))]) (s2 := [eI (v74)]) rfl (b_isub (by rw [← e75]; exact ev_w_in (by omega) (by omega))) rfl ?_
                  refine w_t (np := 118) (l2 := [some (eR a0), some (eI (a1)), some (eI (a2)), some (eI (v43)), some (eI (v74)), some (eI (i7)), some (eI (v34)), some (eI (v38)), some (eI (v43))]) (s2 := []) rfl rfl rfl ?_
                  obtain ⟨v77, e78⟩ : ∃ zz : Int, zz = (i7) + (1) := ⟨_, rfl⟩
                  have b79 : 1 ≤ v77 ∧ v77 ≤ 890 := by omega
                  refine w_t (np := 121) (l2 := [some (eR a0), some (eI (a1)), some (eI (a2)), some (eI (v43)), some (eI (v74)), some (eI (v77)), some (eI (v34)), some (eI (v38)), some (eI (v43))]) (s2 := []) rfl (b_iinc rfl (by rw [← e78]; exact ev_w_in (by omega) (by omega)) rfl) rfl ?_
                  refine w_go (t1 := 8) rfl rfl ?_
                  exact ih2 (890 - (v77)).toNat (by omega) m66 (v43) (v74) (v77) (some (eI (v34))) (some (eI (v38))) (some (eI (v43))) I67 F69 (by omega) (by omega) (by omega)     rfl
                · have b66 : -2147483648 ≤ v61 ∧ v61 ≤ 888 := by omega
                  refine w_t (np := 6) (l2 := [some (eI (v61)), some (eI (v43))]) (s2 := [eI (v61)]) rfl rfl rfl ?_
                  refine w_go (t1 := 10) rfl rfl ?_
                  refine b_ri rfl rfl ?_
                  show ex_q (dt_fg L ρ) rc (d + 3, (121, 104, [some (eR a0), some (eI (a1)), some (eI (a2)), some (eI (i3)), some (eI (i5)), some (eI (i7)), some (eI (v34)), some (eI (v38)), some (eI (v43))], [eI (v61), eR a0]), f :: F, m57)
                  refine j_pf (np := 107) (w := v61) rfl rfl I58 gA0 (by decide) (n := 15) rfl rfl (hO_i (lo := -2147483648) (hi := 2147483647) rfl (by omega)) ?_
                  intro m66 I67 W68
                  have F69 : Fr l_121 0 0 g μ m66 := F60.w W68 gA0 rfl
                  refine w_t (np := 109) (l2 := [some (eR a0), some (eI (a1)), some (eI (a2)), some (eI (i3)), some (eI (i5)), some (eI (i7)), some (eI (v34)), some (eI (v38)), some (eI (v43))]) (s2 := [eI (v43)]) rfl rfl rfl ?_
                  refine w_t (np := 110) (l2 := [some (eR a0), some (eI (a1)), some (eI (a2)), some (eI (v43)), some (eI (i5)), some (eI (i7)), some (eI (v34)), some (eI (v38)), some (eI (v43))]) (s2 := []) rfl rfl rfl ?_
                  refine w_t (np := 111) (l2 := [some (eR a0), some (eI (a1)), some (eI (a2)), some (eI (v43)), some (eI (i5)), some (eI (i7)), some (eI (v34)), some (eI (v38)), some (eI (v43))]) (s2 := [eI (1)]) rfl rfl rfl ?_
                  refine w_t (np := 113) (l2 := [some (eR a0), some (eI (a1)), some (eI (a2)), some (eI (v43)), some (eI (i5)), some (eI (i7)), some (eI (v34)), some (eI (v38)), some (eI (v43))]) (s2 := [eI (v34), eI (1)]) rfl rfl rfl ?_
                  refine w_t (np := 114) (l2 := [some (eR a0), some (eI (a1)), some (eI (a2)), some (eI (v43)), some (eI (i5)), some (eI (i7)), some (eI (v34)), some (eI (v38)), some (eI (v43))]) (s2 := [eI (3), eI (v34), eI (1)]) rfl rfl rfl ?_
                  obtain ⟨v70, e71, b72⟩ := h_irem (a := v34) (k := 3) (by decide) (by decide) (show (-2147483648 : Int) ≤ v34 ∧ (v34 : Int) ≤ 2147483647 by omega)
                  have b73 : 0 ≤ v70 ∧ v70 ≤ 2 := by omega
                  refine w_t (np := 115) (l2 := [some (eR a0), some (eI (a1)), some (eI (a2)), some (eI (v43)), some (eI (i5)), some (eI (i7)), some (eI (v34)), some (eI (v38)), some (eI (v43))]) (s2 := [eI (v70), eI (1)]) rfl (e71 _ _) rfl ?_
                  obtain ⟨v74, e75⟩ : ∃ zz : Int, zz = (1) - (v70) := ⟨_, rfl⟩
                  have b76 : -1 ≤ v74 ∧ v74 ≤ 1 := by omega
                  refine w_t (np := 116) (l2 := [some (eR a0), some (eI (a1)), some (eI (a2)), some (eI (v43)), some (eI (i5)), some (eI (i7)), some (eI (v34)), some (eI (v38)), some (eI (v43))]) (s2 := [eI (v74)]) rfl (b_isub (by rw [← e75]; exact ev_w_in (by omega) (by omega))) rfl ?_
                  refine w_t (np := 118) (l2 := [some (eR a0), some (eI (a1)), some (eI (a2)), some (eI (v43)), some (eI (v74)), some (eI (i7)), some (eI (v34)), some (eI (v38)), some (eI (v43))]) (s2 := []) rfl rfl rfl ?_
                  obtain ⟨v77, e78⟩ : ∃ zz : Int, zz = (i7) + (1) := ⟨_, rfl⟩
                  have b79 : 1 ≤ v77 ∧ v77 ≤ 890 := by omega
                  refine w_t (np := 121) (l2 := [some (eR a0), some (eI (a1)), some (eI (a2)), some (eI (v43)), some (eI (v74)), some (eI (v77)), some (eI (v34)), some (eI (v38)), some (eI (v43))]) (s2 := []) rfl (b_iinc rfl (by rw [← e78]; exact ev_w_in (by omega) (by omega)) rfl) rfl ?_
                  refine w_go (t1 := 8) rfl rfl ?_
                  exact ih2 (890 - (v77)).toNat (by omega) m66 (v43) (v74) (v77) (some (eI (v34))) (some (eI (v38))) (some (eI (v43))) I67 F69 (by omega) (by omega) (by omega)     rfl
              · refine w_t (np := 6) (l2 := [some (eI (v38)), some (eI (v43))]) (s2 := [eI (v38)]) rfl rfl rfl ?_
                refine w_go (t1 := 10) rfl rfl ?_
                refine b_ri rfl rfl ?_
                show ex_q (dt_fg L ρ) rc (d + 3, (121, 101, [some (eR a0), some (eI (a1)), some (eI (a2)), some (eI (i3)), some (eI (i5)), some (eI (i7)), some (eI (v34)), some (eI (v38)), some (eI (v43))], [eI (v38), eI (v61), eR a0]), f :: F, m57)
                refine w_cu (np := 104) (as := [eI (v61), eI (v38)]) (l2 := [some (eI (v61)), some (eI (v38))]) (rest := [eR a0]) rfl rfl rfl (Nat.ble_eq.mp rfl) rfl rfl rfl rfl ?_
                refine w_t (np := 1) (l2 := [some (eI (v61)), some (eI (v38))]) (s2 := [eI (v61)]) rfl rfl rfl ?_
                refine w_t (np := 2) (l2 := [some (eI (v61)), some (eI (v38))]) (s2 := [eI (v38), eI (v61)]) rfl rfl rfl ?_
                refine b_cgt (t1 := 9) (t2 := 5) rfl rfl rfl (ev_w_in (by omega) (by omega)) (ev_w_in (by omega) (by omega)) (fun g65 => ?_) (fun g65 => ?_)
                · have b66 : 1 ≤ v61 ∧ v61 ≤ 2147483647 := by omega
                  refine w_t (np := 10) (l2 := [some (eI (v61)), some (eI (v38))]) (s2 := [eI (v38)]) rfl rfl rfl ?_
                  refine b_ri rfl rfl ?_
                  show ex_q (dt_fg L ρ) rc (d + 3, (121, 104, [some (eR a0), some (eI (a1)), some (eI (a2)), some (eI (i3)), some (eI (i5)), some (eI (i7)), some (eI (v34)), some (eI (v38)), some (eI (v43))], [eI (v38), eR a0]), f :: F, m57)
                  refine j_pf (np := 107) (w := v38) rfl rfl I58 gA0 (by decide) (n := 15) rfl rfl (hO_i (lo := -2147483648) (hi := 2147483647) rfl (by omega)) ?_
                  intro m66 I67 W68
                  have F69 : Fr l_121 0 0 g μ m66 := F60.w W68 gA0 rfl
                  refine w_t (np := 109) (l2 := [some (eR a0), some (eI (a1)), some (eI (a2)), some (eI (i3)), some (eI (i5)), some (eI (i7)), some (eI (v34)), some (eI (v38)), some (eI (v43))]) (s2 := [eI (v43)]) rfl rfl rfl ?_
                  refine w_t (np := 110) (l2 := [some (eR a0), some (eI (a1)), some (eI (a2)), some (eI (v43)), some (eI (i5)), some (eI (i7)), some (eI (v34)), some (eI (v38)), some (eI (v43))]) (s2 := []) rfl rfl rfl ?_
                  refine w_t (np := 111) (l2 := [some (eR a0), some (eI (a1)), some (eI (a2)), some (eI (v43)), some (eI (i5)), some (eI (i7)), some (eI (v34)), some (eI (v38)), some (eI (v43))]) (s2 := [eI (1)]) rfl rfl rfl ?_
                  refine w_t (np := 113) (l2 := [some (eR a0), some (eI (a1)), some (eI (a2)), some (eI (v43)), some (eI (i5)), some (eI (i7)), some (eI (v34)), some (eI (v38)), some (eI (v43))]) (s2 := [eI (v34), eI (1)]) rfl rfl rfl ?_
                  refine w_t (np := 114) (l2 := [some (eR a0), some (eI (a1)), some (eI (a2)), some (eI (v43)), some (eI (i5)), some (eI (i7)), some (eI (v34)), some (eI (v38)), some (eI (v43))]) (s2 := [eI (3), eI (v34), eI (1)]) rfl rfl rfl ?_
                  obtain ⟨v70, e71, b72⟩ := h_irem (a := v34) (k := 3) (by decide) (by decide) (show (-2147483648 : Int) ≤ v34 ∧ (v34 : Int) ≤ 2147483647 by omega)
                  have b73 : 0 ≤ v70 ∧ v70 ≤ 2 := by omega
                  refine w_t (np := 115) (l2 := [some (eR a0), some (eI (a1)), some (eI (a2)), some (eI (v43)), some (eI (i5)), some (eI (i7)), some (eI (v34)), some (eI (v38)), some (eI (v43))]) (s2 := [eI (v70), eI (1)]) rfl (e71 _ _) rfl ?_
                  obtain ⟨v74, e75⟩ : ∃ zz : Int, zz = (1) - (v70) := ⟨_, rfl⟩
                  have b76 : -1 ≤ v74 ∧ v74 ≤ 1 := by omega
                  refine w_t (np := 116) (l2 := [some (eR a0), some (eI (a1)), some (eI (a2)), some (eI (v43)), some (eI (i5)), some (eI (i7)), some (eI (v34)), some (eI (v38)), some (eI (v43))]) (s2 := [eI (v74)]) rfl (b_isub (by rw [← e75]; exact ev_w_in (by omega) (by omega))) rfl ?_
                  refine w_t (np := 118) (l2 := [some (eR a0), some (eI (a1)), some (eI (a2)), some (eI (v43)), some (eI (v74)), some (eI (i7)), some (eI (v34)), some (eI (v38)), some (eI (v43))]) (s2 := []) rfl rfl rfl ?_
                  obtain ⟨v77, e78⟩ : ∃ zz : Int, zz = (i7) + (1) := ⟨_, rfl⟩
                  have b79 : 1 ≤ v77 ∧ v77 ≤ 890 := by omega
                  refine w_t (np := 121) (l2 := [some (eR a0), some (eI (a1)), some (eI (a2)), some (eI (v43)), some (eI (v74)), some (eI (v77)), some (eI (v34)), some (eI (v38)), some (eI (v43))]) (s2 := []) rfl (b_iinc rfl (by rw [← e78]; exact ev_w_in (by omega) (by omega)) rfl) rfl ?_
                  refine w_go (t1 := 8) rfl rfl ?_
                  exact ih2 (890 - (v77)).toNat (by omega) m66 (v43) (v74) (v77) (some (eI (v34))) (some (eI (v38))) (some (eI (v43))) I67 F69 (by omega) (by omega) (by omega)     rfl
                · have b66 : -2147483648 ≤ v61 ∧ v61 ≤ 889 := by omega
                  refine w_t (np := 6) (l2 := [some (eI (v61)), some (eI (v38))]) (s2 := [eI (v61)]) rfl rfl rfl ?_
                  refine w_go (t1 := 10) rfl rfl ?_
                  refine b_ri rfl rfl ?_
                  show ex_q (dt_fg L ρ) rc (d + 3, (121, 104, [some (eR a0), some (eI (a1)), some (eI (a2)), some (eI (i3)), some (eI (i5)), some (eI (i7)), some (eI (v34)), some (eI (v38)), some (eI (v43))], [eI (v61), eR a0]), f :: F, m57)
                  refine j_pf (np := 107) (w := v61) rfl rfl I58 gA0 (by decide) (n := 15) rfl rfl (hO_i (lo := -2147483648) (hi := 2147483647) rfl (by omega)) ?_
                  intro m66 I67 W68
                  have F69 : Fr l_121 0 0 g μ m66 := F60.w W68 gA0 rfl
                  refine w_t (np := 109) (l2 := [some (eR a0), some (eI (a1)), some (eI (a2)), some (eI (i3)), some (eI (i5)), some (eI (i7)), some (eI (v34)), some (eI (v38)), some (eI (v43))]) (s2 := [eI (v43)]) rfl rfl rfl ?_
                  refine w_t (np := 110) (l2 := [some (eR a0), some (eI (a1)), some (eI (a2)), some (eI (v43)), some (eI (i5)), some (eI (i7)), some (eI (v34)), some (eI (v38)), some (eI (v43))]) (s2 := []) rfl rfl rfl ?_
                  refine w_t (np := 111) (l2 := [some (eR a0), some (eI (a1)), some (eI (a2)), some (eI (v43)), some (eI (i5)), some (eI (i7)), some (eI (v34)), some (eI (v38)), some (eI (v43))]) (s2 := [eI (1)]) rfl rfl rfl ?_
                  refine w_t (np := 113) (l2 := [some (eR a0), some (eI (a1)), some (eI (a2)), some (eI (v43)), some (eI (i5)), some (eI (i7)), some (eI (v34)), some (eI (v38)), some (eI (v43))]) (s2 := [eI (v34), eI (1)]) rfl rfl rfl ?_
                  refine w_t (np := 114) (l2 := [some (eR a0), some (eI (a1)), some (eI (a2)), some (eI (v43)), some (eI (i5)), some (eI (i7)), some (eI (v34)), some (eI (v38)), some (eI (v43))]) (s2 := [eI (3), eI (v34), eI (1)]) rfl rfl rfl ?_
                  obtain ⟨v70, e71, b72⟩ := h_irem (a := v34) (k := 3) (by decide) (by decide) (show (-2147483648 : Int) ≤ v34 ∧ (v34 : Int) ≤ 2147483647 by omega)
                  have b73 : 0 ≤ v70 ∧ v70 ≤ 2 := by omega
                  refine w_t (np := 115) (l2 := [some (eR a0), some (eI (a1)), some (eI (a2)), some (eI (v43)), some (eI (i5)), some (eI (i7)), some (eI (v34)), some (eI (v38)), some (eI (v43))]) (s2 := [eI (v70), eI (1)]) rfl (e71 _ _) rfl ?_
                  obtain ⟨v74, e75⟩ : ∃ zz : Int, zz = (1) - (v70) := ⟨_, rfl⟩
                  have b76 : -1 ≤ v74 ∧ v74 ≤ 1 := by omega
                  refine w_t (np := 116) (l2 := [some (eR a0), some (eI (a1)), some (eI (a2)), some (eI (v43)), some (eI (i5)), some (eI (i7)), some (eI (v34)), some (eI (v38)), some (eI (v43))]) (s2 := [eI (v74)]) rfl (b_isub (by rw [← e75]; exact ev_w_in (by omega) (by omega))) rfl ?_
                  refine w_t (np := 118) (l2 := [some (eR a0), some (eI (a1)), some (eI (a2)), some (eI (v43)), some (eI (v74)), some (eI (i7)), some (eI (v34)), some (eI (v38)), some (eI (v43))]) (s2 := []) rfl rfl rfl ?_
                  obtain ⟨v77, e78⟩ : ∃ zz : Int, zz = (i7) + (1) := ⟨_, rfl⟩
                  have b79 : 1 ≤ v77 ∧ v77 ≤ 890 := by omega
                  refine w_t (np := 121) (l2 := [some (eR a0), some (eI (a1)), some (eI (a2)), some (eI (v43)), some (eI (v74)), some (eI (v77)), some (eI (v34)), some (eI (v38)), some (eI (v43))]) (s2 := []) rfl (b_iinc rfl (by rw [← e78]; exact ev_w_in (by omega) (by omega)) rfl) rfl ?_
                  refine w_go (t1 := 8) rfl rfl ?_
                  exact ih2 (890 - (v77)).toNat (by omega) m66 (v43) (v74) (v77) (some (eI (v34))) (some (eI (v38))) (some (eI (v43))) I67 F69 (by omega) (by omega) (by omega)     rfl
            · have b51 : 2 ≤ v46 ∧ v46 ≤ 2 := by omega
              exact v_rv rfl rfl (K m12 I13 F14)
        · have b38 : -1 ≤ v34 ∧ v34 ≤ -1 := by omega
          refine w_t (np := 39) (l2 := [some (eR a0), some (eI (a1)), some (eI (a2)), some (eI (i3)), some (eI (i5)), some (eI (i7)), some (eI (v34)), o10, o11]) (s2 := [eI (-1)]) rfl rfl rfl ?_
          refine w_go (t1 := 46) rfl rfl ?_
          refine w_t (np := 48) (l2 := [some (eR a0), some (eI (a1)), some (eI (a2)), some (eI (i3)), some (eI (i5)), some (eI (i7)), some (eI (v34)), some (eI (-1)), o11]) (s2 := []) rfl rfl rfl ?_
          refine w_t (np := 50) (l2 := [some (eR a0), some (eI (a1)), some (eI (a2)), some (eI (i3)), some (eI (i5)), some (eI (i7)), some (eI (v34)), some (eI (-1)), o11]) (s2 := [eI (-1)]) rfl rfl rfl ?_
          refine b_ige (t1 := 57) (t2 := 53) rfl rfl rfl rfl (fun g38 => absurd g38 (by decide)) (fun g38 => ?_)
          refine w_t (np := 54) (l2 := [some (eR a0), some (eI (a1)), some (eI (a2)), some (eI (i3)), some (eI (i5)), some (eI (i7)), some (eI (v34)), some (eI (-1)), o11]) (s2 := [eI (-1)]) rfl rfl rfl ?_
          refine w_go (t1 := 63) rfl rfl ?_
          refine w_t (np := 65) (l2 := [some (eR a0), some (eI (a1)), some (eI (a2)), some (eI (i3)), some (eI (i5)), some (eI (i7)), some (eI (v34)), some (eI (-1)), some (eI (-1))]) (s2 := []) rfl rfl rfl ?_
          refine w_t (np := 67) (l2 := [some (eR a0), some (eI (a1)), some (eI (a2)), some (eI (i3)), some (eI (i5)), some (eI (i7)), some (eI (v34)), some (eI (-1)), some (eI (-1))]) (s2 := [eI (-1)]) rfl rfl rfl ?_
          refine b_ilt (t1 := 78) (t2 := 70) rfl rfl rfl rfl (fun g39 => ?_) (fun g39 => absurd g39 (by decide))
          exact v_rv rfl rfl (K m12 I13 F14)
  exact hL8 _ μ (a1) (a2) (0) (none) (none) (none) hI F0 (by omega) (by omega) (by decide)     rfl
