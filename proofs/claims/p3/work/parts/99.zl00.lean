/-! methods, walked -/
theorem s_335 {L : Nat} {ρ : Nat → Int} {rc : eQ} {d : Nat} {f : eFr} {F : List eFr} {μ : eM} {g : Nat → Nat} {a0 : Nat} {a1 : Int} {a2 : Int} (hI : SI g μ) (gA0 : g a0 = 52) (bA1 : 0 ≤ a1 ∧ a1 ≤ 9) (bA2 : 1 ≤ a2 ∧ a2 ≤ 9) (hS : wW 9 a2 (μ.1 (μ.1 a0 52).toNat a1.toNat) (μ.1 (μ.1 a0 52).toNat ((a1 + a2) % 10).toNat) ≠ 0) (K : ∀ (v : Int), (0 ≤ v ∧ v ≤ 7) → ex_q (dt_fg L ρ) rc (d + 11, (f.1, f.2.1, f.2.2.1, eI v :: f.2.2.2), F, μ)) : ex_q (dt_fg L ρ) rc (d + 10, (335, 0, [some (eR a0), some (eI (a1)), some (eI (a2)), none], []), f :: F, μ) := by
  obtain ⟨v1, e2, b3, z4⟩ := hI.ref (k := 52) gA0 (by decide) (n := 69) rfl (by decide) rfl
  have b3 : g v1 = 86 := Nat.eq_of_beq_eq_true b3
  rw [e2, Int.toNat_natCast] at hS
  obtain ⟨k0, hk0, hk1, hk2, hk3⟩ := so_ex (by omega) hS
  refine w_t (np := 1) (l2 := [some (eR a0), some (eI (a1)), some (eI (a2)), none]) (s2 := [eI (0)]) rfl rfl rfl ?_
  refine w_t (np := 2) (l2 := [some (eR a0), some (eI (a1)), some (eI (a2)), some (eI (0))]) (s2 := []) rfl rfl rfl ?_
  have hL2 : ∀ (n5 : Nat) (i7 : Int), (0 ≤ i7 ∧ i7 ≤ 7) → i7 ≤ (k0 : Int) → n5 = (8 - i7).toNat → ex_q (dt_fg L ρ) rc (d + 10, (335, 2, [some (eR a0), some (eI (a1)), some (eI (a2)), some (eI (i7))], []), f :: F, μ) := by
    intro n5
    induction n5 using Nat.strongRecOn with
    | _ n5 ih6 =>
    intro i7 b8 r9 hn10
    refine v_gs (np := 5) rfl rfl ?_
    refine w_t (np := 6) (l2 := [some (eR a0), some (eI (a1)), some (eI (a2)), some (eI (i7))]) (s2 := [eI (i7), eR 22]) rfl rfl rfl ?_
    refine j_sx (np := 7) (n := 8) (lo := 1) (hi := 4) rfl rfl rfl (by decide) (by decide) (by decide) rfl rfl (by decide) (by omega) (by omega) ?_
    intro v11 e12 b13
    refine w_t (np := 8) (l2 := [some (eR a0), some (eI (a1)), some (eI (a2)), some (eI (i7))]) (s2 := [eI (a2), eI (v11)]) rfl rfl rfl ?_
    refine b_cgt (t1 := 55) (t2 := 11) rfl rfl rfl (ev_w_in (by omega) (by omega)) (ev_w_in (by omega) (by omega)) (fun g14 => ?_) (fun g14 => ?_)
    · have b15 : 2 ≤ v11 ∧ v11 ≤ 4 := by omega
      have b16 : 1 ≤ a2 ∧ a2 ≤ 3 := by omega
      obtain ⟨v15, e16⟩ : ∃ zz : Int, zz = (i7) + (1) := ⟨_, rfl⟩
      have b17 : 1 ≤ v15 ∧ v15 ≤ 8 := by omega
      refine w_t (np := 58) (l2 := [some (eR a0), some (eI (a1)), some (eI (a2)), some (eI (v15))]) (s2 := []) rfl (b_iinc rfl (by rw [← e16]; exact ev_w_in (by omega) (by omega)) rfl) rfl ?_
      refine w_go (t1 := 2) rfl rfl ?_
      have h18 := so_1 (by omega) e12 (show a2 < v11 by omega) hk1 r9
      exact ih6 (8 - (v15)).toNat (by omega) (v15) (by omega)    (by omega) rfl
    · refine v_gs (np := 14) rfl rfl ?_
      refine w_t (np := 15) (l2 := [some (eR a0), some (eI (a1)), some (eI (a2)), some (eI (i7))]) (s2 := [eI (i7), eR 23]) rfl rfl rfl ?_
      refine j_sx (np := 16) (n := 8) (lo := 0) (hi := 3) rfl rfl rfl (by decide) (by decide) (by decide) rfl rfl (by decide) (by omega) (by omega) ?_
      intro v15 e16 b17
      refine w_t (np := 17) (l2 := [some (eR a0), some (eI (a1)), some (eI (a2)), some (eI (i7))]) (s2 := [eR a0, eI (v15)]) rfl (s_an rfl (pos_g hI gA0 (by decide))) rfl ?_
      refine w_gf (np := 20) (v := eR v1) rfl rfl (hI.kd gA0 (by decide) (n := 69) rfl) (by rw [e2]; rfl) ?_
      refine w_t (np := 21) (l2 := [some (eR a0), some (eI (a1)), some (eI (a2)), some (eI (i7))]) (s2 := [eI (a1), eR v1, eI (v15)]) rfl rfl rfl ?_
      refine j_al (np := 22) rfl rfl hI b3 (by decide) (n := 10) rfl rfl (lo := -1) (hi := 3) (fun _ => rfl) (by omega) (by omega) ?_
      intro v18 e19 b20
      refine b_cne (t1 := 55) (t2 := 25) rfl rfl rfl (ev_w_in (by omega) (by omega)) (ev_w_in (by omega) (by omega)) (fun g21 => ?_) (fun g21 => ?_)
      · obtain ⟨v22, e23⟩ : ∃ zz : Int, zz = (i7) + (1) := ⟨_, rfl⟩
        have b24 : 1 ≤ v22 ∧ v22 ≤ 8 := by omega
        refine w_t (np := 58) (l2 := [some (eR a0), some (eI (a1)), some (eI (a2)), some (eI (v22))]) (s2 := []) rfl (b_iinc rfl (by rw [← e23]; exact ev_w_in (by omega) (by omega)) rfl) rfl ?_
        refine w_go (t1 := 2) rfl rfl ?_
        have h25 := so_2 (by omega) e16 (show ¬ v15 = v18 by omega) (by rw [← e19]; exact hk2) r9
        exact ih6 (8 - (v22)).toNat (by omega) (v22) (by omega)    (by omega) rfl
      · have b22 : 0 ≤ v18 ∧ v18 ≤ 3 := by omega
        refine w_t (np := 26) (l2 := [some (eR a0), some (eI (a1)), some (eI (a2)), some (eI (i7))]) (s2 := [eR a0]) rfl (s_an rfl (pos_g hI gA0 (by decide))) rfl ?_
        refine w_t (np := 27) (l2 := [some (eR a0), some (eI (a1)), some (eI (a2)), some (eI (i7))]) (s2 := [eI (a2), eR a0]) rfl rfl rfl ?_
        refine v_gs (np := 30) rfl rfl ?_
        refine w_t (np := 31) (l2 := [some (eR a0), some (eI (a1)), some (eI (a2)), some (eI (i7))]) (s2 := [eI (i7), eR 22, eI (a2), eR a0]) rfl rfl rfl ?_
        refine j_sx (np := 32) (n := 8) (lo := 1) (hi := 4) rfl rfl rfl (by decide) (by decide) (by decide) rfl rfl (by decide) (by omega) (by omega) ?_
        intro v22 e23 b24
        rw [e23.trans e12.symm]
        obtain ⟨v25, e26⟩ : ∃ zz : Int, zz = (a2) - (v11) := ⟨_, rfl⟩
        have b27 : -3 ≤ v25 ∧ v25 ≤ 8 := by omega
        refine w_t (np := 33) (l2 := [some (eR a0), some (eI (a1)), some (eI (a2)), some (eI (i7))]) (s2 := [eI (v25), eR a0]) rfl (b_isub (by rw [← e26]; exact ev_w_in (by omega) (by omega))) rfl ?_
        refine v_gs (np := 36) rfl rfl ?_
        refine w_t (np := 37) (l2 := [some (eR a0), some (eI (a1)), some (eI (a2)), some (eI (i7))]) (s2 := [eI (i7), eR 24, eI (v25), eR a0]) rfl rfl rfl ?_
        refine j_sx (np := 38) (n := 8) (lo := 0) (hi := 3) rfl rfl rfl (by decide) (by decide) (by decide) rfl rfl (by decide) (by omega) (by omega) ?_
        intro v28 e29 b30
        refine w_t (np := 39) (l2 := [some (eR a0), some (eI (a1)), some (eI (a2)), some (eI (i7))]) (s2 := [eR a0, eI (v28), eI (v25), eR a0]) rfl (s_an rfl (pos_g hI gA0 (by decide))) rfl ?_
        refine w_gf (np := 42) (v := eR v1) rfl rfl (hI.kd gA0 (by decide) (n := 69) rfl) (by rw [e2]; rfl) ?_
        refine w_t (np := 43) (l2 := [some (eR a0), some (eI (a1)), some (eI (a2)), some (eI (i7))]) (s2 := [eI (a1), eR v1, eI (v28), eI (v25), eR a0]) rfl rfl rfl ?_
        refine w_t (np := 44) (l2 := [some (eR a0), some (eI (a1)), some (eI (a2)), some (eI (i7))]) (s2 := [eI (a2), eI (a1), eR v1, eI (v28), eI (v25), eR a0]) rfl rfl rfl ?_
        obtain ⟨v31, e32⟩ : ∃ zz : Int, zz = (a1) + (a2) := ⟨_, rfl⟩
        have b33 : 1 ≤ v31 ∧ v31 ≤ 18 := by omega
        refine w_t (np := 45) (l2 := [some (eR a0), some (eI (a1)), some (eI (a2)), some (eI (i7))]) (s2 := [eI (v31), eR v1, eI (v28), eI (v25), eR a0]) rfl (b_iadd (by rw [← e32]; exact ev_w_in (by omega) (by omega))) rfl ?_
        refine w_cu (np := 48) (as := [eI (v31)]) (l2 := [some (eI (v31))]) (rest := [eR v1, eI (v28), eI (v25), eR a0]) rfl rfl rfl (Nat.ble_eq.mp rfl) rfl rfl rfl rfl ?_
        refine s_217e (a0 := v31) hI (by omega) ?_
        intro v34 b35 h36
        show ex_q (dt_fg L ρ) rc (d + 10, (335, 48, [some (eR a0), some (eI (a1)), some (eI (a2)), some (eI (i7))], [eI (v34), eR v1, eI (v28), eI (v25), eR a0]), f :: F, μ)
        refine j_al (np := 49) rfl rfl hI b3 (by decide) (n := 10) rfl rfl (lo := -1) (hi := 3) (fun _ => rfl) (by omega) (by omega) ?_
        intro v37 e38 b39
        refine w_cw (np := 52) (as := [eI (v25), eI (v28), eI (v37)]) (l2 := [some (eR a0), some (eI (v25)), some (eI (v28)), some (eI (v37)), none, none]) (rest := []) rfl rfl rfl (Nat.ble_eq.mp rfl) rfl rfl rfl (hI.kd gA0 (by decide) (n := 69) rfl) rfl ?_
        refine s_329 9 (a1 := v25) (a2 := v28) (a3 := v37) hI gA0 (by omega) (by omega) (by omega) (by omega) ?_
        intro v40 b41 e42
        show ex_q (dt_fg L ρ) rc (d + 10, (335, 52, [some (eR a0), some (eI (a1)), some (eI (a2)), some (eI (i7))], [eI (v40)]), f :: F, μ)
        refine b_ine (t1 := 61) (t2 := 55) rfl rfl rfl (ev_w_in (by omega) (by omega)) (fun g43 => ?_) (fun g43 => ?_)
        · refine w_t (np := 62) (l2 := [some (eR a0), some (eI (a1)), some (eI (a2)), some (eI (i7))]) (s2 := [eI (i7)]) rfl rfl rfl ?_
          exact b_ri rfl rfl (K (i7) (by omega))
        · have b44 : 0 ≤ v40 ∧ v40 ≤ 0 := by omega
          obtain ⟨v44, e45⟩ : ∃ zz : Int, zz = (i7) + (1) := ⟨_, rfl⟩
          have b46 : 1 ≤ v44 ∧ v44 ≤ 8 := by omega
          refine w_t (np := 58) (l2 := [some (eR a0), some (eI (a1)), some (eI (a2)), some (eI (v44))]) (s2 := []) rfl (b_iinc rfl (by rw [← e45]; exact ev_w_in (by omega) (by omega)) rfl) rfl ?_
          refine w_go (t1 := 2) rfl rfl ?_
          have h47 := so_3 (l := v37) (by omega) e12 e29 (show v25 = a2 - v11 by omega) e42 (by omega) (by rw [← e38, show (v34) = (a1 + a2) % 10 by omega]; exact hk3) r9
          exact ih6 (8 - (v44)).toNat (by omega) (v44) (by omega)    (by omega) rfl
  exact hL2 _ (0) (by decide)    (by omega) rfl
def l_336 : List Nat := [20224]
theorem s_336 {L : Nat} {ρ : Nat → Int} {rc : eQ} {d : Nat} {f : eFr} {F : List eFr} {μ : eM} {g : Nat → Nat} {a0 : Nat} {a1 : Int} {a2 : Int} {a3 : Int} {rh : Int} (hI : SI g μ) (gA0 : g a0 = 52) (bA1 : 0 ≤ a1 ∧ a1 ≤ 95) (bA2 : 0 ≤ a2 ∧ a2 ≤ 9) (bA3 : 0 ≤ a3 ∧ a3 ≤ 7) (h_rh : μ.1 a0 49 = rh) (hp0 : rh ≤ 23) (K : ∀ (μ2 : eM) (rh2 : Int), SI g μ2 → Fr l_336 0 0 g μ μ2 → μ2.1 a0 49 = rh2 → (rh2 = rh) → ex_q (dt_fg L ρ) rc (d + 3, (f.1, f.2.1, f.2.2.1, f.2.2.2), F, μ2)) : ex_q (dt_fg L ρ) rc (d + 2, (336, 0, [some (eR a0), some (eI (a1)), some (eI (a2)), some (eI (a3)), none, none, none, none, none, none, none, none, none], []), f :: F, μ) := by
  have F0 : Fr l_336 0 0 g μ μ := Fr.r
  have b_rh : 0 ≤ rh ∧ rh ≤ 24 := by
    rw [← h_rh]
    exact hI.int gA0 (by decide) (n := 69) rfl (by decide) rfl
  refine w_t (np := 1) (l2 := [some (eR a0), some (eI (a1)), some (eI (a2)), some (eI (a3)), none, none, none, none, none, none, none, none, none]) (s2 := [eI (a3)]) rfl rfl rfl ?_
  refine w_t (np := 2) (l2 := [some (eR a0), some (eI (a1)), some (eI (a2)), some (eI (a3)), none, none, none, none, none, none, none, none, none]) (s2 := [eI (4), eI (a3)]) rfl rfl rfl ?_
  refine b_cge (t1 := 9) (t2 := 5) rfl rfl rfl (ev_w_in (by omega) (by omega)) rfl (fun g1 => ?_) (fun g1 => ?_)
  · have b2 : 4 ≤ a3 ∧ a3 ≤ 7 := by omega
    refine w_t (np := 10) (l2 := [some (eR a0), some (eI (a1)), some (eI (a2)), some (eI (a3)), none, none, none, none, none, none, none, none, none]) (s2 := [eI (1)]) rfl rfl rfl ?_
    refine w_t (np := 12) (l2 := [some (eR a0), some (eI (a1)), some (eI (a2)), some (eI (a3)), some (eI (1)), none, none, none, none, none, none, none, none]) (s2 := []) rfl rfl rfl ?_
    refine w_t (np := 14) (l2 := [some (eR a0), some (eI (a1)), some (eI (a2)), some (eI (a3)), some (eI (1)), none, none, none, none, none, none, none, none]) (s2 := [eI (1)]) rfl rfl rfl ?_
    refine w_cu (np := 17) (as := [eI (1)]) (l2 := [some (eI (1))]) (rest := []) rfl rfl rfl (Nat.ble_eq.mp rfl) rfl rfl rfl rfl ?_
    refine w_t (np := 1) (l2 := [some (eI (1))]) (s2 := [eI (1)]) rfl rfl rfl ?_
    refine b_ine (t1 := 8) (t2 := 4) rfl rfl rfl rfl (fun g2 => ?_) (fun g2 => absurd g2 (by decide))
    refine w_t (np := 9) (l2 := [some (eI (1))]) (s2 := [eI (3)]) rfl rfl rfl ?_
    refine b_ri rfl rfl ?_
    show ex_q (dt_fg L ρ) rc (d + 2, (336, 17, [some (eR a0), some (eI (a1)), some (eI (a2)), some (eI (a3)), some (eI (1)), none, none, none, none, none, none, none, none], [eI (3)]), f :: F, μ)
    refine w_t (np := 19) (l2 := [some (eR a0), some (eI (a1)), some (eI (a2)), some (eI (a3)), some (eI (1)), some (eI (3)), none, none, none, none, none, none, none]) (s2 := []) rfl rfl rfl ?_
    refine v_gs (np := 22) rfl rfl ?_
    refine w_t (np := 23) (l2 := [some (eR a0), some (eI (a1)), some (eI (a2)), some (eI (a3)), some (eI (1)), some (eI (3)), none, none, none, none, none, none, none]) (s2 := [eI (a3), eR 22]) rfl rfl rfl ?_
    refine j_si (np := 24) (n := 8) (lo := 1) (hi := 4) rfl rfl rfl (by decide) (by decide) (by decide) rfl rfl (by decide) (by omega) (by omega) ?_
    intro v3 b5
    refine w_t (np := 26) (l2 := [some (eR a0), some (eI (a1)), some (eI (a2)), some (eI (a3)), some (eI (1)), some (eI (3)), some (eI (v3)), none, none, none, none, none, none]) (s2 := []) rfl rfl rfl ?_
    refine w_t (np := 27) (l2 := [some (eR a0), some (eI (a1)), some (eI (a2)), some (eI (a3)), some (eI (1)), some (eI (3)), some (eI (v3)), none, none, none, none, none, none]) (s2 := [eI (a3)]) rfl rfl rfl ?_
    refine w_t (np := 28) (l2 := [some (eR a0), some (eI (a1)), some (eI (a2)), some (eI (a3)), some (eI (1)), some (eI (3)), some (eI (v3)), none, none, none, none, none, none]) (s2 := [eI (4), eI (a3)]) rfl rfl rfl ?_
    obtain ⟨v6, e7, b8⟩ := h_irem (a := a3) (k := 4) (by decide) (by decide) (show (-2147483648 : Int) ≤ a3 ∧ (a3 : Int) ≤ 2147483647 by omega)
    have b10 : v6 = (a3) % 4 := b8.1 (by omega)
    clear b8
    have b9 : 0 ≤ v6 ∧ v6 ≤ 3 := by omega
    refine w_t (np := 29) (l2 := [some (eR a0), some (eI (a1)), some (eI (a2)), some (eI (a3)), some (eI (1)), some (eI (3)), some (eI (v3)), none, none, none, none, none, none]) (s2 := [eI (v6)]) rfl (e7 _ _) rfl ?_
    refine w_t (np := 31) (l2 := [some (eR a0), some (eI (a1)), some (eI (a2)), some (eI (a3)), some (eI (1)), some (eI (3)), some (eI (v3)), some (eI (v6)), none, none, none, none, none]) (s2 := []) rfl rfl rfl ?_
    refine w_t (np := 32) (l2 := [some (eR a0), some (eI (a1)), some (eI (a2)), some (eI (a3)), some (eI (1)), some (eI (3)), some (eI (v3)), some (eI (v6)), none, none, none, none, none]) (s2 := [eI (4)]) rfl rfl rfl ?_
    refine w_t (np := 33) (l2 := [some (eR a0), some (eI (a1)), some (eI (a2)), some (eI (a3)), some (eI (1)), some (eI (3)), some (eI (v3)), some (eI (v6)), none, none, none, none, none]) (s2 := [eI (a1), eI (4)]) rfl rfl rfl ?_
    obtain ⟨v11, e12⟩ : ∃ zz : Int, zz = (4) * (a1) := ⟨_, rfl⟩
    have b13 : 0 ≤ v11 ∧ v11 ≤ 380 := by omega
    refine w_t (np := 34) (l2 := [some (eR a0), some (eI (a1)), some (eI (a2)), some (eI (a3)), some (eI (1)), some (eI (3)), some (eI (v3)), some (eI (v6)), none, none, none, none, none]) (s2 := [eI (v11)]) rfl (b_imul (by rw [← e12]; exact ev_w_in (by omega) (by omega))) rfl ?_
    refine w_t (np := 36) (l2 := [some (eR a0), some (eI (a1)), some (eI (a2)), some (eI (a3)), some (eI (1)), some (eI (3)), some (eI (v3)), some (eI (v6)), some (eI (v11)), none, none, none, none]) (s2 := []) rfl rfl rfl ?_
    refine w_t (np := 37) (l2 := [some (eR a0), some (eI (a1)), some (eI (a2)), some (eI (a3)), some (eI (1)), some (eI (3)), some (eI (v3)), some (eI (v6)), some (eI (v11)), none, none, none, none]) (s2 := [eR a0]) rfl (s_an rfl (pos_g hI gA0 (by decide))) rfl ?_
    refine j_gr (np := 40) rfl rfl hI gA0 (by decide) (n := 69) rfl rfl rfl ?_
    intro v14 e15 b16 z17
    have b16 : g v14 = 82 := Nat.eq_of_beq_eq_true b16
    refine w_t (np := 42) (l2 := [some (eR a0), some (eI (a1)), some (eI (a2)), some (eI (a3)), some (eI (1)), some (eI (3)), some (eI (v3)), some (eI (v6)), some (eI (v11)), none, none, none, none]) (s2 := [eI (v11), eR v14]) rfl rfl rfl ?_
    refine j_al (np := 43) rfl rfl hI b16 (by decide) (n := 384) rfl rfl (lo := -2147483648) (hi := 2147483647) (fun _ => rfl) (by omega) (by omega) ?_
    intro v18 e19 b20
    refine w_t (np := 45) (l2 := [some (eR a0), some (eI (a1)), some (eI (a2)), some (eI (a3)), some (eI (1)), some (eI (3)), some (eI (v3)), some (eI (v6)), some (eI (v11)), some (eI (v18)), none, none, none]) (s2 := []) rfl rfl rfl ?_
    refine w_t (np := 46) (l2 := [some (eR a0), some (eI (a1)), some (eI (a2)), some (eI (a3)), some (eI (1)), some (eI (3)), some (eI (v3)), some (eI (v6)), some (eI (v11)), some (eI (v18)), none, none, none]) (s2 := [eR a0]) rfl (s_an rfl (pos_g hI gA0 (by decide))) rfl ?_
    refine w_gf (np := 49) (v := eR v14) rfl rfl (hI.kd gA0 (by decide) (n := 69) rfl) (by rw [e15]; rfl) ?_
    refine w_t (np := 51) (l2 := [some (eR a0), some (eI (a1)), some (eI (a2)), some (eI (a3)), some (eI (1)), some (eI (3)), some (eI (v3)), some (eI (v6)), some (eI (v11)), some (eI (v18)), none, none, none]) (s2 := [eI (v11), eR v14]) rfl rfl rfl ?_
    refine w_t (np := 52) (l2 := [some (eR a0), some (eI (a1)), some (eI (a2)), some (eI (a3)), some (eI (1)), some (eI (3)), some (eI (v3)), some (eI (v6)), some (eI (v11)), some (eI (v18)), none, none, none]) (s2 := [eI (1), eI (v11), eR v14]) rfl rfl rfl ?_
    obtain ⟨v21, e22⟩ : ∃ zz : Int, zz = (v11) + (1) := ⟨_, rfl⟩
    have b23 : 1 ≤ v21 ∧ v21 ≤ 381 := by omega
    refine w_t (np := 53) (l2 := [some (eR a0), some (eI (a1)), some (eI (a2)), some (eI (a3)), some (eI (1)), some (eI (3)), some (eI (v3)), some (eI (v6)), some (eI (v11)), some (eI (v18)), none, none, none]) (s2 := [eI (v21), eR v14]) rfl (b_iadd (by rw [← e22]; exact ev_w_in (by omega) (by omega))) rfl ?_
    refine j_al (np := 54) rfl rfl hI b16 (by decide) (n := 384) rfl rfl (lo := -2147483648) (hi := 2147483647) (fun _ => rfl) (by omega) (by omega) ?_
    intro v24 e25 b26
    refine w_t (np := 56) (l2 := [some (eR a0), some (eI (a1)), some (eI (a2)), some (eI (a3)), some (eI (1)), some (eI (3)), some (eI (v3)), some (eI (v6)), some (eI (v11)), some (eI (v18)), some (eI (v24)), none, none]) (s2 := []) rfl rfl rfl ?_
    refine w_t (np := 57) (l2 := [some (eR a0), some (eI (a1)), some (eI (a2)), some (eI (a3)), some (eI (1)), some (eI (3)), some (eI (v3)), some (eI (v6)), some (eI (v11)), some (eI (v18)), some (eI (v24)), none, none]) (s2 := [eR a0]) rfl (s_an rfl (pos_g hI gA0 (by decide))) rfl ?_
    refine w_gf (np := 60) (v := eR v14) rfl rfl (hI.kd gA0 (by decide) (n := 69) rfl) (by rw [e15]; rfl) ?_
    refine w_t (np := 62) (l2 := [some (eR a0), some (eI (a1)), some (eI (a2)), some (eI (a3)), some (eI (1)), some (eI (3)), some (eI (v3)), some (eI (v6)), some (eI (v11)), some (eI (v18)), some (eI (v24)), none, none]) (s2 := [eI (v11), eR v14]) rfl rfl rfl ?_
    refine w_t (np := 63) (l2 := [some (eR a0), some (eI (a1)), some (eI (a2)), some (eI (a3)), some (eI (1)), some (eI (3)), some (eI (v3)), some (eI (v6)), some (eI (v11)), some (eI (v18)), some (eI (v24)), none, none]) (s2 := [eI (2), eI (v11), eR v14]) rfl rfl rfl ?_
    obtain ⟨v27, e28⟩ : ∃ zz : Int, zz = (v11) + (2) := ⟨_, rfl⟩
    have b29 : 2 ≤ v27 ∧ v27 ≤ 382 := by omega
    refine w_t (np := 64) (l2 := [some (eR a0), some (eI (a1)), some (eI (a2)), some (eI (a3)), some (eI (1)), some (eI (3)), some (eI (v3)), some (eI (v6)), some (eI (v11)), some (eI (v18)), some (eI (v24)), none, none]) (s2 := [eI (v27), eR v14]) rfl (b_iadd (by rw [← e28]; exact ev_w_in (by omega) (by omega))) rfl ?_
    refine j_al (np := 65) rfl rfl hI b16 (by decide) (n := 384) rfl rfl (lo := -2147483648) (hi := 2147483647) (fun _ => rfl) (by omega) (by omega) ?_
    intro v30 e31 b32
    refine w_t (np := 67) (l2 := [some (eR a0), some (eI (a1)), some (eI (a2)), some (eI (a3)), some (eI (1)), some (eI (3)), some (eI (v3)), some (eI (v6)), some (eI (v11)), some (eI (v18)), some (eI (v24)), some (eI (v30)), none]) (s2 := []) rfl rfl rfl ?_
    refine w_t (np := 68) (l2 := [some (eR a0), some (eI (a1)), some (eI (a2)), some (eI (a3)), some (eI (1)), some (eI (3)), some (eI (v3)), some (eI (v6)), some (eI (v11)), some (eI (v18)), some (eI (v24)), some (eI (v30)), none]) (s2 := [eR a0]) rfl (s_an rfl (pos_g hI gA0 (by decide))) rfl ?_
    refine w_gf (np := 71) (v := eR v14) rfl rfl (hI.kd gA0 (by decide) (n := 69) rfl) (by rw [e15]; rfl) ?_
    refine w_t (np := 73) (l2 := [some (eR a0), some (eI (a1)), some (eI (a2)), some (eI (a3)), some (eI (1)), some (eI (3)), some (eI (v3)), some (eI (v6)), some (eI (v11)), some (eI (v18)), some (eI (v24)), some (eI (v30)), none]) (s2 := [eI (v11), eR v14]) rfl rfl rfl ?_
    refine w_t (np := 74) (l2 := [some (eR a0), some (eI (a1)), some (eI (a2)), some (eI (a3)), some (eI (1)), some (eI (3)), some (eI (v3)), some (eI (v6)), some (eI (v11)), some (eI (v18)), some (eI (v24)), some (eI (v30)), none]) (s2 := [eI (3), eI (v11), eR v14]) rfl rfl rfl ?_
    obtain ⟨v33, e34⟩ : ∃ zz : Int, zz = (v11) + (3) := ⟨_, rfl⟩
    have b35 : 3 ≤ v33 ∧ v33 ≤ 383 := by omega
    refine w_t (np := 75) (l2 := [some (eR a0), some (eI (a1)), some (eI (a2)), some (eI (a3)), some (eI (1)), some (eI (3)), some (eI (v3)), some (eI (v6)), some (eI (v11)), some (eI (v18)), some (eI (v24)), some (eI (v30)), none]) (s2 := [eI (v33), eR v14]) rfl (b_iadd (by rw [← e34]; exact ev_w_in (by omega) (by omega))) rfl ?_
    refine j_al (np := 76) rfl rfl hI b16 (by decide) (n := 384) rfl rfl (lo := -2147483648) (hi := 2147483647) (fun _ => rfl) (by omega) (by omega) ?_
    intro v36 e37 b38
    refine w_t (np := 78) (l2 := [some (eR a0), some (eI (a1)), some (eI (a2)), some (eI (a3)), some (eI (1)), some (eI (3)), some (eI (v3)), some (eI (v6)), some (eI (v11)), some (eI (v18)), some (eI (v24)), some (eI (v30)), some (eI (v36))]) (s2 := []) rfl rfl rfl ?_
    refine w_t (np := 80) (l2 := [some (eR a0), some (eI (a1)), some (eI (a2)), some (eI (a3)), some (eI (1)), some (eI (3)), some (eI (v3)), some (eI (v6)), some (eI (v11)), some (eI (v18)), some (eI (v24)), some (eI (v30)), some (eI (v36))]) (s2 := [eI (v6)]) rfl rfl rfl ?_
    refine b_ine (t1 := 102) (t2 := 83) rfl rfl rfl (ev_w_in (by omega) (by omega)) (fun g39 => ?_) (fun g39 => ?_)
    · have b40 : 1 ≤ v6 ∧ v6 ≤ 3 := by omega
      refine w_t (np := 104) (l2 := [some (eR a0), some (eI (a1)), some (eI (a2)), some (eI (a3)), some (eI (1)), some (eI (3)), some (eI (v3)), some (eI (v6)), some (eI (v11)), some (eI (v18)), some (eI (v24)), some (eI (v30)), some (eI (v36))]) (s2 := [eI (v6)]) rfl rfl rfl ?_
      refine w_t (np := 105) (l2 := [some (eR a0), some (eI (a1)), some (eI (a2)), some (eI (a3)), some (eI (1)), some (eI (3)), some (eI (v3)), some (eI (v6)), some (eI (v11)), some (eI (v18)), some (eI (v24)), some (eI (v30)), some (eI (v36))]) (s2 := [eI (1), eI (v6)]) rfl rfl rfl ?_
      refine b_cne (t1 := 130) (t2 := 108) rfl rfl rfl (ev_w_in (by omega) (by omega)) rfl (fun g40 => ?_) (fun g40 => ?_)
      · have b41 : 2 ≤ v6 ∧ v6 ≤ 3 := by omega
        refine w_t (np := 131) (l2 := [some (eR a0), some (eI (a1)), some (eI (a2)), some (eI (a3)), some (eI (1)), some (eI (3)), some (eI (v3)), some (eI (v6)), some (eI (v11)), some (eI (v18)), some (eI (v24)), some (eI (v30)), some (eI (v36))]) (s2 := [eR a0]) rfl (s_an rfl (pos_g hI gA0 (by decide))) rfl ?_
        refine w_t (np := 133) (l2 := [some (eR a0), some (eI (a1)), some (eI (a2)), some (eI (a3)), some (eI (1)), some (eI (3)), some (eI (v3)), some (eI (v6)), some (eI (v11)), some (eI (v18)), some (eI (v24)), some (eI (v30)), some (eI (v36))]) (s2 := [eI (1), eR a0]) rfl rfl rfl ?_
        refine w_t (np := 135) (l2 := [some (eR a0), some (eI (a1)), some (eI (a2)), some (eI (a3)), some (eI (1)), some (eI (3)), some (eI (v3)), some (eI (v6)), some (eI (v11)), some (eI (v18)), some (eI (v24)), some (eI (v30)), some (eI (v36))]) (s2 := [eI (v18), eI (1), eR a0]) rfl rfl rfl ?_
        refine w_t (np := 136) (l2 := [some (eR a0), some (eI (a1)), some (eI (a2)), some (eI (a3)), some (eI (1)), some (eI (3)), some (eI (v3)), some (eI (v6)), some (eI (v11)), some (eI (v18)), some (eI (v24)), some (eI (v30)), some (eI (v36))]) (s2 := [eI (a2), eI (v18), eI (1), eR a0]) rfl rfl rfl ?_
        refine w_t (np := 137) (l2 := [some (eR a0), some (eI (a1)), some (eI (a2)), some (eI (a3)), some (eI (1)), some (eI (3)), some (eI (v3)), some (eI (v6)), some (eI (v11)), some (eI (v18)), some (eI (v24)), some (eI (v30)), some (eI (v36))]) (s2 := [eI (0), eI (a2), eI (v18), eI (1), eR a0]) rfl rfl rfl ?_
        refine w_cu (np := 140) (as := [eI (a2), eI (0)]) (l2 := [some (eI (a2)), some (eI (0))]) (rest := [eI (v18), eI (1), eR a0]) rfl rfl rfl (Nat.ble_eq.mp rfl) rfl rfl rfl rfl ?_
        refine s_218e (a0 := a2) (a1 := 0) hI (by omega) (by decide) ?_
        intro v41 b42 h43
        show ex_q (dt_fg L ρ) rc (d + 2, (336, 140, [some (eR a0), some (eI (a1)), some (eI (a2)), some (eI (a3)), some (eI (1)), some (eI (3)), some (eI (v3)), some (eI (v6)), some (eI (v11)), some (eI (v18)), some (eI (v24)), some (eI (v30)), some (eI (v36))], [eI (v41), eI (v18), eI (1), eR a0]), f :: F, μ)
        obtain ⟨v44, e45, b46⟩ : ∃ zz : Int, ev_w ((v18) + (v41)) = zz ∧ (-2147483648 ≤ zz ∧ zz ≤ 2147483647) := ⟨_, rfl, hw_bd _⟩
        refine w_t (np := 141) (l2 := [some (eR a0), some (eI (a1)), some (eI (a2)), some (eI (a3)), some (eI (1)), some (eI (3)), some (eI (v3)), some (eI (v6)), some (eI (v11)), some (eI (v18)), some (eI (v24)), some (eI (v30)), some (eI (v36))]) (s2 := [eI (v44), eI (1), eR a0]) rfl (b_iadd e45) rfl ?_
        refine w_t (np := 143) (l2 := [some (eR a0), some (eI (a1)), some (eI (a2)), some (eI (a3)), some (eI (1)), some (eI (3)), some (eI (v3)), some (eI (v6)), some (eI (v11)), some (eI (v18)), some (eI (v24)), some (eI (v30)), some (eI (v36))]) (s2 := [eI (v24), eI (v44), eI (1), eR a0]) rfl rfl rfl ?_
        refine w_t (np := 144) (l2 := [some (eR a0), some (eI (a1)), some (eI (a2)), some (eI (a3)), some (eI (1)), some (eI (3)), some (eI (v3)), some (eI (v6)), some (eI (v11)), some (eI (v18)), some (eI (v24)), some (eI (v30)), some (eI (v36))]) (s2 := [eI (a2), eI (v24), eI (v44), eI (1), eR a0]) rfl rfl rfl ?_
        refine w_t (np := 145) (l2 := [some (eR a0), some (eI (a1)), some (eI (a2)), some (eI (a3)), some (eI (1)), some (eI (3)), some (eI (v3)), some (eI (v6)), some (eI (v11)), some (eI (v18)), some (eI (v24)), some (eI (v30)), some (eI (v36))]) (s2 := [eI (1), eI (a2), eI (v24), eI (v44), eI (1), eR a0]) rfl rfl rfl ?_
        refine w_cu (np := 148) (as := [eI (a2), eI (1)]) (l2 := [some (eI (a2)), some (eI (1))]) (rest := [eI (v24), eI (v44), eI (1), eR a0]) rfl rfl rfl (Nat.ble_eq.mp rfl) rfl rfl rfl rfl ?_
        refine s_218e (a0 := a2) (a1 := 1) hI (by omega) (by decide) ?_
        intro v47 b48 h49
        show ex_q (dt_fg L ρ) rc (d + 2, (336, 148, [some (eR a0), some (eI (a1)), some (eI (a2)), some (eI (a3)), some (eI (1)), some (eI (3)), some (eI (v3)), some (eI (v6)), some (eI (v11)), some (eI (v18)), some (eI (v24)), some (eI (v30)), some (eI (v36))], [eI (v47), eI (v24), eI (v44), eI (1), eR a0]), f :: F, μ)
        obtain ⟨v50, e51, b52⟩ : ∃ zz : Int, ev_w ((v24) + (v47)) = zz ∧ (-2147483648 ≤ zz ∧ zz ≤ 2147483647) := ⟨_, rfl, hw_bd _⟩
        refine w_t (np := 149) (l2 := [some (eR a0), some (eI (a1)), some (eI (a2)), some (eI (a3)), some (eI (1)), some (eI (3)), some (eI (v3)), some (eI (v6)), some (eI (v11)), some (eI (v18)), some (eI (v24)), some (eI (v30)), some (eI (v36))]) (s2 := [eI (v50), eI (v44), eI (1), eR a0]) rfl (b_iadd e51) rfl ?_
        refine w_t (np := 151) (l2 := [some (eR a0), some (eI (a1)), some (eI (a2)), some (eI (a3)), some (eI (1)), some (eI (3)), some (eI (v3)), some (eI (v6)), some (eI (v11)), some (eI (v18)), some (eI (v24)), some (eI (v30)), some (eI (v36))]) (s2 := [eI (v30), eI (v50), eI (v44), eI (1), eR a0]) rfl rfl rfl ?_
        refine w_t (np := 152) (l2 := [some (eR a0), some (eI (a1)), some (eI (a2)), some (eI (a3)), some (eI (1)), some (eI (3)), some (eI (v3)), some (eI (v6)), some (eI (v11)), some (eI (v18)), some (eI (v24)), some (eI (v30)), some (eI (v36))]) (s2 := [eI (a2), eI (v30), eI (v50), eI (v44), eI (1), eR a0]) rfl rfl rfl ?_
        refine w_t (np := 153) (l2 := [some (eR a0), some (eI (a1)), some (eI (a2)), some (eI (a3)), some (eI (1)), some (eI (3)), some (eI (v3)), some (eI (v6)), some (eI (v11)), some (eI (v18)), some (eI (v24)), some (eI (v30)), some (eI (v36))]) (s2 := [eI (2), eI (a2), eI (v30), eI (v50), eI (v44), eI (1), eR a0]) rfl rfl rfl ?_
        refine w_cu (np := 156) (as := [eI (a2), eI (2)]) (l2 := [some (eI (a2)), some (eI (2))]) (rest := [eI (v30), eI (v50), eI (v44), eI (1), eR a0]) rfl rfl rfl (Nat.ble_eq.mp rfl) rfl rfl rfl rfl ?_
        refine s_218e (a0 := a2) (a1 := 2) hI (by omega) (by decide) ?_
        intro v53 b54 h55
        show ex_q (dt_fg L ρ) rc (d + 2, (336, 156, [some (eR a0), some (eI (a1)), some (eI (a2)), some (eI (a3)), some (eI (1)), some (eI (3)), some (eI (v3)), some (eI (v6)), some (eI (v11)), some (eI (v18)), some (eI (v24)), some (eI (v30)), some (eI (v36))], [eI (v53), eI (v30), eI (v50), eI (v44), eI (1), eR a0]), f :: F, μ)
        obtain ⟨v56, e57, b58⟩ : ∃ zz : Int, ev_w ((v30) + (v53)) = zz ∧ (-2147483648 ≤ zz ∧ zz ≤ 2147483647) := ⟨_, rfl, hw_bd _⟩
        refine w_t (np := 157) (l2 := [some (eR a0), some (eI (a1)), some (eI (a2)), some (eI (a3)), some (eI (1)), some (eI (3)), some (eI (v3)), some (eI (v6)), some (eI (v11)), some (eI (v18)), some (eI (v24)), some (eI (v30)), some (eI (v36))]) (s2 := [eI (v56), eI (v50), eI (v44), eI (1), eR a0]) rfl (b_iadd e57) rfl ?_
        refine w_t (np := 159) (l2 := [some (eR a0), some (eI (a1)), some (eI (a2)), some (eI (a3)), some (eI (1)), some (eI (3)), some (eI (v3)), some (eI (v6)), some (eI (v11)), some (eI (v18)), some (eI (v24)), some (eI (v30)), some (eI (v36))]) (s2 := [eI (v36), eI (v56), eI (v50), eI (v44), eI (1), eR a0]) rfl rfl rfl ?_
        refine w_t (np := 160) (l2 := [some (eR a0), some (eI (a1)), some (eI (a2)), some (eI (a3)), some (eI (1)), some (eI (3)), some (eI (v3)), some (eI (v6)), some (eI (v11)), some (eI (v18)), some (eI (v24)), some (eI (v30)), some (eI (v36))]) (s2 := [eI (a2), eI (v36), eI (v56), eI (v50), eI (v44), eI (1), eR a0]) rfl rfl rfl ?_
        refine w_t (np := 161) (l2 := [some (eR a0), some (eI (a1)), some (eI (a2)), some (eI (a3)), some (eI (1)), some (eI (3)), some (eI (v3)), some (eI (v6)), some (eI (v11)), some (eI (v18)), some (eI (v24)), some (eI (v30)), some (eI (v36))]) (s2 := [eI (3), eI (a2), eI (v36), eI (v56), eI (v50), eI (v44), eI (1), eR a0]) rfl rfl rfl ?_
        refine w_cu (np := 164) (as := [eI (a2), eI (3)]) (l2 := [some (eI (a2)), some (eI (3))]) (rest := [eI (v36), eI (v56), eI (v50), eI (v44), eI (1), eR a0]) rfl rfl rfl (Nat.ble_eq.mp rfl) rfl rfl rfl rfl ?_
        refine s_218e (a0 := a2) (a1 := 3) hI (by omega) (by decide) ?_
        intro v59 b60 h61
        show ex_q (dt_fg L ρ) rc (d + 2, (336, 164, [some (eR a0), some (eI (a1)), some (eI (a2)), some (eI (a3)), some (eI (1)), some (eI (3)), some (eI (v3)), some (eI (v6)), some (eI (v11)), some (eI (v18)), some (eI (v24)), some (eI (v30)), some (eI (v36))], [eI (v59), eI (v36), eI (v56), eI (v50), eI (v44), eI (1), eR a0]), f :: F, μ)
        obtain ⟨v62, e63, b64⟩ : ∃ zz : Int, ev_w ((v36) + (v59)) = zz ∧ (-2147483648 ≤ zz ∧ zz ≤ 2147483647) := ⟨_, rfl, hw_bd _⟩
        refine w_t (np := 165) (l2 := [some (eR a0), some (eI (a1)), some (eI (a2)), some (eI (a3)), some (eI (1)), some (eI (3)), some (eI (v3)), some (eI (v6)), some (eI (v11)), some (eI (v18)), some (eI (v24)), some (eI (v30)), some (eI (v36))]) (s2 := [eI (v62), eI (v56), eI (v50), eI (v44), eI (1), eR a0]) rfl (b_iadd e63) rfl ?_
        refine w_t (np := 167) (l2 := [some (eR a0), some (eI (a1)), some (eI (a2)), some (eI (a3)), some (eI (1)), some (eI (3)), some (eI (v3)), some (eI (v6)), some (eI (v11)), some (eI (v18)), some (eI (v24)), some (eI (v30)), some (eI (v36))]) (s2 := [eI (v6), eI (v62), eI (v56), eI (v50), eI (v44), eI (1), eR a0]) rfl rfl rfl ?_
        refine w_t (np := 168) (l2 := [some (eR a0), some (eI (a1)), some (eI (a2)), some (eI (a3)), some (eI (1)), some (eI (3)), some (eI (v3)), some (eI (v6)), some (eI (v11)), some (eI (v18)), some (eI (v24)), some (eI (v30)), some (eI (v36))]) (s2 := [eI (2), eI (v6), eI (v62), eI (v56), eI (v50), eI (v44), eI (1), eR a0]) rfl rfl rfl ?_
        refine b_cne (t1 := 177) (t2 := 171) rfl rfl rfl (ev_w_in (by omega) (by omega)) rfl (fun g65 => ?_) (fun g65 => ?_)
        · have b66 : 3 ≤ v6 ∧ v6 ≤ 3 := by omega
          refine w_t (np := 178) (l2 := [some (eR a0), some (eI (a1)), some (eI (a2)), some (eI (a3)), some (eI (1)), some (eI (3)), some (eI (v3)), some (eI (v6)), some (eI (v11)), some (eI (v18)), some (eI (v24)), some (eI (v30)), some (eI (v36))]) (s2 := [eI (a2), eI (v62), eI (v56), eI (v50), eI (v44), eI (1), eR a0]) rfl rfl rfl ?_
          refine w_t (np := 180) (l2 := [some (eR a0), some (eI (a1)), some (eI (a2)), some (eI (a3)), some (eI (1)), some (eI (3)), some (eI (v3)), some (eI (v6)), some (eI (v11)), some (eI (v18)), some (eI (v24)), some (eI (v30)), some (eI (v36))]) (s2 := [eI (v3), eI (a2), eI (v62), eI (v56), eI (v50), eI (v44), eI (1), eR a0]) rfl rfl rfl ?_
          obtain ⟨v66, e67⟩ : ∃ zz : Int, zz = (a2) + (v3) := ⟨_, rfl⟩
          have b68 : 1 ≤ v66 ∧ v66 ≤ 13 := by omega
          refine w_t (np := 181) (l2 := [some (eR a0), some (eI (a1)), some (eI (a2)), some (eI (a3)), some (eI (1)), some (eI (3)), some (eI (v3)), some (eI (v6)), some (eI (v11)), some (eI (v18)), some (eI (v24)), some (eI (v30)), some (eI (v36))]) (s2 := [eI (v66), eI (v62), eI (v56), eI (v50), eI (v44), eI (1), eR a0]) rfl (b_iadd (by rw [← e67]; exact ev_w_in (by omega) (by omega))) rfl ?_
          refine w_t (np := 183) (l2 := [some (eR a0), some (eI (a1)), some (eI (a2)), some (eI (a3)), some (eI (1)), some (eI (3)), some (eI (v3)), some (eI (v6)), some (eI (v11)), some (eI (v18)), some (eI (v24)), some (eI (v30)), some (eI (v36))]) (s2 := [eI (v6), eI (v66), eI (v62), eI (v56), eI (v50), eI (v44), eI (1), eR a0]) rfl rfl rfl ?_
          refine w_t (np := 184) (l2 := [some (eR a0), some (eI (a1)), some (eI (a2)), some (eI (a3)), some (eI (1)), some (eI (3)), some (eI (v3)), some (eI (v6)), some (eI (v11)), some (eI (v18)), some (eI (v24)), some (eI (v30)), some (eI (v36))]) (s2 := [eI (2), eI (v6), eI (v66), eI (v62), eI (v56), eI (v50), eI (v44), eI (1), eR a0]) rfl rfl rfl ?_
          refine b_cne (t1 := 191) (t2 := 187) rfl rfl rfl (ev_w_in (by omega) (by omega)) rfl (fun g69 => ?_) (fun g69 => False.elim (by omega))
          refine w_t (np := 192) (l2 := [some (eR a0), some (eI (a1)), some (eI (a2)), some (eI (a3)), some (eI (1)), some (eI (3)), some (eI (v3)), some (eI (v6)), some (eI (v11)), some (eI (v18)), some (eI (v24)), some (eI (v30)), some (eI (v36))]) (s2 := [eI (0), eI (v66), eI (v62), eI (v56), eI (v50), eI (v44), eI (1), eR a0]) rfl rfl rfl ?_
          refine w_cw (np := 195) (as := [eI (1), eI (v44), eI (v50), eI (v56), eI (v62), eI (v66), eI (0)]) (l2 := [some (eR a0), some (eI (1)), some (eI (v44)), some (eI (v50)), some (eI (v56)), some (eI (v62)), some (eI (v66)), some (eI (0)), none]) (rest := []) rfl rfl rfl (Nat.ble_eq.mp rfl) rfl rfl rfl (hI.kd gA0 (by decide) (n := 69) rfl) rfl ?_
          refine s_312 (a1 := 1) (a2 := v44) (a3 := v50) (a4 := v56) (a5 := v62) (a6 := v66) (a7 := 0) hI gA0 (by decide) (by omega) (by omega) (by omega) (by omega) (by omega) (by decide) h_rh (by omega) ?_
          intro m70 v73 I71 F72 e74 h75
          have F76 : Fr l_336 0 0 g μ m70 := F0.t F72 rfl
          have b77 : 0 ≤ v73 ∧ v73 ≤ 24 := by
            rw [← e74]
            exact I71.int gA0 (by decide) (n := 69) rfl (by decide) rfl
          show ex_q (dt_fg L ρ) rc (d + 2, (336, 195, [some (eR a0), some (eI (a1)), some (eI (a2)), some (eI (a3)), some (eI (1)), some (eI (3)), some (eI (v3)), some (eI (v6)), some (eI (v11)), some (eI (v18)), some (eI (v24)), some (eI (v30)), some (eI (v36))], []), f :: F, m70)
          exact v_rv rfl rfl (K m70 (v73) I71 F76 e74 (by omega))
        · have b66 : 2 ≤ v6 ∧ v6 ≤ 2 := by omega
          refine w_t (np := 172) (l2 := [some (eR a0), some (eI (a1)), some (eI (a2)), some (eI (a3)), some (eI (1)), some (eI (3)), some (eI (v3)), some (eI (v6)), some (eI (v11)), some (eI (v18)), some (eI (v24)), some (eI (v30)), some (eI (v36))]) (s2 := [eI (a2), eI (v62), eI (v56), eI (v50), eI (v44), eI (1), eR a0]) rfl rfl rfl ?_
          refine w_t (np := 173) (l2 := [some (eR a0), some (eI (a1)), some (eI (a2)), some (eI (a3)), some (eI (1)), some (eI (3)), some (eI (v3)), some (eI (v6)), some (eI (v11)), some (eI (v18)), some (eI (v24)), some (eI (v30)), some (eI (v36))]) (s2 := [eI (5), eI (a2), eI (v62), eI (v56), eI (v50), eI (v44), eI (1), eR a0]) rfl rfl rfl ?_
          obtain ⟨v66, e67⟩ : ∃ zz : Int, zz = (a2) + (5) := ⟨_, rfl⟩
          have b68 : 5 ≤ v66 ∧ v66 ≤ 14 := by omega
          refine w_t (np := 174) (l2 := [some (eR a0), some (eI (a1)), some (eI (a2)), some (eI (a3)), some (eI (1)), some (eI (3)), some (eI (v3)), some (eI (v6)), some (eI (v11)), some (eI (v18)), some (eI (v24)), some (eI (v30)), some (eI (v36))]) (s2 := [eI (v66), eI (v62), eI (v56), eI (v50), eI (v44), eI (1), eR a0]) rfl (b_iadd (by rw [← e67]; exact ev_w_in (by omega) (by omega))) rfl ?_
          refine w_go (t1 := 181) rfl rfl ?_
          refine w_t (np := 183) (l2 := [some (eR a0), some (eI (a1)), some (eI (a2)), some (eI (a3)), some (eI (1)), some (eI (3)), some (eI (v3)), some (eI (v6)), some (eI (v11)), some (eI (v18)), some (eI (v24)), some (eI (v30)), some (eI (v36))]) (s2 := [eI (v6), eI (v66), eI (v62), eI (v56), eI (v50), eI (v44), eI (1), eR a0]) rfl rfl rfl ?_
          refine w_t (np := 184) (l2 := [some (eR a0), some (eI (a1)), some (eI (a2)), some (eI (a3)), some (eI (1)), some (eI (3)), some (eI (v3)), some (eI (v6)), some (eI (v11)), some (eI (v18)), some (eI (v24)), some (eI (v30)), some (eI (v36))]) (s2 := [eI (2), eI (v6), eI (v66), eI (v62), eI (v56), eI (v50), eI (v44), eI (1), eR a0]) rfl rfl rfl ?_
          refine b_cne (t1 := 191) (t2 := 187) rfl rfl rfl (ev_w_in (by omega) (by omega)) rfl (fun g69 => False.elim (by omega)) (fun g69 => ?_)
          refine w_t (np := 188) (l2 := [some (eR a0), some (eI (a1)), some (eI (a2)), some (eI (a3)), some (eI (1)), some (eI (3)), some (eI (v3)), some (eI (v6)), some (eI (v11)), some (eI (v18)), some (eI (v24)), some (eI (v30)), some (eI (v36))]) (s2 := [eI (1), eI (v66), eI (v62), eI (v56), eI (v50), eI (v44), eI (1), eR a0]) rfl rfl rfl ?_
          refine w_go (t1 := 192) rfl rfl ?_
          refine w_cw (np := 195) (as := [eI (1), eI (v44), eI (v50), eI (v56), eI (v62), eI (v66), eI (1)]) (l2 := [some (eR a0), some (eI (1)), some (eI (v44)), some (eI (v50)), some (eI (v56)), some (eI (v62)), some (eI (v66)), some (eI (1)), none]) (rest := []) rfl rfl rfl (Nat.ble_eq.mp rfl) rfl rfl rfl (hI.kd gA0 (by decide) (n := 69) rfl) rfl ?_
          refine s_312 (a1 := 1) (a2 := v44) (a3 := v50) (a4 := v56) (a5 := v62) (a6 := v66) (a7 := 1) hI gA0 (by decide) (by omega) (by omega) (by omega) (by omega) (by omega) (by decide) h_rh (by omega) ?_
          intro m70 v73 I71 F72 e74 h75
          have F76 : Fr l_336 0 0 g μ m70 := F0.t F72 rfl
          have b77 : 0 ≤ v73 ∧ v73 ≤ 24 := by
            rw [← e74]
            exact I71.int gA0 (by decide) (n := 69) rfl (by decide) rfl
          show ex_q (dt_fg L ρ) rc (d + 2, (336, 195, [some (eR a0), some (eI (a1)), some (eI (a2)), some (eI (a3)), some (eI (1)), some (eI (3)), some (eI (v3)), some (eI (v6)), some (eI (v11)), some (eI (v18)), some (eI (v24)), some (eI (v30)), some (eI (v36))], []), f :: F, m70)
          exact v_rv rfl rfl (K m70 (v73) I71 F76 e74 (by omega))
      · have b41 : 1 ≤ v6 ∧ v6 ≤ 1 := by omega
        refine w_t (np := 109) (l2 := [some (eR a0), some (eI (a1)), some (eI (a2)), some (eI (a3)), some (eI (1)), some (eI (3)), some (eI (v3)), some (eI (v6)), some (eI (v11)), some (eI (v18)), some (eI (v24)), some (eI (v30)), some (eI (v36))]) (s2 := [eR a0]) rfl (s_an rfl (pos_g hI gA0 (by decide))) rfl ?_
        refine w_t (np := 111) (l2 := [some (eR a0), some (eI (a1)), some (eI (a2)), some (eI (a3)), some (eI (1)), some (eI (3)), some (eI (v3)), some (eI (v6)), some (eI (v11)), some (eI (v18)), some (eI (v24)), some (eI (v30)), some (eI (v36))]) (s2 := [eI (1), eR a0]) rfl rfl rfl ?_
        refine w_t (np := 113) (l2 := [some (eR a0), some (eI (a1)), some (eI (a2)), some (eI (a3)), some (eI (1)), some (eI (3)), some (eI (v3)), some (eI (v6)), some (eI (v11)), some (eI (v18)), some (eI (v24)), some (eI (v30)), some (eI (v36))]) (s2 := [eI (v18), eI (1), eR a0]) rfl rfl rfl ?_
        refine w_t (np := 115) (l2 := [some (eR a0), some (eI (a1)), some (eI (a2)), some (eI (a3)), some (eI (1)), some (eI (3)), some (eI (v3)), some (eI (v6)), some (eI (v11)), some (eI (v18)), some (eI (v24)), some (eI (v30)), some (eI (v36))]) (s2 := [eI (v24), eI (v18), eI (1), eR a0]) rfl rfl rfl ?_
        refine w_t (np := 117) (l2 := [some (eR a0), some (eI (a1)), some (eI (a2)), some (eI (a3)), some (eI (1)), some (eI (3)), some (eI (v3)), some (eI (v6)), some (eI (v11)), some (eI (v18)), some (eI (v24)), some (eI (v30)), some (eI (v36))]) (s2 := [eI (v30), eI (v24), eI (v18), eI (1), eR a0]) rfl rfl rfl ?_
        refine w_t (np := 119) (l2 := [some (eR a0), some (eI (a1)), some (eI (a2)), some (eI (a3)), some (eI (1)), some (eI (3)), some (eI (v3)), some (eI (v6)), some (eI (v11)), some (eI (v18)), some (eI (v24)), some (eI (v30)), some (eI (v36))]) (s2 := [eI (v36), eI (v30), eI (v24), eI (v18), eI (1), eR a0]) rfl rfl rfl ?_
        refine w_t (np := 120) (l2 := [some (eR a0), some (eI (a1)), some (eI (a2)), some (eI (a3)), some (eI (1)), some (eI (3)), some (eI (v3)), some (eI (v6)), some (eI (v11)), some (eI (v18)), some (eI (v24)), some (eI (v30)), some (eI (v36))]) (s2 := [eI (a2), eI (v36), eI (v30), eI (v24), eI (v18), eI (1), eR a0]) rfl rfl rfl ?_
        refine w_t (np := 122) (l2 := [some (eR a0), some (eI (a1)), some (eI (a2)), some (eI (a3)), some (eI (1)), some (eI (3)), some (eI (v3)), some (eI (v6)), some (eI (v11)), some (eI (v18)), some (eI (v24)), some (eI (v30)), some (eI (v36))]) (s2 := [eI (3), eI (a2), eI (v36), eI (v30), eI (v24), eI (v18), eI (1), eR a0]) rfl rfl rfl ?_
        obtain ⟨v41, e42⟩ : ∃ zz : Int, zz = (a2) + (3) := ⟨_, rfl⟩
        have b43 : 3 ≤ v41 ∧ v41 ≤ 12 := by omega
        refine w_t (np := 123) (l2 := [some (eR a0), some (eI (a1)), some (eI (a2)), some (eI (a3)), some (eI (1)), some (eI (3)), some (eI (v3)), some (eI (v6)), some (eI (v11)), some (eI (v18)), some (eI (v24)), some (eI (v30)), some (eI (v36))]) (s2 := [eI (v41), eI (v36), eI (v30), eI (v24), eI (v18), eI (1), eR a0]) rfl (b_iadd (by rw [← e42]; exact ev_w_in (by omega) (by omega))) rfl ?_
        refine w_t (np := 124) (l2 := [some (eR a0), some (eI (a1)), some (eI (a2)), some (eI (a3)), some (eI (1)), some (eI (3)), some (eI (v3)), some (eI (v6)), some (eI (v11)), some (eI (v18)), some (eI (v24)), some (eI (v30)), some (eI (v36))]) (s2 := [eI (1), eI (v41), eI (v36), eI (v30), eI (v24), eI (v18), eI (1), eR a0]) rfl rfl rfl ?_
        refine w_cw (np := 127) (as := [eI (1), eI (v18), eI (v24), eI (v30), eI (v36), eI (v41), eI (1)]) (l2 := [some (eR a0), some (eI (1)), some (eI (v18)), some (eI (v24)), some (eI (v30)), some (eI (v36)), some (eI (v41)), some (eI (1)), none]) (rest := []) rfl rfl rfl (Nat.ble_eq.mp rfl) rfl rfl rfl (hI.kd gA0 (by decide) (n := 69) rfl) rfl ?_
        refine s_312 (a1 := 1) (a2 := v18) (a3 := v24) (a4 := v30) (a5 := v36) (a6 := v41) (a7 := 1) hI gA0 (by decide) (by omega) (by omega) (by omega) (by omega) (by omega) (by decide) h_rh (by omega) ?_
        intro m44 v47 I45 F46 e48 h49
        have F50 : Fr l_336 0 0 g μ m44 := F0.t F46 rfl
        have b51 : 0 ≤ v47 ∧ v47 ≤ 24 := by
          rw [← e48]
          exact I45.int gA0 (by decide) (n := 69) rfl (by decide) rfl
        show ex_q (dt_fg L ρ) rc (d + 2, (336, 127, [some (eR a0), some (eI (a1)), some (eI (a2)), some (eI (a3)), some (eI (1)), some (eI (3)), some (eI (v3)), some (eI (v6)), some (eI (v11)), some (eI (v18)), some (eI (v24)), some (eI (v30)), some (eI (v36))], []), f :: F, m44)
        refine w_go (t1 := 195) rfl rfl ?_
        exact v_rv rfl rfl (K m44 (v47) I45 F50 e48 (by omega))
    · have b40 : 0 ≤ v6 ∧ v6 ≤ 0 := by omega
      refine w_t (np := 84) (l2 := [some (eR a0), some (eI (a1)), some (eI (a2)), some (eI (a3)), some (eI (1)), some (eI (3)), some (eI (v3)), some (eI (v6)), some (eI (v11)), some (eI (v18)), some (eI (v24)), some (eI (v30)), some (eI (v36))]) (s2 := [eR a0]) rfl (s_an rfl (pos_g hI gA0 (by decide))) rfl ?_
      refine w_t (np := 86) (l2 := [some (eR a0), some (eI (a1)), some (eI (a2)), some (eI (a3)), some (eI (1)), some (eI (3)), some (eI (v3)), some (eI (v6)), some (eI (v11)), some (eI (v18)), some (eI (v24)), some (eI (v30)), some (eI (v36))]) (s2 := [eI (1), eR a0]) rfl rfl rfl ?_
      refine w_t (np := 88) (l2 := [some (eR a0), some (eI (a1)), some (eI (a2)), some (eI (a3)), some (eI (1)), some (eI (3)), some (eI (v3)), some (eI (v6)), some (eI (v11)), some (eI (v18)), some (eI (v24)), some (eI (v30)), some (eI (v36))]) (s2 := [eI (v18), eI (1), eR a0]) rfl rfl rfl ?_
      refine w_t (np := 90) (l2 := [some (eR a0), some (eI (a1)), some (eI (a2)), some (eI (a3)), some (eI (1)), some (eI (3)), some (eI (v3)), some (eI (v6)), some (eI (v11)), some (eI (v18)), some (eI (v24)), some (eI (v30)), some (eI (v36))]) (s2 := [eI (v24), eI (v18), eI (1), eR a0]) rfl rfl rfl ?_
      refine w_t (np := 92) (l2 := [some (eR a0), some (eI (a1)), some (eI (a2)), some (eI (a3)), some (eI (1)), some (eI (3)), some (eI (v3)), some (eI (v6)), some (eI (v11)), some (eI (v18)), some (eI (v24)), some (eI (v30)), some (eI (v36))]) (s2 := [eI (v30), eI (v24), eI (v18), eI (1), eR a0]) rfl rfl rfl ?_
      refine w_t (np := 94) (l2 := [some (eR a0), some (eI (a1)), some (eI (a2)), some (eI (a3)), some (eI (1)), some (eI (3)), some (eI (v3)), some (eI (v6)), some (eI (v11)), some (eI (v18)), some (eI (v24)), some (eI (v30)), some (eI (v36))]) (s2 := [eI (v36), eI (v30), eI (v24), eI (v18), eI (1), eR a0]) rfl rfl rfl ?_
      refine w_t (np := 95) (l2 := [some (eR a0), some (eI (a1)), some (eI (a2)), some (eI (a3)), some (eI (1)), some (eI (3)), some (eI (v3)), some (eI (v6)), some (eI (v11)), some (eI (v18)), some (eI (v24)), some (eI (v30)), some (eI (v36))]) (s2 := [eI (a2), eI (v36), eI (v30), eI (v24), eI (v18), eI (1), eR a0]) rfl rfl rfl ?_
      refine w_t (np := 96) (l2 := [some (eR a0), some (eI (a1)), some (eI (a2)), some (eI (a3)), some (eI (1)), some (eI (3)), some (eI (v3)), some (eI (v6)), some (eI (v11)), some (eI (v18)), some (eI (v24)), some (eI (v30)), some (eI (v36))]) (s2 := [eI (0), eI (a2), eI (v36), eI (v30), eI (v24), eI (v18), eI (1), eR a0]) rfl rfl rfl ?_
      refine w_cw (np := 99) (as := [eI (1), eI (v18), eI (v24), eI (v30), eI (v36), eI (a2), eI (0)]) (l2 := [some (eR a0), some (eI (1)), some (eI (v18)), some (eI (v24)), some (eI (v30)), some (eI (v36)), some (eI (a2)), some (eI (0)), none]) (rest := []) rfl rfl rfl (Nat.ble_eq.mp rfl) rfl rfl rfl (hI.kd gA0 (by decide) (n := 69) rfl) rfl ?_
      refine s_312 (a1 := 1) (a2 := v18) (a3 := v24) (a4 := v30) (a5 := v36) (a6 := a2) (a7 := 0) hI gA0 (by decide) (by omega) (by omega) (by omega) (by omega) (by omega) (by decide) h_rh (by omega) ?_
      intro m40 v43 I41 F42 e44 h45
      have F46 : Fr l_336 0 0 g μ m40 := F0.t F42 rfl
      have b47 : 0 ≤ v43 ∧ v43 ≤ 24 := by
        rw [← e44]
        exact I41.int gA0 (by decide) (n := 69) rfl (by decide) rfl
      show ex_q (dt_fg L ρ) rc (d + 2, (336, 99, [some (eR a0), some (eI (a1)), some (eI (a2)), some (eI (a3)), some (eI (1)), some (eI (3)), some (eI (v3)), some (eI (v6)), some (eI (v11)), some (eI (v18)), some (eI (v24)), some (eI (v30)), some (eI (v36))], []), f :: F, m40)
      refine w_go (t1 := 195) rfl rfl ?_
      exact v_rv rfl rfl (K m40 (v43) I41 F46 e44 (by omega))
  · have b2 : 0 ≤ a3 ∧ a3 ≤ 3 := by omega
    refine w_t (np := 6) (l2 := [some (eR a0), some (eI (a1)), some (eI (a2)), some (eI (a3)), none, none, none, none, none, none, none, none, none]) (s2 := [eI (0)]) rfl rfl rfl ?_
    refine w_go (t1 := 10) rfl rfl ?_
    refine w_t (np := 12) (l2 := [some (eR a0), some (eI (a1)), some (eI (a2)), some (eI (a3)), some (eI (0)), none, none, none, none, none, none, none, none]) (s2 := []) rfl rfl rfl ?_
    refine w_t (np := 14) (l2 := [some (eR a0), some (eI (a1)), some (eI (a2)), some (eI (a3)), some (eI (0)), none, none, none, none, none, none, none, none]) (s2 := [eI (0)]) rfl rfl rfl ?_
    refine w_cu (np := 17) (as := [eI (0)]) (l2 := [some (eI (0))]) (rest := []) rfl rfl rfl (Nat.ble_eq.mp rfl) rfl rfl rfl rfl ?_
    refine w_t (np := 1) (l2 := [some (eI (0))]) (s2 := [eI (0)]) rfl rfl rfl ?_
    refine b_ine (t1 := 8) (t2 := 4) rfl rfl rfl rfl (fun g2 => absurd g2 (by decide)) (fun g2 => ?_)
    refine w_t (np := 5) (l2 := [some (eI (0))]) (s2 := [eI (1)]) rfl rfl rfl ?_
    refine w_go (t1 := 9) rfl rfl ?_
    refine b_ri rfl rfl ?_
    show ex_q (dt_fg L ρ) rc (d + 2, (336, 17, [some (eR a0), some (eI (a1)), some (eI (a2)), some (eI (a3)), some (eI (0)), none, none, none, none, none, none, none, none], [eI (1)]), f :: F, μ)
    refine w_t (np := 19) (l2 := [some (eR a0), some (eI (a1)), some (eI (a2)), some (eI (a3)), some (eI (0)), some (eI (1)), none, none, none, none, none, none, none]) (s2 := []) rfl rfl rfl ?_
    refine v_gs (np := 22) rfl rfl ?_
    refine w_t (np := 23) (l2 := [some (eR a0), some (eI (a1)), some (eI (a2)), some (eI (a3)), some (eI (0)), some (eI (1)), none, none, none, none, none, none, none]) (s2 := [eI (a3), eR 22]) rfl rfl rfl ?_
    refine j_si (np := 24) (n := 8) (lo := 1) (hi := 4) rfl rfl rfl (by decide) (by decide) (by decide) rfl rfl (by decide) (by omega) (by omega) ?_
    intro v3 b5
    refine w_t (np := 26) (l2 := [some (eR a0), some (eI (a1)), some (eI (a2)), some (eI (a3)), some (eI (0)), some (eI (1)), some (eI (v3)), none, none, none, none, none, none]) (s2 := []) rfl rfl rfl ?_
    refine w_t (np := 27) (l2 := [some (eR a0), some (eI (a1)), some (eI (a2)), some (eI (a3)), some (eI (0)), some (eI (1)), some (eI (v3)), none, none, none, none, none, none]) (s2 := [eI (a3)]) rfl rfl rfl ?_
    refine w_t (np := 28) (l2 := [some (eR a0), some (eI (a1)), some (eI (a2)), some (eI (a3)), some (eI (0)), some (eI (1)), some (eI (v3)), none, none, none, none, none, none]) (s2 := [eI (4), eI (a3)]) rfl rfl rfl ?_
    obtain ⟨v6, e7, b8⟩ := h_irem (a := a3) (k := 4) (by decide) (by decide) (show (-2147483648 : Int) ≤ a3 ∧ (a3 : Int) ≤ 2147483647 by omega)
    have b10 : v6 = (a3) % 4 := b8.1 (by omega)
    clear b8
    have b9 : 0 ≤ v6 ∧ v6 ≤ 3 := by omega
    refine w_t (np := 29) (l2 := [some (eR a0), some (eI (a1)), some (eI (a2)), some (eI (a3)), some (eI (0)), some (eI (1)), some (eI (v3)), none, none, none, none, none, none]) (s2 := [eI (v6)]) rfl (e7 _ _) rfl ?_
    refine w_t (np := 31) (l2 := [some (eR a0), some (eI (a1)), some (eI (a2)), some (eI (a3)), some (eI (0)), some (eI (1)), some (eI (v3)), some (eI (v6)), none, none, none, none, none]) (s2 := []) rfl rfl rfl ?_
    refine w_t (np := 32) (l2 := [some (eR a0), some (eI (a1)), some (eI (a2)), some (eI (a3)), some (eI (0)), some (eI (1)), some (eI (v3)), some (eI (v6)), none, none, none, none, none]) (s2 := [eI (4)]) rfl rfl rfl ?_
    refine w_t (np := 33) (l2 := [some (eR a0), some (eI (a1)), some (eI (a2)), some (eI (a3)), some (eI (0)), some (eI (1)), some (eI (v3)), some (eI (v6)), none, none, none, none, none]) (s2 := [eI (a1), eI (4)]) rfl rfl rfl ?_
    obtain ⟨v11, e12⟩ : ∃ zz : Int, zz = (4) * (a1) := ⟨_, rfl⟩
    have b13 : 0 ≤ v11 ∧ v11 ≤ 380 := by omega
    refine w_t (np := 34) (l2 := [some (eR a0), some (eI (a1)), some (eI (a2)), some (eI (a3)), some (eI (0)), some (eI (1)), some (eI (v3)), some (eI (v6)), none, none, none, none, none]) (s2 := [eI (v11)]) rfl (b_imul (by rw [← e12]; exact ev_w_in (by omega) (by omega))) rfl ?_
    refine w_t (np := 36) (l2 := [some (eR a0), some (eI (a1)), some (eI (a2)), some (eI (a3)), some (eI (0)), some (eI (1)), some (eI (v3)), some (eI (v6)), some (eI (v11)), none, none, none, none]) (s2 := []) rfl rfl rfl ?_
    refine w_t (np := 37) (l2 := [some (eR a0), some (eI (a1)), some (eI (a2)), some (eI (a3)), some (eI (0)), some (eI (1)), some (eI (v3)), some (eI (v6)), some (eI (v11)), none, none, none, none]) (s2 := [eR a0]) rfl (s_an rfl (pos_g hI gA0 (by decide))) rfl ?_
    refine j_gr (np := 40) rfl rfl hI gA0 (by decide) (n := 69) rfl rfl rfl ?_
    intro v14 e15 b16 z17
    have b16 : g v14 = 82 := Nat.eq_of_beq_eq_true b16
    refine w_t (np := 42) (l2 := [some (eR a0), some (eI (a1)), some (eI (a2)), some (eI (a3)), some (eI (0)), some (eI (1)), some (eI (v3)), some (eI (v6)), some (eI (v11)), none, none, none, none]) (s2 := [eI (v11), eR v14]) rfl rfl rfl ?_
    refine j_al (np := 43) rfl rfl hI b16 (by decide) (n := 384) rfl rfl (lo := -2147483648) (hi := 2147483647) (fun _ => rfl) (by omega) (by omega) ?_
    intro v18 e19 b20
    refine w_t (np := 45) (l2 := [some (eR a0), some (eI (a1)), some (eI (a2)), some (eI (a3)), some (eI (0)), some (eI (1)), some (eI (v3)), some (eI (v6)), some (eI (v11)), some (eI (v18)), none, none, none]) (s2 := []) rfl rfl rfl ?_
    refine w_t (np := 46) (l2 := [some (eR a0), some (eI (a1)), some (eI (a2)), some (eI (a3)), some (eI (0)), some (eI (1)), some (eI (v3)), some (eI (v6)), some (eI (v11)), some (eI (v18)), none, none, none]) (s2 := [eR a0]) rfl (s_an rfl (pos_g hI gA0 (by decide))) rfl ?_
    refine w_gf (np := 49) (v := eR v14) rfl rfl (hI.kd gA0 (by decide) (n := 69) rfl) (by rw [e15]; rfl) ?_
    refine w_t (np := 51) (l2 := [some (eR a0), some (eI (a1)), some (eI (a2)), some (eI (a3)), some (eI (0)), some (eI (1)), some (eI (v3)), some (eI (v6)), some (eI (v11)), some (eI (v18)), none, none, none]) (s2 := [eI (v11), eR v14]) rfl rfl rfl ?_
    refine w_t (np := 52) (l2 := [some (eR a0), some (eI (a1)), some (eI (a2)), some (eI (a3)), some (eI (0)), some (eI (1)), some (eI (v3)), some (eI (v6)), some (eI (v11)), some (eI (v18)), none, none, none]) (s2 := [eI (1), eI (v11), eR v14]) rfl rfl rfl ?_
    obtain ⟨v21, e22⟩ : ∃ zz : Int, zz = (v11) + (1) := ⟨_, rfl⟩
    have b23 : 1 ≤ v21 ∧ v21 ≤ 381 := by omega
    refine w_t (np := 53) (l2 := [some (eR a0), some (eI (a1)), some (eI (a2)), some (eI (a3)), some (eI (0)), some (eI (1)), some (eI (v3)), some (eI (v6)), some (eI (v11)), some (eI (v18)), none, none, none]) (s2 := [eI (v21), eR v14]) rfl (b_iadd (by rw [← e22]; exact ev_w_in (by omega) (by omega))) rfl ?_
    refine j_al (np := 54) rfl rfl hI b16 (by decide) (n := 384) rfl rfl (lo := -2147483648) (hi := 2147483647) (fun _ => rfl) (by omega) (by omega) ?_
    intro v24 e25 b26
    refine w_t (np := 56) (l2 := [some (eR a0), some (eI (a1)), some (eI (a2)), some (eI (a3)), some (eI (0)), some (eI (1)), some (eI (v3)), some (eI (v6)), some (eI (v11)), some (eI (v18)), some (eI (v24)), none, none]) (s2 := []) rfl rfl rfl ?_
    refine w_t (np := 57) (l2 := [some (eR a0), some (eI (a1)), some (eI (a2)), some (eI (a3)), some (eI (0)), some (eI (1)), some (eI (v3)), some (eI (v6)), some (eI (v11)), some (eI (v18)), some (eI (v24)), none, none]) (s2 := [eR a0]) rfl (s_an rfl (pos_g hI gA0 (by decide))) rfl ?_
    refine w_gf (np := 60) (v := eR v14) rfl rfl (hI.kd gA0 (by decide) (n := 69) rfl) (by rw [e15]; rfl) ?_
    refine w_t (np := 62) (l2 := [some (eR a0), some (eI (a1)), some (eI (a2)), some (eI (a3)), some (eI (0)), some (eI (1)), some (eI (v3)), some (eI (v6)), some (eI (v11)), some (eI (v18)), some (eI (v24)), none, none]) (s2 := [eI (v11), eR v14]) rfl rfl rfl ?_
    refine w_t (np := 63) (l2 := [some (eR a0), some (eI (a1)), some (eI (a2)), some (eI (a3)), some (eI (0)), some (eI (1)), some (eI (v3)), some (eI (v6)), some (eI (v11)), some (eI (v18)), some (eI (v24)), none, none]) (s2 := [eI (2), eI (v11), eR v14]) rfl rfl rfl ?_
    obtain ⟨v27, e28⟩ : ∃ zz : Int, zz = (v11) + (2) := ⟨_, rfl⟩
    have b29 : 2 ≤ v27 ∧ v27 ≤ 382 := by omega
    refine w_t (np := 64) (l2 := [some (eR a0), some (eI (a1)), some (eI (a2)), some (eI (a3)), some (eI (0)), some (eI (1)), some (eI (v3)), some (eI (v6)), some (eI (v11)), some (eI (v18)), some (eI (v24)), none, none]) (s2 := [eI (v27), eR v14]) rfl (b_iadd (by rw [← e28]; exact ev_w_in (by omega) (by omega))) rfl ?_
    refine j_al (np := 65) rfl rfl hI b16 (by decide) (n := 384) rfl rfl (lo := -2147483648) (hi := 2147483647) (fun _ => rfl) (by omega) (by omega) ?_
    intro v30 e31 b32
    refine w_t (np := 67) (l2 := [some (eR a0), some (eI (a1)), some (eI (a2)), some (eI (a3)), some (eI (0)), some (eI (1)), some (eI (v3)), some (eI (v6)), some (eI (v11)), some (eI (v18)), some (eI (v24)), some (eI (v30)), none]) (s2 := []) rfl rfl rfl ?_
    refine w_t (np := 68) (l2 := [some (eR a0), some (eI (a1)), some (eI (a2)), some (eI (a3)), some (eI (0)), some (eI (1)), some (eI (v3)), some (eI (v6)), some (eI (v11)), some (eI (v18)), some (eI (v24)), some (eI (v30)), none]) (s2 := [eR a0]) rfl (s_an rfl (pos_g hI gA0 (by decide))) rfl ?_
    refine w_gf (np := 71) (v := eR v14) rfl rfl (hI.kd gA0 (by decide) (n := 69) rfl) (by rw [e15]; rfl) ?_
    refine w_t (np := 73) (l2 := [some (eR a0), some (eI (a1)), some (eI (a2)), some (eI (a3)), some (eI (0)), some (eI (1)), some (eI (v3)), some (eI (v6)), some (eI (v11)), some (eI (v18)), some (eI (v24)), some (eI (v30)), none]) (s2 := [eI (v11), eR v14]) rfl rfl rfl ?_
    refine w_t (np := 74) (l2 := [some (eR a0), some (eI (a1)), some (eI (a2)), some (eI (a3)), some (eI (0)), some (eI (1)), some (eI (v3)), some (eI (v6)), some (eI (v11)), some (eI (v18)), some (eI (v24)), some (eI (v30)), none]) (s2 := [eI (3), eI (v11), eR v14]) rfl rfl rfl ?_
    obtain ⟨v33, e34⟩ : ∃ zz : Int, zz = (v11) + (3) := ⟨_, rfl⟩
    have b35 : 3 ≤ v33 ∧ v33 ≤ 383 := by omega
    refine w_t (np := 75) (l2 := [some (eR a0), some (eI (a1)), some (eI (a2)), some (eI (a3)), some (eI (0)), some (eI (1)), some (eI (v3)), some (eI (v6)), some (eI (v11)), some (eI (v18)), some (eI (v24)), some (eI (v30)), none]) (s2 := [eI (v33), eR v14]) rfl (b_iadd (by rw [← e34]; exact ev_w_in (by omega) (by omega))) rfl ?_
    refine j_al (np := 76) rfl rfl hI b16 (by decide) (n := 384) rfl rfl (lo := -2147483648) (hi := 2147483647) (fun _ => rfl) (by omega) (by omega) ?_
    intro v36 e37 b38
    refine w_t (np := 78) (l2 := [some (eR a0), some (eI (a1)), some (eI (a2)), some (eI (a3)), some (eI (0)), some (eI (1)), some (eI (v3)), some (eI (v6)), some (eI (v11)), some (eI (v18)), some (eI (v24)), some (eI (v30)), some (eI (v36))]) (s2 := []) rfl rfl rfl ?_
    refine w_t (np := 80) (l2 := [some (eR a0), some (eI (a1)), some (eI (a2)), some (eI (a3)), some (eI (0)), some (eI (1)), some (eI (v3)), some (eI (v6)), some (eI (v11)), some (eI (v18)), some (eI (v24)), some (eI (v30)), some (eI (v36))]) (s2 := [eI (v6)]) rfl rfl rfl ?_
    refine b_ine (t1 := 102) (t2 := 83) rfl rfl rfl (ev_w_in (by omega) (by omega)) (fun g39 => ?_) (fun g39 => ?_)
    · have b40 : 1 ≤ v6 ∧ v6 ≤ 3 := by omega
      refine w_t (np := 104) (l2 := [some (eR a0), some (eI (a1)), some (eI (a2)), some (eI (a3)), some (eI (0)), some (eI (1)), some (eI (v3)), some (eI (v6)), some (eI (v11)), some (eI (v18)), some (eI (v24)), some (eI (v30)), some (eI (v36))]) (s2 := [eI (v6)]) rfl rfl rfl ?_
      refine w_t (np := 105) (l2 := [some (eR a0), some (eI (a1)), some (eI (a2)), some (eI (a3)), some (eI (0)), some (eI (1)), some (eI (v3)), some (eI (v6)), some (eI (v11)), some (eI (v18)), some (eI (v24)), some (eI (v30)), some (eI (v36))]) (s2 := [eI (1), eI (v6)]) rfl rfl rfl ?_
      refine b_cne (t1 := 130) (t2 := 108) rfl rfl rfl (ev_w_in (by omega) (by omega)) rfl (fun g40 => ?_) (fun g40 => ?_)
      · have b41 : 2 ≤ v6 ∧ v6 ≤ 3 := by omega
        refine w_t (np := 131) (l2 := [some (eR a0), some (eI (a1)), some (eI (a2)), some (eI (a3)), some (eI (0)), some (eI (1)), some (eI (v3)), some (eI (v6)), some (eI (v11)), some (eI (v18)), some (eI (v24)), some (eI (v30)), some (eI (v36))]) (s2 := [eR a0]) rfl (s_an rfl (pos_g hI gA0 (by decide))) rfl ?_
        refine w_t (np := 133) (l2 := [some (eR a0), some (eI (a1)), some (eI (a2)), some (eI (a3)), some (eI (0)), some (eI (1)), some (eI (v3)), some (eI (v6)), some (eI (v11)), some (eI (v18)), some (eI (v24)), some (eI (v30)), some (eI (v36))]) (s2 := [eI (0), eR a0]) rfl rfl rfl ?_
        refine w_t (np := 135) (l2 := [some (eR a0), some (eI (a1)), some (eI (a2)), some (eI (a3)), some (eI (0)), some (eI (1)), some (eI (v3)), some (eI (v6)), some (eI (v11)), some (eI (v18)), some (eI (v24)), some (eI (v30)), some (eI (v36))]) (s2 := [eI (v18), eI (0), eR a0]) rfl rfl rfl ?_
        refine w_t (np := 136) (l2 := [some (eR a0), some (eI (a1)), some (eI (a2)), some (eI (a3)), some (eI (0)), some (eI (1)), some (eI (v3)), some (eI (v6)), some (eI (v11)), some (eI (v18)), some (eI (v24)), some (eI (v30)), some (eI (v36))]) (s2 := [eI (a2), eI (v18), eI (0), eR a0]) rfl rfl rfl ?_
        refine w_t (np := 137) (l2 := [some (eR a0), some (eI (a1)), some (eI (a2)), some (eI (a3)), some (eI (0)), some (eI (1)), some (eI (v3)), some (eI (v6)), some (eI (v11)), some (eI (v18)), some (eI (v24)), some (eI (v30)), some (eI (v36))]) (s2 := [eI (0), eI (a2), eI (v18), eI (0), eR a0]) rfl rfl rfl ?_
        refine w_cu (np := 140) (as := [eI (a2), eI (0)]) (l2 := [some (eI (a2)), some (eI (0))]) (rest := [eI (v18), eI (0), eR a0]) rfl rfl rfl (Nat.ble_eq.mp rfl) rfl rfl rfl rfl ?_
        refine s_218e (a0 := a2) (a1 := 0) hI (by omega) (by decide) ?_
        intro v41 b42 h43
        show ex_q (dt_fg L ρ) rc (d + 2, (336, 140, [some (eR a0), some (eI (a1)), some (eI (a2)), some (eI (a3)), some (eI (0)), some (eI (1)), some (eI (v3)), some (eI (v6)), some (eI (v11)), some (eI (v18)), some (eI (v24)), some (eI (v30)), some (eI (v36))], [eI (v41), eI (v18), eI (0), eR a0]), f :: F, μ)
        obtain ⟨v44, e45, b46⟩ : ∃ zz : Int, ev_w ((v18) + (v41)) = zz ∧ (-2147483648 ≤ zz ∧ zz ≤ 2147483647) := ⟨_, rfl, hw_bd _⟩
        refine w_t (np := 141) (l2 := [some (eR a0), some (eI (a1)), some (eI (a2)), some (eI (a3)), some (eI (0)), some (eI (1)), some (eI (v3)), some (eI (v6)), some (eI (v11)), some (eI (v18)), some (eI (v24)), some (eI (v30)), some (eI (v36))]) (s2 := [eI (v44), eI (0), eR a0]) rfl (b_iadd e45) rfl ?_
        refine w_t (np := 143) (l2 := [some (eR a0), some (eI (a1)), some (eI (a2)), some (eI (a3)), some (eI (0)), some (eI (1)), some (eI (v3)), some (eI (v6)), some (eI (v11)), some (eI (v18)), some (eI (v24)), some (eI (v30)), some (eI (v36))]) (s2 := [eI (v24), eI (v44), eI (0), eR a0]) rfl rfl rfl ?_
        refine w_t (np := 144) (l2 := [some (eR a0), some (eI (a1)), some (eI (a2)), some (eI (a3)), some (eI (0)), some (eI (1)), some (eI (v3)), some (eI (v6)), some (eI (v11)), some (eI (v18)), some (eI (v24)), some (eI (v30)), some (eI (v36))]) (s2 := [eI (a2), eI (v24), eI (v44), eI (0), eR a0]) rfl rfl rfl ?_
        refine w_t (np := 145) (l2 := [some (eR a0), some (eI (a1)), some (eI (a2)), some (eI (a3)), some (eI (0)), some (eI (1)), some (eI (v3)), some (eI (v6)), some (eI (v11)), some (eI (v18)), some (eI (v24)), some (eI (v30)), some (eI (v36))]) (s2 := [eI (1), eI (a2), eI (v24), eI (v44), eI (0), eR a0]) rfl rfl rfl ?_
        refine w_cu (np := 148) (as := [eI (a2), eI (1)]) (l2 := [some (eI (a2)), some (eI (1))]) (rest := [eI (v24), eI (v44), eI (0), eR a0]) rfl rfl rfl (Nat.ble_eq.mp rfl) rfl rfl rfl rfl ?_
        refine s_218e (a0 := a2) (a1 := 1) hI (by omega) (by decide) ?_
        intro v47 b48 h49
        show ex_q (dt_fg L ρ) rc (d + 2, (336, 148, [some (eR a0), some (eI (a1)), some (eI (a2)), some (eI (a3)), some (eI (0)), some (eI (1)), some (eI (v3)), some (eI (v6)), some (eI (v11)), some (eI (v18)), some (eI (v24)), some (eI (v30)), some (eI (v36))], [eI (v47), eI (v24), eI (v44), eI (0), eR a0]), f :: F, μ)
        obtain ⟨v50, e51, b52⟩ : ∃ zz : Int, ev_w ((v24) + (v47)) = zz ∧ (-2147483648 ≤ zz ∧ zz ≤ 2147483647) := ⟨_, rfl, hw_bd _⟩
        refine w_t (np := 149) (l2 := [some (eR a0), some (eI (a1)), some (eI (a2)), some (eI (a3)), some (eI (0)), some (eI (1)), some (eI (v3)), some (eI (v6)), some (eI (v11)), some (eI (v18)), some (eI (v24)), some (eI (v30)), some (eI (v36))]) (s2 := [eI (v50), eI (v44), eI (0), eR a0]) rfl (b_iadd e51) rfl ?_
        refine w_t (np := 151) (l2 := [some (eR a0), some (eI (a1)), some (eI (a2)), some (eI (a3)), some (eI (0)), some (eI (1)), some (eI (v3)), some (eI (v6)), some (eI (v11)), some (eI (v18)), some (eI (v24)), some (eI (v30)), some (eI (v36))]) (s2 := [eI (v30), eI (v50), eI (v44), eI (0), eR a0]) rfl rfl rfl ?_
        refine w_t (np := 152) (l2 := [some (eR a0), some (eI (a1)), some (eI (a2)), some (eI (a3)), some (eI (0)), some (eI (1)), some (eI (v3)), some (eI (v6)), some (eI (v11)), some (eI (v18)), some (eI (v24)), some (eI (v30)), some (eI (v36))]) (s2 := [eI (a2), eI (v30), eI (v50), eI (v44), eI (0), eR a0]) rfl rfl rfl ?_
        refine w_t (np := 153) (l2 := [some (eR a0), some (eI (a1)), some (eI (a2)), some (eI (a3)), some (eI (0)), some (eI (1)), some (eI (v3)), some (eI (v6)), some (eI (v11)), some (eI (v18)), some (eI (v24)), some (eI (v30)), some (eI (v36))]) (s2 := [eI (2), eI (a2), eI (v30), eI (v50), eI (v44), eI (0), eR a0]) rfl rfl rfl ?_
        refine w_cu (np := 156) (as := [eI (a2), eI (2)]) (l2 := [some (eI (a2)), some (eI (2))]) (rest := [eI (v30), eI (v50), eI (v44), eI (0), eR a0]) rfl rfl rfl (Nat.ble_eq.mp rfl) rfl rfl rfl rfl ?_
        refine s_218e (a0 := a2) (a1 := 2) hI (by omega) (by decide) ?_
        intro v53 b54 h55
        show ex_q (dt_fg L ρ) rc (d + 2, (336, 156, [some (eR a0), some (eI (a1)), some (eI (a2)), some (eI (a3)), some (eI (0)), some (eI (1)), some (eI (v3)), some (eI (v6)), some (eI (v11)), some (eI (v18)), some (eI (v24)), some (eI (v30)), some (eI (v36))], [eI (v53), eI (v30), eI (v50), eI (v44), eI (0), eR a0]), f :: F, μ)
        obtain ⟨v56, e57, b58⟩ : ∃ zz : Int, ev_w ((v30) + (v53)) = zz ∧ (-2147483648 ≤ zz ∧ zz ≤ 2147483647) := ⟨_, rfl, hw_bd _⟩
        refine w_t (np := 157) (l2 := [some (eR a0), some (eI (a1)), some (eI (a2)), some (eI (a3)), some (eI (0)), some (eI (1)), some (eI (v3)), some (eI (v6)), some (eI (v11)), some (eI (v18)), some (eI (v24)), some (eI (v30)), some (eI (v36))]) (s2 := [eI (v56), eI (v50), eI (v44), eI (0), eR a0]) rfl (b_iadd e57) rfl ?_
        refine w_t (np := 159) (l2 := [some (eR a0), some (eI (a1)), some (eI (a2)), some (eI (a3)), some (eI (0)), some (eI (1)), some (eI (v3)), some (eI (v6)), some (eI (v11)), some (eI (v18)), some (eI (v24)), some (eI (v30)), some (eI (v36))]) (s2 := [eI (v36), eI (v56), eI (v50), eI (v44), eI (0), eR a0]) rfl rfl rfl ?_
        refine w_t (np := 160) (l2 := [some (eR a0), some (eI (a1)), some (eI (a2)), some (eI (a3)), some (eI (0)), some (eI (1)), some (eI (v3)), some (eI (v6)), some (eI (v11)), some (eI (v18)), some (eI (v24)), some (eI (v30)), some (eI (v36))]) (s2 := [eI (a2), eI (v36), eI (v56), eI (v50), eI (v44), eI (0), eR a0]) rfl rfl rfl ?_
        refine w_t (np := 161) (l2 := [some (eR a0), some (eI (a1)), some (eI (a2)), some (eI (a3)), some (eI (0)), some (eI (1)), some (eI (v3)), some (eI (v6)), some (eI (v11)), some (eI (v18)), some (eI (v24)), some (eI (v30)), some (eI (v36))]) (s2 := [eI (3), eI (a2), eI (v36), eI (v56), eI (v50), eI (v44), eI (0), eR a0]) rfl rfl rfl ?_
        refine w_cu (np := 164) (as := [eI (a2), eI (3)]) (l2 := [some (eI (a2)), some (eI (3))]) (rest := [eI (v36), eI (v56), eI (v50), eI (v44), eI (0), eR a0]) rfl rfl rfl (Nat.ble_eq.mp rfl) rfl rfl rfl rfl ?_
        refine s_218e (a0 := a2) (a1 := 3) hI (by omega) (by decide) ?_
        intro v59 b60 h61
        show ex_q (dt_fg L ρ) rc (d + 2, (336, 164, [some (eR a0), some (eI (a1)), some (eI (a2)), some (eI (a3)), some (eI (0)), some (eI (1)), some (eI (v3)), some (eI (v6)), some (eI (v11)), some (eI (v18)), some (eI (v24)), some (eI (v30)), some (eI (v36))], [eI (v59), eI (v36), eI (v56), eI (v50), eI (v44), eI (0), eR a0]), f :: F, μ)
        obtain ⟨v62, e63, b64⟩ : ∃ zz : Int, ev_w ((v36) + (v59)) = zz ∧ (-2147483648 ≤ zz ∧ zz ≤ 2147483647) := ⟨_, rfl, hw_bd _⟩
        refine w_t (np := 165) (l2 := [some (eR a0), some (eI (a1)), some (eI (a2)), some (eI (a3)), some (eI (0)), some (eI (1)), some (eI (v3)), some (eI (v6)), some (eI (v11)), some (eI (v18)), some (eI (v24)), some (eI (v30)), some (eI (v36))]) (s2 := [eI (v62), eI (v56), eI (v50), eI (v44), eI (0), eR a0]) rfl (b_iadd e63) rfl ?_
        refine w_t (np := 167) (l2 := [some (eR a0), some (eI (a1)), some (eI (a2)), some (eI (a3)), some (eI (0)), some (eI (1)), some (eI (v3)), some (eI (v6)), some (eI (v11)), some (eI (v18)), some (eI (v24)), some (eI (v30)), some (eI (v36))]) (s2 := [eI (v6), eI (v62), eI (v56), eI (v50), eI (v44), eI (0), eR a0]) rfl rfl rfl ?_
        refine w_t (np := 168) (l2 := [some (eR a0), some (eI (a1)), some (eI (a2)), some (eI (a3)), some (eI (0)), some (eI (1)), some (eI (v3)), some (eI (v6)), some (eI (v11)), some (eI (v18)), some (eI (v24)), some (eI (v30)), some (eI (v36))]) (s2 := [eI (2), eI (v6), eI (v62), eI (v56), eI (v50), eI (v44), eI (0), eR a0]) rfl rfl rfl ?_
        refine b_cne (t1 := 177) (t2 := 171) rfl rfl rfl (ev_w_in (by omega) (by omega)) rfl (fun g65 => ?_) (fun g65 => ?_)
        · have b66 : 3 ≤ v6 ∧ v6 ≤ 3 := by omega
          refine w_t (np := 178) (l2 := [some (eR a0), some (eI (a1)), some (eI (a2)), some (eI (a3)), some (eI (0)), some (eI (1)), some (eI (v3)), some (eI (v6)), some (eI (v11)), some (eI (v18)), some (eI (v24)), some (eI (v30)), some (eI (v36))]) (s2 := [eI (a2), eI (v62), eI (v56), eI (v50), eI (v44), eI (0), eR a0]) rfl rfl rfl ?_
          refine w_t (np := 180) (l2 := [some (eR a0), some (eI (a1)), some (eI (a2)), some (eI (a3)), some (eI (0)), some (eI (1)), some (eI (v3)), some (eI (v6)), some (eI (v11)), some (eI (v18)), some (eI (v24)), some (eI (v30)), some (eI (v36))]) (s2 := [eI (v3), eI (a2), eI (v62), eI (v56), eI (v50), eI (v44), eI (0), eR a0]) rfl rfl rfl ?_
          obtain ⟨v66, e67⟩ : ∃ zz : Int, zz = (a2) + (v3) := ⟨_, rfl⟩
          have b68 : 1 ≤ v66 ∧ v66 ≤ 13 := by omega
          refine w_t (np := 181) (l2 := [some (eR a0), some (eI (a1)), some (eI (a2)), some (eI (a3)), some (eI (0)), some (eI (1)), some (eI (v3)), some (eI (v6)), some (eI (v11)), some (eI (v18)), some (eI (v24)), some (eI (v30)), some (eI (v36))]) (s2 := [eI (v66), eI (v62), eI (v56), eI (v50), eI (v44), eI (0), eR a0]) rfl (b_iadd (by rw [← e67]; exact ev_w_in (by omega) (by omega))) rfl ?_
          refine w_t (np := 183) (l2 := [some (eR a0), some (eI (a1)), some (eI (a2)), some (eI (a3)), some (eI (0)), some (eI (1)), some (eI (v3)), some (eI (v6)), some (eI (v11)), some (eI (v18)), some (eI (v24)), some (eI (v30)), some (eI (v36))]) (s2 := [eI (v6), eI (v66), eI (v62), eI (v56), eI (v50), eI (v44), eI (0), eR a0]) rfl rfl rfl ?_
          refine w_t (np := 184) (l2 := [some (eR a0), some (eI (a1)), some (eI (a2)), some (eI (a3)), some (eI (0)), some (eI (1)), some (eI (v3)), some (eI (v6)), some (eI (v11)), some (eI (v18)), some (eI (v24)), some (eI (v30)), some (eI (v36))]) (s2 := [eI (2), eI (v6), eI (v66), eI (v62), eI (v56), eI (v50), eI (v44), eI (0), eR a0]) rfl rfl rfl ?_
          refine b_cne (t1 := 191) (t2 := 187) rfl rfl rfl (ev_w_in (by omega) (by omega)) rfl (fun g69 => ?_) (fun g69 => False.elim (by omega))
          refine w_t (np := 192) (l2 := [some (eR a0), some (eI (a1)), some (eI (a2)), some (eI (a3)), some (eI (0)), some (eI (1)), some (eI (v3)), some (eI (v6)), some (eI (v11)), some (eI (v18)), some (eI (v24)), some (eI (v30)), some (eI (v36))]) (s2 := [eI (0), eI (v66), eI (v62), eI (v56), eI (v50), eI (v44), eI (0), eR a0]) rfl rfl rfl ?_
          refine w_cw (np := 195) (as := [eI (0), eI (v44), eI (v50), eI (v56), eI (v62), eI (v66), eI (0)]) (l2 := [some (eR a0), some (eI (0)), some (eI (v44)), some (eI (v50)), some (eI (v56)), some (eI (v62)), some (eI (v66)), some (eI (0)), none]) (rest := []) rfl rfl rfl (Nat.ble_eq.mp rfl) rfl rfl rfl (hI.kd gA0 (by decide) (n := 69) rfl) rfl ?_
          refine s_312 (a1 := 0) (a2 := v44) (a3 := v50) (a4 := v56) (a5 := v62) (a6 := v66) (a7 := 0) hI gA0 (by decide) (by omega) (by omega) (by omega) (by omega) (by omega) (by decide) h_rh (by omega) ?_
          intro m70 v73 I71 F72 e74 h75
          have F76 : Fr l_336 0 0 g μ m70 := F0.t F72 rfl
          have b77 : 0 ≤ v73 ∧ v73 ≤ 24 := by
            rw [← e74]
            exact I71.int gA0 (by decide) (n := 69) rfl (by decide) rfl
          show ex_q (dt_fg L ρ) rc (d + 2, (336, 195, [some (eR a0), some (eI (a1)), some (eI (a2)), some (eI (a3)), some (eI (0)), some (eI (1)), some (eI (v3)), some (eI (v6)), some (eI (v11)), some (eI (v18)), some (eI (v24)), some (eI (v30)), some (eI (v36))], []), f :: F, m70)
          exact v_rv rfl rfl (K m70 (v73) I71 F76 e74 (by omega))
        · have b66 : 2 ≤ v6 ∧ v6 ≤ 2 := by omega
          refine w_t (np := 172) (l2 := [some (eR a0), some (eI (a1)), some (eI (a2)), some (eI (a3)), some (eI (0)), some (eI (1)), some (eI (v3)), some (eI (v6)), some (eI (v11)), some (eI (v18)), some (eI (v24)), some (eI (v30)), some (eI (v36))]) (s2 := [eI (a2), eI (v62), eI (v56), eI (v50), eI (v44), eI (0), eR a0]) rfl rfl rfl ?_
          refine w_t (np := 173) (l2 := [some (eR a0), some (eI (a1)), some (eI (a2)), some (eI (a3)), some (eI (0)), some (eI (1)), some (eI (v3)), some (eI (v6)), some (eI (v11)), some (eI (v18)), some (eI (v24)), some (eI (v30)), some (eI (v36))]) (s2 := [eI (5), eI (a2), eI (v62), eI (v56), eI (v50), eI (v44), eI (0), eR a0]) rfl rfl rfl ?_
          obtain ⟨v66, e67⟩ : ∃ zz : Int, zz = (a2) + (5) := ⟨_, rfl⟩
          have b68 : 5 ≤ v66 ∧ v66 ≤ 14 := by omega
          refine w_t (np := 174) (l2 := [some (eR a0), some (eI (a1)), some (eI (a2)), some (eI (a3)), some (eI (0)), some (eI (1)), some (eI (v3)), some (eI (v6)), some (eI (v11)), some (eI (v18)), some (eI (v24)), some (eI (v30)), some (eI (v36))]) (s2 := [eI (v66), eI (v62), eI (v56), eI (v50), eI (v44), eI (0), eR a0]) rfl (b_iadd (by rw [← e67]; exact ev_w_in (by omega) (by omega))) rfl ?_
          refine w_go (t1 := 181) rfl rfl ?_
          refine w_t (np := 183) (l2 := [some (eR a0), some (eI (a1)), some (eI (a2)), some (eI (a3)), some (eI (0)), some (eI (1)), some (eI (v3)), some (eI (v6)), some (eI (v11)), some (eI (v18)), some (eI (v24)), some (eI (v30)), some (eI (v36))]) (s2 := [eI (v6), eI (v66), eI (v62), eI (v56), eI (v50), eI (v44), eI (0), eR a0]) rfl rfl rfl ?_
          refine w_t (np := 184) (l2 := [some (eR a0), some (eI (a1)), some (eI (a2)), some (eI (a3)), some (eI (0)), some (eI (1)), some (eI (v3)), some (eI (v6)), some (eI (v11)), some (eI (v18)), some (eI (v24)), some (eI (v30)), some (eI (v36))]) (s2 := [eI (2), eI (v6), eI (v66), eI (v62), eI (v56), eI (v50), eI (v44), eI (0), eR a0]) rfl rfl rfl ?_
          refine b_cne (t1 := 191) (t2 := 187) rfl rfl rfl (ev_w_in (by omega) (by omega)) rfl (fun g69 => False.elim (by omega)) (fun g69 => ?_)
          refine w_t (np := 188) (l2 := [some (eR a0), some (eI (a1)), some (eI (a2)), some (eI (a3)), some (eI (0)), some (eI (1)), some (eI (v3)), some (eI (v6)), some (eI (v11)), some (eI (v18)), some (eI (v24)), some (eI (v30)), some (eI (v36))]) (s2 := [eI (1), eI (v66), eI (v62), eI (v56), eI (v50), eI (v44), eI (0), eR a0]) rfl rfl rfl ?_
          refine w_go (t1 := 192) rfl rfl ?_
          refine w_cw (np := 195) (as := [eI (0), eI (v44), eI (v50), eI (v56), eI (v62), eI (v66), eI (1)]) (l2 := [some (eR a0), some (eI (0)), some (eI (v44)), some (eI (v50)), some (eI (v56)), some (eI (v62)), some (eI (v66)), some (eI (1)), none]) (rest := []) rfl rfl rfl (Nat.ble_eq.mp rfl) rfl rfl rfl (hI.kd gA0 (by decide) (n := 69) rfl) rfl ?_
          refine s_312 (a1 := 0) (a2 := v44) (a3 := v50) (a4 := v56) (a5 := v62) (a6 := v66) (a7 := 1) hI gA0 (by decide) (by omega) (by omega) (by omega) (by omega) (by omega) (by decide) h_rh (by omega) ?_
          intro m70 v73 I71 F72 e74 h75
          have F76 : Fr l_336 0 0 g μ m70 := F0.t F72 rfl
          have b77 : 0 ≤ v73 ∧ v73 ≤ 24 := by
            rw [← e74]
            exact I71.int gA0 (by decide) (n := 69) rfl (by decide) rfl
          show ex_q (dt_fg L ρ) rc (d + 2, (336, 195, [some (eR a0), some (eI (a1)), some (eI (a2)), some (eI (a3)), some (eI (0)), some (eI (1)), some (eI (v3)), some (eI (v6)), some (eI (v11)), some (eI (v18)), some (eI (v24)), some (eI (v30)), some (eI (v36))], []), f :: F, m70)
          exact v_rv rfl rfl (K m70 (v73) I71 F76 e74 (by omega))
      · have b41 : 1 ≤ v6 ∧ v6 ≤ 1 := by omega
        refine w_t (np := 109) (l2 := [some (eR a0), some (eI (a1)), some (eI (a2)), some (eI (a3)), some (eI (0)), some (eI (1)), some (eI (v3)), some (eI (v6)), some (eI (v11)), some (eI (v18)), some (eI (v24)), some (eI (v30)), some (eI (v36))]) (s2 := [eR a0]) rfl (s_an rfl (pos_g hI gA0 (by decide))) rfl ?_
        refine w_t (np := 111) (l2 := [some (eR a0), some (eI (a1)), some (eI (a2)), some (eI (a3)), some (eI (0)), some (eI (1)), some (eI (v3)), some (eI (v6)), some (eI (v11)), some (eI (v18)), some (eI (v24)), some (eI (v30)), some (eI (v36))]) (s2 := [eI (0), eR a0]) rfl rfl rfl ?_
        refine w_t (np := 113) (l2 := [some (eR a0), some (eI (a1)), some (eI (a2)), some (eI (a3)), some (eI (0)), some (eI (1)), some (eI (v3)), some (eI (v6)), some (eI (v11)), some (eI (v18)), some (eI (v24)), some (eI (v30)), some (eI (v36))]) (s2 := [eI (v18), eI (0), eR a0]) rfl rfl rfl ?_
        refine w_t (np := 115) (l2 := [some (eR a0), some (eI (a1)), some (eI (a2)), some (eI (a3)), some (eI (0)), some (eI (1)), some (eI (v3)), some (eI (v6)), some (eI (v11)), some (eI (v18)), some (eI (v24)), some (eI (v30)), some (eI (v36))]) (s2 := [eI (v24), eI (v18), eI (0), eR a0]) rfl rfl rfl ?_
        refine w_t (np := 117) (l2 := [some (eR a0), some (eI (a1)), some (eI (a2)), some (eI (a3)), some (eI (0)), some (eI (1)), some (eI (v3)), some (eI (v6)), some (eI (v11)), some (eI (v18)), some (eI (v24)), some (eI (v30)), some (eI (v36))]) (s2 := [eI (v30), eI (v24), eI (v18), eI (0), eR a0]) rfl rfl rfl ?_
        refine w_t (np := 119) (l2 := [some (eR a0), some (eI (a1)), some (eI (a2)), some (eI (a3)), some (eI (0)), some (eI (1)), some (eI (v3)), some (eI (v6)), some (eI (v11)), some (eI (v18)), some (eI (v24)), some (eI (v30)), some (eI (v36))]) (s2 := [eI (v36), eI (v30), eI (v24), eI (v18), eI (0), eR a0]) rfl rfl rfl ?_
        refine w_t (np := 120) (l2 := [some (eR a0), some (eI (a1)), some (eI (a2)), some (eI (a3)), some (eI (0)), some (eI (1)), some (eI (v3)), some (eI (v6)), some (eI (v11)), some (eI (v18)), some (eI (v24)), some (eI (v30)), some (eI (v36))]) (s2 := [eI (a2), eI (v36), eI (v30), eI (v24), eI (v18), eI (0), eR a0]) rfl rfl rfl ?_
        refine w_t (np := 122) (l2 := [some (eR a0), some (eI (a1)), some (eI (a2)), some (eI (a3)), some (eI (0)), some (eI (1)), some (eI (v3)), some (eI (v6)), some (eI (v11)), some (eI (v18)), some (eI (v24)), some (eI (v30)), some (eI (v36))]) (s2 := [eI (1), eI (a2), eI (v36), eI (v30), eI (v24), eI (v18), eI (0), eR a0]) rfl rfl rfl ?_
        obtain ⟨v41, e42⟩ : ∃ zz : Int, zz = (a2) + (1) := ⟨_, rfl⟩
        have b43 : 1 ≤ v41 ∧ v41 ≤ 10 := by omega
        refine w_t (np := 123) (l2 := [some (eR a0), some (eI (a1)), some (eI (a2)), some (eI (a3)), some (eI (0)), some (eI (1)), some (eI (v3)), some (eI (v6)), some (eI (v11)), some (eI (v18)), some (eI (v24)), some (eI (v30)), some (eI (v36))]) (s2 := [eI (v41), eI (v36), eI (v30), eI (v24), eI (v18), eI (0), eR a0]) rfl (b_iadd (by rw [← e42]; exact ev_w_in (by omega) (by omega))) rfl ?_
        refine w_t (np := 124) (l2 := [some (eR a0), some (eI (a1)), some (eI (a2)), some (eI (a3)), some (eI (0)), some (eI (1)), some (eI (v3)), some (eI (v6)), some (eI (v11)), some (eI (v18)), some (eI (v24)), some (eI (v30)), some (eI (v36))]) (s2 := [eI (1), eI (v41), eI (v36), eI (v30), eI (v24), eI (v18), eI (0), eR a0]) rfl rfl rfl ?_
        refine w_cw (np := 127) (as := [eI (0), eI (v18), eI (v24), eI (v30), eI (v36), eI (v41), eI (1)]) (l2 := [some (eR a0), some (eI (0)), some (eI (v18)), some (eI (v24)), some (eI (v30)), some (eI (v36)), some (eI (v41)), some (eI (1)), none]) (rest := []) rfl rfl rfl (Nat.ble_eq.mp rfl) rfl rfl rfl (hI.kd gA0 (by decide) (n := 69) rfl) rfl ?_
        refine s_312 (a1 := 0) (a2 := v18) (a3 := v24) (a4 := v30) (a5 := v36) (a6 := v41) (a7 := 1) hI gA0 (by decide) (by omega) (by omega) (by omega) (by omega) (by omega) (by decide) h_rh (by omega) ?_
        intro m44 v47 I45 F46 e48 h49
        have F50 : Fr l_336 0 0 g μ m44 := F0.t F46 rfl
        have b51 : 0 ≤ v47 ∧ v47 ≤ 24 := by
          rw [← e48]
          exact I45.int gA0 (by decide) (n := 69) rfl (by decide) rfl
        show ex_q (dt_fg L ρ) rc (d + 2, (336, 127, [some (eR a0), some (eI (a1)), some (eI (a2)), some (eI (a3)), some (eI (0)), some (eI (1)), some (eI (v3)), some (eI (v6)), some (eI (v11)), some (eI (v18)), some (eI (v24)), some (eI (v30)), some (eI (v36))], []), f :: F, m44)
        refine w_go (t1 := 195) rfl rfl ?_
        exact v_rv rfl rfl (K m44 (v47) I45 F50 e48 (by omega))
    · have b40 : 0 ≤ v6 ∧ v6 ≤ 0 := by omega
      refine w_t (np := 84) (l2 := [some (eR a0), some (eI (a1)), some (eI (a2)), some (eI (a3)), some (eI (0)), some (eI (1)), some (eI (v3)), some (eI (v6)), some (eI (v11)), some (eI (v18)), some (eI (v24)), some (eI (v30)), some (eI (v36))]) (s2 := [eR a0]) rfl (s_an rfl (pos_g hI gA0 (by decide))) rfl ?_
      refine w_t (np := 86) (l2 := [some (eR a0), some (eI (a1)), some (eI (a2)), some (eI (a3)), some (eI (0)), some (eI (1)), some (eI (v3)), some (eI (v6)), some (eI (v11)), some (eI (v18)), some (eI (v24)), some (eI (v30)), some (eI (v36))]) (s2 := [eI (0), eR a0]) rfl rfl rfl ?_
      refine w_t (np := 88) (l2 := [some (eR a0), some (eI (a1)), some (eI (a2)), some (eI (a3)), some (eI (0)), some (eI (1)), some (eI (v3)), some (eI (v6)), some (eI (v11)), some (eI (v18)), some (eI (v24)), some (eI (v30)), some (eI (v36))]) (s2 := [eI (v18), eI (0), eR a0]) rfl rfl rfl ?_
      refine w_t (np := 90) (l2 := [some (eR a0), some (eI (a1)), some (eI (a2)), some (eI (a3)), some (eI (0)), some (eI (1)), some (eI (v3)), some (eI (v6)), some (eI (v11)), some (eI (v18)), some (eI (v24)), some (eI (v30)), some (eI (v36))]) (s2 := [eI (v24), eI (v18), eI (0), eR a0]) rfl rfl rfl ?_
      refine w_t (np := 92) (l2 := [some (eR a0), some (eI (a1)), some (eI (a2)), some (eI (a3)), some (eI (0)), some (eI (1)), some (eI (v3)), some (eI (v6)), some (eI (v11)), some (eI (v18)), some (eI (v24)), some (eI (v30)), some (eI (v36))]) (s2 := [eI (v30), eI (v24), eI (v18), eI (0), eR a0]) rfl rfl rfl ?_
      refine w_t (np := 94) (l2 := [some (eR a0), some (eI (a1)), some (eI (a2)), some (eI (a3)), some (eI (0)), some (eI (1)), some (eI (v3)), some (eI (v6)), some (eI (v11)), some (eI (v18)), some (eI (v24)), some (eI (v30)), some (eI (v36))]) (s2 := [eI (v36), eI (v30), eI (v24), eI (v18), eI (0), eR a0]) rfl rfl rfl ?_
      refine w_t (np := 95) (l2 := [some (eR a0), some (eI (a1)), some (eI (a2)), some (eI (a3)), some (eI (0)), some (eI (1)), some (eI (v3)), some (eI (v6)), some (eI (v11)), some (eI (v18)), some (eI (v24)), some (eI (v30)), some (eI (v36))]) (s2 := [eI (a2), eI (v36), eI (v30), eI (v24), eI (v18), eI (0), eR a0]) rfl rfl rfl ?_
      refine w_t (np := 96) (l2 := [some (eR a0), some (eI (a1)), some (eI (a2)), some (eI (a3)), some (eI (0)), some (eI (1)), some (eI (v3)), some (eI (v6)), some (eI (v11)), some (eI (v18)), some (eI (v24)), some (eI (v30)), some (eI (v36))]) (s2 := [eI (0), eI (a2), eI (v36), eI (v30), eI (v24), eI (v18), eI (0), eR a0]) rfl rfl rfl ?_
      refine w_cw (np := 99) (as := [eI (0), eI (v18), eI (v24), eI (v30), eI (v36), eI (a2), eI (0)]) (l2 := [some (eR a0), some (eI (0)), some (eI (v18)), some (eI (v24)), some (eI (v30)), some (eI (v36)), some (eI (a2)), some (eI (0)), none]) (rest := []) rfl rfl rfl (Nat.ble_eq.mp rfl) rfl rfl rfl (hI.kd gA0 (by decide) (n := 69) rfl) rfl ?_
      refine s_312 (a1 := 0) (a2 := v18) (a3 := v24) (a4 := v30) (a5 := v36) (a6 := a2) (a7 := 0) hI gA0 (by decide) (by omega) (by omega) (by omega) (by omega) (by omega) (by decide) h_rh (by omega) ?_
      intro m40 v43 I41 F42 e44 h45
      have F46 : Fr l_336 0 0 g μ m40 := F0.t F42 rfl
      have b47 : 0 ≤ v43 ∧ v43 ≤ 24 := by
        rw [← e44]
        exact I41.int gA0 (by decide) (n := 69) rfl (by decide) rfl
      show ex_q (dt_fg L ρ) rc (d + 2, (336, 99, [some (eR a0), some (eI (a1)), some (eI (a2)), some (eI (a3)), some (eI (0)), some (eI (1)), some (eI (v3)), some (eI (v6)), some (eI (v11)), some (eI (v18)), some (eI (v24)), some (eI (v30)), some (eI (v36))], []), f :: F, m40)
      refine w_go (t1 := 195) rfl rfl ?_
      exact v_rv rfl rfl (K m40 (v43) I41 F46 e44 (by omega))
