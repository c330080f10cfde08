/-! methods, walked -/
theorem s_322 {L : Nat} {ρ : Nat → Int} {rc : eQ} {d : Nat} {f : eFr} {F : List eFr} {μ : eM} {g : Nat → Nat} {D : Int} {a0 : Nat} {a1 : Int} {a2 : Int} (hI : SI g μ) (gA0 : g a0 = 83) (bA1 : 0 ≤ a1 ∧ a1 ≤ 12) (bA2 : 0 ≤ a2 ∧ a2 ≤ 12) (hD : DM (μ.1 a0) a1 a2 D) (K : ∀ (v : Int), (0 ≤ v ∧ v ≤ 9) → ex_q (dt_fg L ρ) rc (d + 3, (f.1, f.2.1, f.2.2.1, eI v :: f.2.2.2), F, μ)) : ex_q (dt_fg L ρ) rc (d + 2, (322, 0, [some (eR a0), some (eI (a1)), some (eI (a2)), none], []), f :: F, μ) := by
  have bD := hD.1
  refine w_t (np := 1) (l2 := [some (eR a0), some (eI (a1)), some (eI (a2)), none]) (s2 := [eI (0)]) rfl rfl rfl ?_
  refine w_t (np := 2) (l2 := [some (eR a0), some (eI (a1)), some (eI (a2)), some (eI (0))]) (s2 := []) rfl rfl rfl ?_
  have hL2 : ∀ (n1 : Nat) (i3 : Int), (0 ≤ i3 ∧ i3 ≤ 9) → i3 ≤ D → n1 = (10 - i3).toNat → ex_q (dt_fg L ρ) rc (d + 2, (322, 2, [some (eR a0), some (eI (a1)), some (eI (a2)), some (eI (i3))], []), f :: F, μ) := by
    intro n1
    induction n1 using Nat.strongRecOn with
    | _ n1 ih2 =>
    intro i3 b4 r5 hn6
    refine w_t (np := 3) (l2 := [some (eR a0), some (eI (a1)), some (eI (a2)), some (eI (i3))]) (s2 := [eR a0]) rfl (s_an rfl (pos_g hI gA0 (by decide))) rfl ?_
    refine w_t (np := 4) (l2 := [some (eR a0), some (eI (a1)), some (eI (a2)), some (eI (i3))]) (s2 := [eI (a2), eR a0]) rfl rfl rfl ?_
    refine j_al (np := 5) rfl rfl hI gA0 (by decide) (n := 16) rfl rfl (lo := -2147483648) (hi := 2147483647) (fun _ => rfl) (by omega) (by omega) ?_
    intro v7 e8 b9
    refine w_t (np := 6) (l2 := [some (eR a0), some (eI (a1)), some (eI (a2)), some (eI (i3))]) (s2 := [eR a0, eI (v7)]) rfl (s_an rfl (pos_g hI gA0 (by decide))) rfl ?_
    refine w_t (np := 7) (l2 := [some (eR a0), some (eI (a1)), some (eI (a2)), some (eI (i3))]) (s2 := [eI (a1), eR a0, eI (v7)]) rfl rfl rfl ?_
    refine j_al (np := 8) rfl rfl hI gA0 (by decide) (n := 16) rfl rfl (lo := -2147483648) (hi := 2147483647) (fun _ => rfl) (by omega) (by omega) ?_
    intro v10 e11 b12
    obtain ⟨v13, e14, b15⟩ : ∃ zz : Int, ev_w ((v7) - (v10)) = zz ∧ (-2147483648 ≤ zz ∧ zz ≤ 2147483647) := ⟨_, rfl, hw_bd _⟩
    refine w_t (np := 9) (l2 := [some (eR a0), some (eI (a1)), some (eI (a2)), some (eI (i3))]) (s2 := [eI (v13)]) rfl (b_isub e14) rfl ?_
    refine w_t (np := 10) (l2 := [some (eR a0), some (eI (a1)), some (eI (a2)), some (eI (i3))]) (s2 := [eI (i3), eI (v13)]) rfl rfl rfl ?_
    refine w_t (np := 11) (l2 := [some (eR a0), some (eI (a1)), some (eI (a2)), some (eI (i3))]) (s2 := [eI (0), eI (i3), eI (v13)]) rfl rfl rfl ?_
    refine w_cu (np := 14) (as := [eI (i3), eI (0)]) (l2 := [some (eI (i3)), some (eI (0))]) (rest := [eI (v13)]) rfl rfl rfl (Nat.ble_eq.mp rfl) rfl rfl rfl rfl ?_
    refine s_218e (a0 := i3) (a1 := 0) hI (by omega) (by decide) ?_
    intro v16 b17 h18
    show ex_q (dt_fg L ρ) rc (d + 2, (322, 14, [some (eR a0), some (eI (a1)), some (eI (a2)), some (eI (i3))], [eI (v16), eI (v13)]), f :: F, μ)
    refine b_cne (t1 := 74) (t2 := 17) rfl rfl rfl (ev_w_in (by omega) (by omega)) (ev_w_in (by omega) (by omega)) (fun g19 => ?_) (fun g19 => ?_)
    · obtain ⟨v20, e21⟩ : ∃ zz : Int, zz = (i3) + (1) := ⟨_, rfl⟩
      have b22 : 1 ≤ v20 ∧ v20 ≤ 10 := by omega
      refine w_t (np := 77) (l2 := [some (eR a0), some (eI (a1)), some (eI (a2)), some (eI (v20))]) (s2 := []) rfl (b_iinc rfl (by rw [← e21]; exact ev_w_in (by omega) (by omega)) rfl) rfl ?_
      refine w_go (t1 := 2) rfl rfl ?_
      have h23 := dm_n (i1 := a1) (i2 := a2) 0 hD (by decide) (by omega) (by omega) (by omega) (by omega) e8 e11 e14 h18 (by omega) r5
      exact ih2 (10 - (v20)).toNat (by omega) (v20) (by omega)    (by omega) rfl
    · have b20 : -1 ≤ v13 ∧ v13 ≤ 1 := by omega
      refine w_t (np := 18) (l2 := [some (eR a0), some (eI (a1)), some (eI (a2)), some (eI (i3))]) (s2 := [eR a0]) rfl (s_an rfl (pos_g hI gA0 (by decide))) rfl ?_
      refine w_t (np := 19) (l2 := [some (eR a0), some (eI (a1)), some (eI (a2)), some (eI (i3))]) (s2 := [eI (a2), eR a0]) rfl rfl rfl ?_
      refine w_t (np := 20) (l2 := [some (eR a0), some (eI (a1)), some (eI (a2)), some (eI (i3))]) (s2 := [eI (1), eI (a2), eR a0]) rfl rfl rfl ?_
      obtain ⟨v20, e21⟩ : ∃ zz : Int, zz = (a2) + (1) := ⟨_, rfl⟩
      have b22 : 1 ≤ v20 ∧ v20 ≤ 13 := by omega
      refine w_t (np := 21) (l2 := [some (eR a0), some (eI (a1)), some (eI (a2)), some (eI (i3))]) (s2 := [eI (v20), eR a0]) rfl (b_iadd (by rw [← e21]; exact ev_w_in (by omega) (by omega))) rfl ?_
      refine j_al (np := 22) rfl rfl hI gA0 (by decide) (n := 16) rfl rfl (lo := -2147483648) (hi := 2147483647) (fun _ => rfl) (by omega) (by omega) ?_
      intro v23 e24 b25
      refine w_t (np := 23) (l2 := [some (eR a0), some (eI (a1)), some (eI (a2)), some (eI (i3))]) (s2 := [eR a0, eI (v23)]) rfl (s_an rfl (pos_g hI gA0 (by decide))) rfl ?_
      refine w_t (np := 24) (l2 := [some (eR a0), some (eI (a1)), some (eI (a2)), some (eI (i3))]) (s2 := [eI (a1), eR a0, eI (v23)]) rfl rfl rfl ?_
      refine w_t (np := 25) (l2 := [some (eR a0), some (eI (a1)), some (eI (a2)), some (eI (i3))]) (s2 := [eI (1), eI (a1), eR a0, eI (v23)]) rfl rfl rfl ?_
      obtain ⟨v26, e27⟩ : ∃ zz : Int, zz = (a1) + (1) := ⟨_, rfl⟩
      have b28 : 1 ≤ v26 ∧ v26 ≤ 13 := by omega
      refine w_t (np := 26) (l2 := [some (eR a0), some (eI (a1)), some (eI (a2)), some (eI (i3))]) (s2 := [eI (v26), eR a0, eI (v23)]) rfl (b_iadd (by rw [← e27]; exact ev_w_in (by omega) (by omega))) rfl ?_
      refine j_al (np := 27) rfl rfl hI gA0 (by decide) (n := 16) rfl rfl (lo := -2147483648) (hi := 2147483647) (fun _ => rfl) (by omega) (by omega) ?_
      intro v29 e30 b31
      obtain ⟨v32, e33, b34⟩ : ∃ zz : Int, ev_w ((v23) - (v29)) = zz ∧ (-2147483648 ≤ zz ∧ zz ≤ 2147483647) := ⟨_, rfl, hw_bd _⟩
      refine w_t (np := 28) (l2 := [some (eR a0), some (eI (a1)), some (eI (a2)), some (eI (i3))]) (s2 := [eI (v32)]) rfl (b_isub e33) rfl ?_
      refine w_t (np := 29) (l2 := [some (eR a0), some (eI (a1)), some (eI (a2)), some (eI (i3))]) (s2 := [eI (i3), eI (v32)]) rfl rfl rfl ?_
      refine w_t (np := 30) (l2 := [some (eR a0), some (eI (a1)), some (eI (a2)), some (eI (i3))]) (s2 := [eI (1), eI (i3), eI (v32)]) rfl rfl rfl ?_
      refine w_cu (np := 33) (as := [eI (i3), eI (1)]) (l2 := [some (eI (i3)), some (eI (1))]) (rest := [eI (v32)]) rfl rfl rfl (Nat.ble_eq.mp rfl) rfl rfl rfl rfl ?_
      refine s_218e (a0 := i3) (a1 := 1) hI (by omega) (by decide) ?_
      intro v35 b36 h37
      show ex_q (dt_fg L ρ) rc (d + 2, (322, 33, [some (eR a0), some (eI (a1)), some (eI (a2)), some (eI (i3))], [eI (v35), eI (v32)]), f :: F, μ)
      refine b_cne (t1 := 74) (t2 := 36) rfl rfl rfl (ev_w_in (by omega) (by omega)) (ev_w_in (by omega) (by omega)) (fun g38 => ?_) (fun g38 => ?_)
      · obtain ⟨v39, e40⟩ : ∃ zz : Int, zz = (i3) + (1) := ⟨_, rfl⟩
        have b41 : 1 ≤ v39 ∧ v39 ≤ 10 := by omega
        refine w_t (np := 77) (l2 := [some (eR a0), some (eI (a1)), some (eI (a2)), some (eI (v39))]) (s2 := []) rfl (b_iinc rfl (by rw [← e40]; exact ev_w_in (by omega) (by omega)) rfl) rfl ?_
        refine w_go (t1 := 2) rfl rfl ?_
        have h42 := dm_n (i1 := v26) (i2 := v20) 1 hD (by decide) (by omega) (by omega) (by omega) (by omega) e24 e30 e33 h37 (by omega) r5
        exact ih2 (10 - (v39)).toNat (by omega) (v39) (by omega)    (by omega) rfl
      · have b39 : -1 ≤ v32 ∧ v32 ≤ 1 := by omega
        refine w_t (np := 37) (l2 := [some (eR a0), some (eI (a1)), some (eI (a2)), some (eI (i3))]) (s2 := [eR a0]) rfl (s_an rfl (pos_g hI gA0 (by decide))) rfl ?_
        refine w_t (np := 38) (l2 := [some (eR a0), some (eI (a1)), some (eI (a2)), some (eI (i3))]) (s2 := [eI (a2), eR a0]) rfl rfl rfl ?_
        refine w_t (np := 39) (l2 := [some (eR a0), some (eI (a1)), some (eI (a2)), some (eI (i3))]) (s2 := [eI (2), eI (a2), eR a0]) rfl rfl rfl ?_
        obtain ⟨v39, e40⟩ : ∃ zz : Int, zz = (a2) + (2) := ⟨_, rfl⟩
        have b41 : 2 ≤ v39 ∧ v39 ≤ 14 := by omega
        refine w_t (np := 40) (l2 := [some (eR a0), some (eI (a1)), some (eI (a2)), some (eI (i3))]) (s2 := [eI (v39), eR a0]) rfl (b_iadd (by rw [← e40]; exact ev_w_in (by omega) (by omega))) rfl ?_
        refine j_al (np := 41) rfl rfl hI gA0 (by decide) (n := 16) rfl rfl (lo := -2147483648) (hi := 2147483647) (fun _ => rfl) (by omega) (by omega) ?_
        intro v42 e43 b44
        refine w_t (np := 42) (l2 := [some (eR a0), some (eI (a1)), some (eI (a2)), some (eI (i3))]) (s2 := [eR a0, eI (v42)]) rfl (s_an rfl (pos_g hI gA0 (by decide))) rfl ?_
        refine w_t (np := 43) (l2 := [some (eR a0), some (eI (a1)), some (eI (a2)), some (eI (i3))]) (s2 := [eI (a1), eR a0, eI (v42)]) rfl rfl rfl ?_
        refine w_t (np := 44) (l2 := [some (eR a0), some (eI (a1)), some (eI (a2)), some (eI (i3))]) (s2 := [eI (2), eI (a1), eR a0, eI (v42)]) rfl rfl rfl ?_
        obtain ⟨v45, e46⟩ : ∃ zz : Int, zz = (a1) + (2) := ⟨_, rfl⟩
        have b47 : 2 ≤ v45 ∧ v45 ≤ 14 := by omega
        refine w_t (np := 45) (l2 := [some (eR a0), some (eI (a1)), some (eI (a2)), some (eI (i3))]) (s2 := [eI (v45), eR a0, eI (v42)]) rfl (b_iadd (by rw [← e46]; exact ev_w_in (by omega) (by omega))) rfl ?_
        refine j_al (np := 46) rfl rfl hI gA0 (by decide) (n := 16) rfl rfl (lo := -2147483648) (hi := 2147483647) (fun _ => rfl) (by omega) (by omega) ?_
        intro v48 e49 b50
        obtain ⟨v51, e52, b53⟩ : ∃ zz : Int, ev_w ((v42) - (v48)) = zz ∧ (-2147483648 ≤ zz ∧ zz ≤ 2147483647) := ⟨_, rfl, hw_bd _⟩
        refine w_t (np := 47) (l2 := [some (eR a0), some (eI (a1)), some (eI (a2)), some (eI (i3))]) (s2 := [eI (v51)]) rfl (b_isub e52) rfl ?_
        refine w_t (np := 48) (l2 := [some (eR a0), some (eI (a1)), some (eI (a2)), some (eI (i3))]) (s2 := [eI (i3), eI (v51)]) rfl rfl rfl ?_
        refine w_t (np := 49) (l2 := [some (eR a0), some (eI (a1)), some (eI (a2)), some (eI (i3))]) (s2 := [eI (2), eI (i3), eI (v51)]) rfl rfl rfl ?_
        refine w_cu (np := 52) (as := [eI (i3), eI (2)]) (l2 := [some (eI (i3)), some (eI (2))]) (rest := [eI (v51)]) rfl rfl rfl (Nat.ble_eq.mp rfl) rfl rfl rfl rfl ?_
        refine s_218e (a0 := i3) (a1 := 2) hI (by omega) (by decide) ?_
        intro v54 b55 h56
        show ex_q (dt_fg L ρ) rc (d + 2, (322, 52, [some (eR a0), some (eI (a1)), some (eI (a2)), some (eI (i3))], [eI (v54), eI (v51)]), f :: F, μ)
        refine b_cne (t1 := 74) (t2 := 55) rfl rfl rfl (ev_w_in (by omega) (by omega)) (ev_w_in (by omega) (by omega)) (fun g57 => ?_) (fun g57 => ?_)
        · obtain ⟨v58, e59⟩ : ∃ zz : Int, zz = (i3) + (1) := ⟨_, rfl⟩
          have b60 : 1 ≤ v58 ∧ v58 ≤ 10 := by omega
          refine w_t (np := 77) (l2 := [some (eR a0), some (eI (a1)), some (eI (a2)), some (eI (v58))]) (s2 := []) rfl (b_iinc rfl (by rw [← e59]; exact ev_w_in (by omega) (by omega)) rfl) rfl ?_
          refine w_go (t1 := 2) rfl rfl ?_
          have h61 := dm_n (i1 := v45) (i2 := v39) 2 hD (by decide) (by omega) (by omega) (by omega) (by omega) e43 e49 e52 h56 (by omega) r5
          exact ih2 (10 - (v58)).toNat (by omega) (v58) (by omega)    (by omega) rfl
        · have b58 : -1 ≤ v51 ∧ v51 ≤ 1 := by omega
          refine w_t (np := 56) (l2 := [some (eR a0), some (eI (a1)), some (eI (a2)), some (eI (i3))]) (s2 := [eR a0]) rfl (s_an rfl (pos_g hI gA0 (by decide))) rfl ?_
          refine w_t (np := 57) (l2 := [some (eR a0), some (eI (a1)), some (eI (a2)), some (eI (i3))]) (s2 := [eI (a2), eR a0]) rfl rfl rfl ?_
          refine w_t (np := 58) (l2 := [some (eR a0), some (eI (a1)), some (eI (a2)), some (eI (i3))]) (s2 := [eI (3), eI (a2), eR a0]) rfl rfl rfl ?_
          obtain ⟨v58, e59⟩ : ∃ zz : Int, zz = (a2) + (3) := ⟨_, rfl⟩
          have b60 : 3 ≤ v58 ∧ v58 ≤ 15 := by omega
          refine w_t (np := 59) (l2 := [some (eR a0), some (eI (a1)), some (eI (a2)), some (eI (i3))]) (s2 := [eI (v58), eR a0]) rfl (b_iadd (by rw [← e59]; exact ev_w_in (by omega) (by omega))) rfl ?_
          refine j_al (np := 60) rfl rfl hI gA0 (by decide) (n := 16) rfl rfl (lo := -2147483648) (hi := 2147483647) (fun _ => rfl) (by omega) (by omega) ?_
          intro v61 e62 b63
          refine w_t (np := 61) (l2 := [some (eR a0), some (eI (a1)), some (eI (a2)), some (eI (i3))]) (s2 := [eR a0, eI (v61)]) rfl (s_an rfl (pos_g hI gA0 (by decide))) rfl ?_
          refine w_t (np := 62) (l2 := [some (eR a0), some (eI (a1)), some (eI (a2)), some (eI (i3))]) (s2 := [eI (a1), eR a0, eI (v61)]) rfl rfl rfl ?_
          refine w_t (np := 63) (l2 := [some (eR a0), some (eI (a1)), some (eI (a2)), some (eI (i3))]) (s2 := [eI (3), eI (a1), eR a0, eI (v61)]) rfl rfl rfl ?_
          obtain ⟨v64, e65⟩ : ∃ zz : Int, zz = (a1) + (3) := ⟨_, rfl⟩
          have b66 : 3 ≤ v64 ∧ v64 ≤ 15 := by omega
          refine w_t (np := 64) (l2 := [some (eR a0), some (eI (a1)), some (eI (a2)), some (eI (i3))]) (s2 := [eI (v64), eR a0, eI (v61)]) rfl (b_iadd (by rw [← e65]; exact ev_w_in (by omega) (by omega))) rfl ?_
          refine j_al (np := 65) rfl rfl hI gA0 (by decide) (n := 16) rfl rfl (lo := -2147483648) (hi := 2147483647) (fun _ => rfl) (by omega) (by omega) ?_
          intro v67 e68 b69
          obtain ⟨v70, e71, b72⟩ : ∃ zz : Int, ev_w ((v61) - (v67)) = zz ∧ (-2147483648 ≤ zz ∧ zz ≤ 2147483647) := ⟨_, rfl, hw_bd _⟩
          refine w_t (np := 66) (l2 := [some (eR a0), some (eI (a1)), some (eI (a2)), some (eI (i3))]) (s2 := [eI (v70)]) rfl (b_isub e71) rfl ?_
          refine w_t (np := 67) (l2 := [some (eR a0), some (eI (a1)), some (eI (a2)), some (eI (i3))]) (s2 := [eI (i3), eI (v70)]) rfl rfl rfl ?_
          refine w_t (np := 68) (l2 := [some (eR a0), some (eI (a1)), some (eI (a2)), some (eI (i3))]) (s2 := [eI (3), eI (i3), eI (v70)]) rfl rfl rfl ?_
          refine w_cu (np := 71) (as := [eI (i3), eI (3)]) (l2 := [some (eI (i3)), some (eI (3))]) (rest := [eI (v70)]) rfl rfl rfl (Nat.ble_eq.mp rfl) rfl rfl rfl rfl ?_
          refine s_218e (a0 := i3) (a1 := 3) hI (by omega) (by decide) ?_
          intro v73 b74 h75
          show ex_q (dt_fg L ρ) rc (d + 2, (322, 71, [some (eR a0), some (eI (a1)), some (eI (a2)), some (eI (i3))], [eI (v73), eI (v70)]), f :: F, μ)
          refine b_ceq (t1 := 80) (t2 := 74) rfl rfl rfl (ev_w_in (by omega) (by omega)) (ev_w_in (by omega) (by omega)) (fun g76 => ?_) (fun g76 => ?_)
          · have b77 : -1 ≤ v70 ∧ v70 ≤ 1 := by omega
            refine w_t (np := 81) (l2 := [some (eR a0), some (eI (a1)), some (eI (a2)), some (eI (i3))]) (s2 := [eI (i3)]) rfl rfl rfl ?_
            exact b_ri rfl rfl (K (i3) (by omega))
          · obtain ⟨v77, e78⟩ : ∃ zz : Int, zz = (i3) + (1) := ⟨_, rfl⟩
            have b79 : 1 ≤ v77 ∧ v77 ≤ 10 := by omega
            refine w_t (np := 77) (l2 := [some (eR a0), some (eI (a1)), some (eI (a2)), some (eI (v77))]) (s2 := []) rfl (b_iinc rfl (by rw [← e78]; exact ev_w_in (by omega) (by omega)) rfl) rfl ?_
            refine w_go (t1 := 2) rfl rfl ?_
            have h80 := dm_n (i1 := v64) (i2 := v58) 3 hD (by decide) (by omega) (by omega) (by omega) (by omega) e62 e68 e71 h75 (by omega) r5
            exact ih2 (10 - (v77)).toNat (by omega) (v77) (by omega)    (by omega) rfl
  exact hL2 _ (0) (by decide)    (by omega) rfl
def l_323 : List Nat := [22016, 21760, 21248]
set_option maxHeartbeats 8000000 in
theorem s_323 {L : Nat} {ρ : Nat → Int} {rc : eQ} {d : Nat} {f : eFr} {F : List eFr} {μ : eM} {g : Nat → Nat} {a0 : Nat} {a1 : Int} (hI : SI g μ) (gA0 : g a0 = 52) (bA1 : -2147483648 ≤ a1 ∧ a1 ≤ 2147483647) (K : ∀ (μ2 : eM), SI g μ2 → Fr l_323 0 0 g μ μ2 → ex_q (dt_fg L ρ) rc (d + 4, (f.1, f.2.1, f.2.2.1, f.2.2.2), F, μ2)) : ex_q (dt_fg L ρ) rc (d + 3, (323, 0, [some (eR a0), some (eI (a1)), none, none, none, none, none, none, none, none, none], []), f :: F, μ) := by
  have F0 : Fr l_323 0 0 g μ μ := Fr.r
  refine w_t (np := 1) (l2 := [some (eR a0), some (eI (a1)), none, none, none, none, none, none, none, none, none]) (s2 := [eI (0)]) rfl rfl rfl ?_
  refine w_t (np := 2) (l2 := [some (eR a0), some (eI (a1)), some (eI (0)), none, none, none, none, none, none, none, none]) (s2 := []) rfl rfl rfl ?_
  have hL2 : ∀ (n1 : Nat) (m5 : eM) (i3 : Int), SI g m5 → Fr l_323 0 0 g μ m5 → (0 ≤ i3 ∧ i3 ≤ 10) → n1 = (10 - i3).toNat → ex_q (dt_fg L ρ) rc (d + 3, (323, 2, [some (eR a0), some (eI (a1)), some (eI (i3)), none, none, none, none, none, none, none, none], []), f :: F, m5) := by
    intro n1
    induction n1 using Nat.strongRecOn with
    | _ n1 ih2 =>
    intro m5 i3 I6 F7 b4 hn8
    refine w_t (np := 3) (l2 := [some (eR a0), some (eI (a1)), some (eI (i3)), none, none, none, none, none, none, none, none]) (s2 := [eI (i3)]) rfl rfl rfl ?_
    refine w_t (np := 5) (l2 := [some (eR a0), some (eI (a1)), some (eI (i3)), none, none, none, none, none, none, none, none]) (s2 := [eI (10), eI (i3)]) rfl rfl rfl ?_
    refine b_cge (t1 := 28) (t2 := 8) rfl rfl rfl (ev_w_in (by omega) (by omega)) rfl (fun g9 => ?_) (fun g9 => ?_)
    · have b10 : 10 ≤ i3 ∧ i3 ≤ 10 := by omega
      refine w_t (np := 29) (l2 := [some (eR a0), some (eI (a1)), some (eI (i3)), none, none, none, none, none, none, none, none]) (s2 := [eI (0)]) rfl rfl rfl ?_
      refine w_t (np := 30) (l2 := [some (eR a0), some (eI (a1)), some (eI (0)), none, none, none, none, none, none, none, none]) (s2 := []) rfl rfl rfl ?_
      have hL30 : ∀ (n10 : Nat) (m22 : eM) (i12 : Int) (o14 : Option eV) (o15 : Option eV) (o16 : Option eV) (o17 : Option eV) (o18 : Option eV) (o19 : Option eV) (o20 : Option eV) (o21 : Option eV), SI g m22 → Fr l_323 0 0 g μ m22 → (0 ≤ i12 ∧ i12 ≤ 24) → n10 = (24 - i12).toNat → ex_q (dt_fg L ρ) rc (d + 3, (323, 30, [some (eR a0), some (eI (a1)), some (eI (i12)), o14, o15, o16, o17, o18, o19, o20, o21], []), f :: F, m22) := by
        intro n10
        induction n10 using Nat.strongRecOn with
        | _ n10 ih11 =>
        intro m22 i12 o14 o15 o16 o17 o18 o19 o20 o21 I23 F24 b13 hn25
        refine w_t (np := 31) (l2 := [some (eR a0), some (eI (a1)), some (eI (i12)), o14, o15, o16, o17, o18, o19, o20, o21]) (s2 := [eI (i12)]) rfl rfl rfl ?_
        refine w_t (np := 32) (l2 := [some (eR a0), some (eI (a1)), some (eI (i12)), o14, o15, o16, o17, o18, o19, o20, o21]) (s2 := [eR a0, eI (i12)]) rfl (s_an rfl (pos_g I23 gA0 (by decide))) rfl ?_
        refine j_gi (np := 35) rfl rfl rfl I23 gA0 (by decide) (n := 69) rfl rfl (lo := 0) (hi := 24) rfl ?_
        intro v26 e27 b28
        refine b_cge (t1 := 232) (t2 := 38) rfl rfl rfl (ev_w_in (by omega) (by omega)) (ev_w_in (by omega) (by omega)) (fun g29 => ?_) (fun g29 => ?_)
        · exact v_rv rfl rfl (K m22 I23 F24)
        · have b30 : 0 ≤ i12 ∧ i12 ≤ 23 := by omega
          have b31 : 1 ≤ v26 ∧ v26 ≤ 24 := by omega
          refine w_t (np := 39) (l2 := [some (eR a0), some (eI (a1)), some (eI (i12)), o14, o15, o16, o17, o18, o19, o20, o21]) (s2 := [eR a0]) rfl (s_an rfl (pos_g I23 gA0 (by decide))) rfl ?_
          refine w_t (np := 40) (l2 := [some (eR a0), some (eI (a1)), some (eI (i12)), o14, o15, o16, o17, o18, o19, o20, o21]) (s2 := [eI (i12), eR a0]) rfl rfl rfl ?_
          refine w_t (np := 41) (l2 := [some (eR a0), some (eI (a1)), some (eI (i12)), o14, o15, o16, o17, o18, o19, o20, o21]) (s2 := [eR a0, eI (i12), eR a0]) rfl (s_an rfl (pos_g I23 gA0 (by decide))) rfl ?_
          refine j_gr (np := 44) rfl rfl I23 gA0 (by decide) (n := 69) rfl rfl rfl ?_
          intro v30 e31 b32 z33
          have b32 : g v30 = 83 := Nat.eq_of_beq_eq_true b32
          refine w_cw (np := 47) (as := [eI (i12), eR v30]) (l2 := [some (eR a0), some (eI (i12)), some (eR v30), none, none, none, none]) (rest := []) rfl rfl rfl (Nat.ble_eq.mp rfl) rfl rfl rfl (I23.kd gA0 (by decide) (n := 69) rfl) rfl ?_
          refine s_302e (a1 := i12) I23 gA0 (by omega) b32 ?_
          intro m34 I35 F36 p37
          have F38 : Fr l_323 0 0 g μ m34 := F24.t F36 rfl
          show ex_q (dt_fg L ρ) rc (d + 3, (323, 47, [some (eR a0), some (eI (a1)), some (eI (i12)), o14, o15, o16, o17, o18, o19, o20, o21], []), f :: F, m34)
          refine w_t (np := 48) (l2 := [some (eR a0), some (eI (a1)), some (eI (i12)), o14, o15, o16, o17, o18, o19, o20, o21]) (s2 := [eR a0]) rfl (s_an rfl (pos_g I35 gA0 (by decide))) rfl ?_
          refine j_gr (np := 51) rfl rfl I35 gA0 (by decide) (n := 69) rfl rfl rfl ?_
          intro v39 e40 b41 z42
          have b41 : g v39 = 79 := Nat.eq_of_beq_eq_true b41
          refine w_t (np := 53) (l2 := [some (eR a0), some (eI (a1)), some (eI (i12)), o14, o15, o16, o17, o18, o19, o20, o21]) (s2 := [eI (7), eR v39]) rfl rfl rfl ?_
          refine w_t (np := 54) (l2 := [some (eR a0), some (eI (a1)), some (eI (i12)), o14, o15, o16, o17, o18, o19, o20, o21]) (s2 := [eI (i12), eI (7), eR v39]) rfl rfl rfl ?_
          obtain ⟨v43, e44⟩ : ∃ zz : Int, zz = (7) * (i12) := ⟨_, rfl⟩
          have b45 : 0 ≤ v43 ∧ v43 ≤ 161 := by omega
          refine w_t (np := 55) (l2 := [some (eR a0), some (eI (a1)), some (eI (i12)), o14, o15, o16, o17, o18, o19, o20, o21]) (s2 := [eI (v43), eR v39]) rfl (b_imul (by rw [← e44]; exact ev_w_in (by omega) (by omega))) rfl ?_
          refine j_al (np := 56) rfl rfl I35 b41 (by decide) (n := 168) rfl rfl (lo := -2147483648) (hi := 2147483647) (fun _ => rfl) (by omega) (by omega) ?_
          intro v46 e47 b48
          refine w_t (np := 57) (l2 := [some (eR a0), some (eI (a1)), some (eI (i12)), some (eI (v46)), o15, o16, o17, o18, o19, o20, o21]) (s2 := []) rfl rfl rfl ?_
          refine w_t (np := 58) (l2 := [some (eR a0), some (eI (a1)), some (eI (i12)), some (eI (v46)), o15, o16, o17, o18, o19, o20, o21]) (s2 := [eI (0)]) rfl rfl rfl ?_
          refine w_t (np := 60) (l2 := [some (eR a0), some (eI (a1)), some (eI (i12)), some (eI (v46)), some (eI (0)), o16, o17, o18, o19, o20, o21]) (s2 := []) rfl rfl rfl ?_
          have hL60 : ∀ (n49 : Nat) (m59 : eM) (i51 : Int) (o53 : Option eV) (o54 : Option eV) (o55 : Option eV) (o56 : Option eV) (o57 : Option eV) (o58 : Option eV), SI g m59 → Fr l_323 0 0 g μ m59 → (0 ≤ i51 ∧ i51 ≤ 4) → m59.1 a0 49 = v26 → m59.1 a0 47 = ((v30 : Nat) : Int) → m59.1 a0 43 = ((v39 : Nat) : Int) → m59.1 v39 (v43).toNat = v46 → CR g m59 → n49 = (4 - i51).toNat → ex_q (dt_fg L ρ) rc (d + 3, (323, 60, [some (eR a0), some (eI (a1)), some (eI (i12)), some (eI (v46)), some (eI (i51)), o53, o54, o55, o56, o57, o58], []), f :: F, m59) := by
            intro n49
            induction n49 using Nat.strongRecOn with
            | _ n49 ih50 =>
            intro m59 i51 o53 o54 o55 o56 o57 o58 I60 F61 b52 k62 k63 k64 k65 p66 hn67
            refine w_t (np := 62) (l2 := [some (eR a0), some (eI (a1)), some (eI (i12)), some (eI (v46)), some (eI (i51)), o53, o54, o55, o56, o57, o58]) (s2 := [eI (i51)]) rfl rfl rfl ?_
            refine w_t (np := 63) (l2 := [some (eR a0), some (eI (a1)), some (eI (i12)), some (eI (v46)), some (eI (i51)), o53, o54, o55, o56, o57, o58]) (s2 := [eI (4), eI (i51)]) rfl rfl rfl ?_
            refine b_cge (t1 := 226) (t2 := 66) rfl rfl rfl (ev_w_in (by omega) (by omega)) rfl (fun g68 => ?_) (fun g68 => ?_)
            · have b69 : 4 ≤ i51 ∧ i51 ≤ 4 := by omega
              obtain ⟨v69, e70⟩ : ∃ zz : Int, zz = (i12) + (1) := ⟨_, rfl⟩
              have b71 : 1 ≤ v69 ∧ v69 ≤ 24 := by omega
              refine w_t (np := 229) (l2 := [some (eR a0), some (eI (a1)), some (eI (v69)), some (eI (v46)), some (eI (i51)), o53, o54, o55, o56, o57, o58]) (s2 := []) rfl (b_iinc rfl (by rw [← e70]; exact ev_w_in (by omega) (by omega)) rfl) rfl ?_
              refine w_go (t1 := 30) rfl rfl ?_
              exact ih11 (24 - (v69)).toNat (by omega) m59 (v69) (some (eI (v46))) (some (eI (i51))) (o53) (o54) (o55) (o56) (o57) (o58) I60 F61 (by omega)     rfl
            · have b69 : 0 ≤ i51 ∧ i51 ≤ 3 := by omega
              refine w_t (np := 67) (l2 := [some (eR a0), some (eI (a1)), some (eI (i12)), some (eI (v46)), some (eI (i51)), o53, o54, o55, o56, o57, o58]) (s2 := [eR a0]) rfl (s_an rfl (pos_g I60 gA0 (by decide))) rfl ?_
              refine j_gr (np := 70) rfl rfl I60 gA0 (by decide) (n := 69) rfl rfl rfl ?_
              intro v69 e70 b71 z72
              have b71 : g v69 = 81 := Nat.eq_of_beq_eq_true b71
              refine w_t (np := 71) (l2 := [some (eR a0), some (eI (a1)), some (eI (i12)), some (eI (v46)), some (eI (i51)), o53, o54, o55, o56, o57, o58]) (s2 := [eI (4), eR v69]) rfl rfl rfl ?_
              refine w_t (np := 72) (l2 := [some (eR a0), some (eI (a1)), some (eI (i12)), some (eI (v46)), some (eI (i51)), o53, o54, o55, o56, o57, o58]) (s2 := [eI (i12), eI (4), eR v69]) rfl rfl rfl ?_
              obtain ⟨v73, e74⟩ : ∃ zz : Int, zz = (4) * (i12) := ⟨_, rfl⟩
              have b75 : 0 ≤ v73 ∧ v73 ≤ 92 := by omega
              refine w_t (np := 73) (l2 := [some (eR a0), some (eI (a1)), some (eI (i12)), some (eI (v46)), some (eI (i51)), o53, o54, o55, o56, o57, o58]) (s2 := [eI (v73), eR v69]) rfl (b_imul (by rw [← e74]; exact ev_w_in (by omega) (by omega))) rfl ?_
              refine w_t (np := 75) (l2 := [some (eR a0), some (eI (a1)), some (eI (i12)), some (eI (v46)), some (eI (i51)), o53, o54, o55, o56, o57, o58]) (s2 := [eI (i51), eI (v73), eR v69]) rfl rfl rfl ?_
              obtain ⟨v76, e77⟩ : ∃ zz : Int, zz = (v73) + (i51) := ⟨_, rfl⟩
              have b78 : 0 ≤ v76 ∧ v76 ≤ 95 := by omega
              refine w_t (np := 76) (l2 := [some (eR a0), some (eI (a1)), some (eI (i12)), some (eI (v46)), some (eI (i51)), o53, o54, o55, o56, o57, o58]) (s2 := [eI (v76), eR v69]) rfl (b_iadd (by rw [← e77]; exact ev_w_in (by omega) (by omega))) rfl ?_
              refine j_al (np := 77) rfl rfl I60 b71 (by decide) (n := 96) rfl rfl (lo := 0) (hi := 95) (fun _ => rfl) (by omega) (by omega) ?_
              intro v79 e80 b81
              refine w_t (np := 78) (l2 := [some (eR a0), some (eI (a1)), some (eI (i12)), some (eI (v46)), some (eI (i51)), o53, o54, o55, o56, o57, o58]) (s2 := [eI (a1), eI (v79)]) rfl rfl rfl ?_
              refine b_ceq (t1 := 84) (t2 := 81) rfl rfl rfl (ev_w_in (by omega) (by omega)) (ev_w_in (by omega) (by omega)) (fun g82 => ?_) (fun g82 => ?_)
              · have b83 : 0 ≤ a1 ∧ a1 ≤ 95 := by omega
                refine w_t (np := 86) (l2 := [some (eR a0), some (eI (a1)), some (eI (i12)), some (eI (v46)), some (eI (i51)), o53, o54, o55, o56, o57, o58]) (s2 := [eI (i51)]) rfl rfl rfl ?_
                refine w_t (np := 87) (l2 := [some (eR a0), some (eI (a1)), some (eI (i12)), some (eI (v46)), some (eI (i51)), o53, o54, o55, o56, o57, o58]) (s2 := [eI (3), eI (i51)]) rfl rfl rfl ?_
                obtain ⟨v83, e84⟩ : ∃ zz : Int, zz = (i51) + (3) := ⟨_, rfl⟩
                have b85 : 3 ≤ v83 ∧ v83 ≤ 6 := by omega
                refine w_t (np := 88) (l2 := [some (eR a0), some (eI (a1)), some (eI (i12)), some (eI (v46)), some (eI (i51)), o53, o54, o55, o56, o57, o58]) (s2 := [eI (v83)]) rfl (b_iadd (by rw [← e84]; exact ev_w_in (by omega) (by omega))) rfl ?_
                refine w_t (np := 89) (l2 := [some (eR a0), some (eI (a1)), some (eI (i12)), some (eI (v46)), some (eI (i51)), o53, o54, o55, o56, o57, o58]) (s2 := [eI (4), eI (v83)]) rfl rfl rfl ?_
                obtain ⟨v86, e87, b88⟩ := h_irem (a := v83) (k := 4) (by decide) (by decide) (show (-2147483648 : Int) ≤ v83 ∧ (v83 : Int) ≤ 2147483647 by omega)
                have b90 : v86 = (v83) % 4 := b88.1 (by omega)
                clear b88
                have b89 : 0 ≤ v86 ∧ v86 ≤ 3 := by omega
                refine w_t (np := 90) (l2 := [some (eR a0), some (eI (a1)), some (eI (i12)), some (eI (v46)), some (eI (i51)), o53, o54, o55, o56, o57, o58]) (s2 := [eI (v86)]) rfl (e87 _ _) rfl ?_
                refine w_t (np := 92) (l2 := [some (eR a0), some (eI (a1)), some (eI (i12)), some (eI (v46)), some (eI (i51)), some (eI (v86)), o54, o55, o56, o57, o58]) (s2 := []) rfl rfl rfl ?_
                refine w_t (np := 93) (l2 := [some (eR a0), some (eI (a1)), some (eI (i12)), some (eI (v46)), some (eI (i51)), some (eI (v86)), o54, o55, o56, o57, o58]) (s2 := [eR a0]) rfl (s_an rfl (pos_g I60 gA0 (by decide))) rfl ?_
                refine w_gf (np := 96) (v := eR v30) rfl rfl (I60.kd gA0 (by decide) (n := 69) rfl) (by rw [k63]; rfl) ?_
                refine w_t (np := 97) (l2 := [some (eR a0), some (eI (a1)), some (eI (i12)), some (eI (v46)), some (eI (i51)), some (eI (v86)), o54, o55, o56, o57, o58]) (s2 := [eI (4), eR v30]) rfl rfl rfl ?_
                refine w_t (np := 99) (l2 := [some (eR a0), some (eI (a1)), some (eI (i12)), some (eI (v46)), some (eI (i51)), some (eI (v86)), o54, o55, o56, o57, o58]) (s2 := [eI (i51), eI (4), eR v30]) rfl rfl rfl ?_
                obtain ⟨v91, e92⟩ : ∃ zz : Int, zz = (4) * (i51) := ⟨_, rfl⟩
                have b93 : 0 ≤ v91 ∧ v91 ≤ 12 := by omega
                refine w_t (np := 100) (l2 := [some (eR a0), some (eI (a1)), some (eI (i12)), some (eI (v46)), some (eI (i51)), some (eI (v86)), o54, o55, o56, o57, o58]) (s2 := [eI (v91), eR v30]) rfl (b_imul (by rw [← e92]; exact ev_w_in (by omega) (by omega))) rfl ?_
                refine w_t (np := 101) (l2 := [some (eR a0), some (eI (a1)), some (eI (i12)), some (eI (v46)), some (eI (i51)), some (eI (v86)), o54, o55, o56, o57, o58]) (s2 := [eI (4), eI (v91), eR v30]) rfl rfl rfl ?_
                refine w_t (np := 103) (l2 := [some (eR a0), some (eI (a1)), some (eI (i12)), some (eI (v46)), some (eI (i51)), some (eI (v86)), o54, o55, o56, o57, o58]) (s2 := [eI (i51), eI (4), eI (v91), eR v30]) rfl rfl rfl ?_
                refine w_t (np := 104) (l2 := [some (eR a0), some (eI (a1)), some (eI (i12)), some (eI (v46)), some (eI (i51)), some (eI (v86)), o54, o55, o56, o57, o58]) (s2 := [eI (1), eI (i51), eI (4), eI (v91), eR v30]) rfl rfl rfl ?_
                obtain ⟨v94, e95⟩ : ∃ zz : Int, zz = (i51) + (1) := ⟨_, rfl⟩
                have b96 : 1 ≤ v94 ∧ v94 ≤ 4 := by omega
                refine w_t (np := 105) (l2 := [some (eR a0), some (eI (a1)), some (eI (i12)), some (eI (v46)), some (eI (i51)), some (eI (v86)), o54, o55, o56, o57, o58]) (s2 := [eI (v94), eI (4), eI (v91), eR v30]) rfl (b_iadd (by rw [← e95]; exact ev_w_in (by omega) (by omega))) rfl ?_
                refine w_t (np := 106) (l2 := [some (eR a0), some (eI (a1)), some (eI (i12)), some (eI (v46)), some (eI (i51)), some (eI (v86)), o54, o55, o56, o57, o58]) (s2 := [eI (4), eI (v94), eI (4), eI (v91), eR v30]) rfl rfl rfl ?_
                obtain ⟨v97, e98, b99⟩ := h_irem (a := v94) (k := 4) (by decide) (by decide) (show (-2147483648 : Int) ≤ v94 ∧ (v94 : Int) ≤ 2147483647 by omega)
                have b101 : v97 = (v94) % 4 := b99.1 (by omega)
                clear b99
                have b100 : 0 ≤ v97 ∧ v97 ≤ 3 := by omega
                refine w_t (np := 107) (l2 := [some (eR a0), some (eI (a1)), some (eI (i12)), some (eI (v46)), some (eI (i51)), some (eI (v86)), o54, o55, o56, o57, o58]) (s2 := [eI (v97), eI (4), eI (v91), eR v30]) rfl (e98 _ _) rfl ?_
                obtain ⟨v102, e103⟩ : ∃ zz : Int, zz = (4) * (v97) := ⟨_, rfl⟩
                have b104 : 0 ≤ v102 ∧ v102 ≤ 12 := by omega
                refine w_t (np := 108) (l2 := [some (eR a0), some (eI (a1)), some (eI (i12)), some (eI (v46)), some (eI (i51)), some (eI (v86)), o54, o55, o56, o57, o58]) (s2 := [eI (v102), eI (v91), eR v30]) rfl (b_imul (by rw [← e103]; exact ev_w_in (by omega) (by omega))) rfl ?_
                obtain ⟨D105, h106⟩ := (CRr.d (p66 _ b32) (i := i51) (a := v91) (b := v102) (by omega) (by omega) (by omega)).1
                refine w_cu (np := 111) (as := [eR v30, eI (v91), eI (v102)]) (l2 := [some (eR v30), some (eI (v91)), some (eI (v102)), none]) (rest := []) rfl rfl rfl (Nat.ble_eq.mp rfl) rfl rfl rfl rfl ?_
                refine s_322 (a1 := v91) (a2 := v102) I60 b32 (by omega) (by omega) h106 ?_
                intro v107 b108
                show ex_q (dt_fg L ρ) rc (d + 3, (323, 111, [some (eR a0), some (eI (a1)), some (eI (i12)), some (eI (v46)), some (eI (i51)), some (eI (v86)), o54, o55, o56, o57, o58], [eI (v107)]), f :: F, m59)
                refine w_t (np := 113) (l2 := [some (eR a0), some (eI (a1)), some (eI (i12)), some (eI (v46)), some (eI (i51)), some (eI (v86)), some (eI (v107)), o55, o56, o57, o58]) (s2 := []) rfl rfl rfl ?_
                refine w_t (np := 114) (l2 := [some (eR a0), some (eI (a1)), some (eI (i12)), some (eI (v46)), some (eI (i51)), some (eI (v86)), some (eI (v107)), o55, o56, o57, o58]) (s2 := [eR a0]) rfl (s_an rfl (pos_g I60 gA0 (by decide))) rfl ?_
                refine w_gf (np := 117) (v := eR v30) rfl rfl (I60.kd gA0 (by decide) (n := 69) rfl) (by rw [k63]; rfl) ?_
                refine w_t (np := 118) (l2 := [some (eR a0), some (eI (a1)), some (eI (i12)), some (eI (v46)), some (eI (i51)), some (eI (v86)), some (eI (v107)), o55, o56, o57, o58]) (s2 := [eI (4), eR v30]) rfl rfl rfl ?_
                refine w_t (np := 120) (l2 := [some (eR a0), some (eI (a1)), some (eI (i12)), some (eI (v46)), some (eI (i51)), some (eI (v86)), some (eI (v107)), o55, o56, o57, o58]) (s2 := [eI (i51), eI (4), eR v30]) rfl rfl rfl ?_
                obtain ⟨v109, e110⟩ : ∃ zz : Int, zz = (4) * (i51) := ⟨_, rfl⟩
                have b111 : 0 ≤ v109 ∧ v109 ≤ 12 := by omega
                refine w_t (np := 121) (l2 := [some (eR a0), some (eI (a1)), some (eI (i12)), some (eI (v46)), some (eI (i51)), some (eI (v86)), some (eI (v107)), o55, o56, o57, o58]) (s2 := [eI (v109), eR v30]) rfl (b_imul (by rw [← e110]; exact ev_w_in (by omega) (by omega))) rfl ?_
                refine w_t (np := 122) (l2 := [some (eR a0), some (eI (a1)), some (eI (i12)), some (eI (v46)), some (eI (i51)), some (eI (v86)), some (eI (v107)), o55, o56, o57, o58]) (s2 := [eI (4), eI (v109), eR v30]) rfl rfl rfl ?_
                refine w_t (np := 124) (l2 := [some (eR a0), some (eI (a1)), some (eI (i12)), some (eI (v46)), some (eI (i51)), some (eI (v86)), some (eI (v107)), o55, o56, o57, o58]) (s2 := [eI (v86), eI (4), eI (v109), eR v30]) rfl rfl rfl ?_
                obtain ⟨v112, e113⟩ : ∃ zz : Int, zz = (4) * (v86) := ⟨_, rfl⟩
                have b114 : 0 ≤ v112 ∧ v112 ≤ 12 := by omega
                refine w_t (np := 125) (l2 := [some (eR a0), some (eI (a1)), some (eI (i12)), some (eI (v46)), some (eI (i51)), some (eI (v86)), some (eI (v107)), o55, o56, o57, o58]) (s2 := [eI (v112), eI (v109), eR v30]) rfl (b_imul (by rw [← e113]; exact ev_w_in (by omega) (by omega))) rfl ?_
                obtain ⟨D115, h116⟩ := (CRr.d (p66 _ b32) (i := v86) (a := v112) (b := v109) (by omega) (by omega) (by omega)).2
                refine w_cu (np := 128) (as := [eR v30, eI (v109), eI (v112)]) (l2 := [some (eR v30), some (eI (v109)), some (eI (v112)), none]) (rest := []) rfl rfl rfl (Nat.ble_eq.mp rfl) rfl rfl rfl rfl ?_
                refine s_322 (a1 := v109) (a2 := v112) I60 b32 (by omega) (by omega) h116 ?_
                intro v117 b118
                show ex_q (dt_fg L ρ) rc (d + 3, (323, 128, [some (eR a0), some (eI (a1)), some (eI (i12)), some (eI (v46)), some (eI (i51)), some (eI (v86)), some (eI (v107)), o55, o56, o57, o58], [eI (v117)]), f :: F, m59)
                refine w_t (np := 130) (l2 := [some (eR a0), some (eI (a1)), some (eI (i12)), some (eI (v46)), some (eI (i51)), some (eI (v86)), some (eI (v107)), some (eI (v117)), o56, o57, o58]) (s2 := []) rfl rfl rfl ?_
                refine w_t (np := 131) (l2 := [some (eR a0), some (eI (a1)), some (eI (i12)), some (eI (v46)), some (eI (i51)), some (eI (v86)), some (eI (v107)), some (eI (v117)), o56, o57, o58]) (s2 := [eR a0]) rfl (s_an rfl (pos_g I60 gA0 (by decide))) rfl ?_
                refine j_gr (np := 134) rfl rfl I60 gA0 (by decide) (n := 69) rfl rfl rfl ?_
                intro v119 e120 b121 z122
                have b121 : g v119 = 86 := Nat.eq_of_beq_eq_true b121
                refine w_t (np := 136) (l2 := [some (eR a0), some (eI (a1)), some (eI (i12)), some (eI (v46)), some (eI (i51)), some (eI (v86)), some (eI (v107)), some (eI (v117)), o56, o57, o58]) (s2 := [eI (v107), eR v119]) rfl rfl rfl ?_
                refine w_t (np := 137) (l2 := [some (eR a0), some (eI (a1)), some (eI (i12)), some (eI (v46)), some (eI (i51)), some (eI (v86)), some (eI (v107)), some (eI (v117)), o56, o57, o58]) (s2 := [eI (v46), eI (v107), eR v119]) rfl rfl rfl ?_
                refine w_t (np := 139) (l2 := [some (eR a0), some (eI (a1)), some (eI (i12)), some (eI (v46)), some (eI (i51)), some (eI (v86)), some (eI (v107)), some (eI (v117)), o56, o57, o58]) (s2 := [eI (i51), eI (v46), eI (v107), eR v119]) rfl rfl rfl ?_
                refine w_cu (np := 142) (as := [eI (v46), eI (i51)]) (l2 := [some (eI (v46)), some (eI (i51)), none]) (rest := [eI (v107), eR v119]) rfl rfl rfl (Nat.ble_eq.mp rfl) rfl rfl rfl rfl ?_
                refine s_309 (a0 := v46) (a1 := i51) I60 (by omega) (by omega) ?_
                intro v123 b124
                show ex_q (dt_fg L ρ) rc (d + 3, (323, 142, [some (eR a0), some (eI (a1)), some (eI (i12)), some (eI (v46)), some (eI (i51)), some (eI (v86)), some (eI (v107)), some (eI (v117)), o56, o57, o58], [eI (v123), eI (v107), eR v119]), f :: F, m59)
                refine j_as (np := 143) rfl rfl I60 b121 (by decide) (n := 10) rfl rfl (lo := -1) (hi := 3) (fun _ => rfl) (by omega) (by omega) (by omega) ?_
                intro m125 I126 W127
                have F128 : Fr l_323 0 0 g μ m125 := F61.v W127 b121 rfl rfl
                have p129 : CR g m125 := CR.fr p66 (Fr.o W127 b121 rfl) rfl
                refine w_t (np := 144) (l2 := [some (eR a0), some (eI (a1)), some (eI (i12)), some (eI (v46)), some (eI (i51)), some (eI (v86)), some (eI (v107)), some (eI (v117)), o56, o57, o58]) (s2 := [eR a0]) rfl (s_an rfl (pos_g I126 gA0 (by decide))) rfl ?_
                refine w_gf (np := 147) (v := eR v119) rfl rfl (I126.kd gA0 (by decide) (n := 69) rfl) (by rw [(W127.addr e120 b121 gA0 (by decide))]; rfl) ?_
                refine w_t (np := 149) (l2 := [some (eR a0), some (eI (a1)), some (eI (i12)), some (eI (v46)), some (eI (i51)), some (eI (v86)), some (eI (v107)), some (eI (v117)), o56, o57, o58]) (s2 := [eI (v117), eR v119]) rfl rfl rfl ?_
                refine w_t (np := 150) (l2 := [some (eR a0), some (eI (a1)), some (eI (i12)), some (eI (v46)), some (eI (i51)), some (eI (v86)), some (eI (v107)), some (eI (v117)), o56, o57, o58]) (s2 := [eI (v46), eI (v117), eR v119]) rfl rfl rfl ?_
                refine w_t (np := 152) (l2 := [some (eR a0), some (eI (a1)), some (eI (i12)), some (eI (v46)), some (eI (i51)), some (eI (v86)), some (eI (v107)), some (eI (v117)), o56, o57, o58]) (s2 := [eI (v86), eI (v46), eI (v117), eR v119]) rfl rfl rfl ?_
                refine w_cu (np := 155) (as := [eI (v46), eI (v86)]) (l2 := [some (eI (v46)), some (eI (v86)), none]) (rest := [eI (v117), eR v119]) rfl rfl rfl (Nat.ble_eq.mp rfl) rfl rfl rfl rfl ?_
                refine s_309 (a0 := v46) (a1 := v86) I126 (by omega) (by omega) ?_
                intro v130 b131
                show ex_q (dt_fg L ρ) rc (d + 3, (323, 155, [some (eR a0), some (eI (a1)), some (eI (i12)), some (eI (v46)), some (eI (i51)), some (eI (v86)), some (eI (v107)), some (eI (v117)), o56, o57, o58], [eI (v130), eI (v117), eR v119]), f :: F, m125)
                refine w_t (np := 156) (l2 := [some (eR a0), some (eI (a1)), some (eI (i12)), some (eI (v46)), some (eI (i51)), some (eI (v86)), some (eI (v107)), some (eI (v117)), o56, o57, o58]) (s2 := [eI (1), eI (v130), eI (v117), eR v119]) rfl rfl rfl ?_
                obtain ⟨v132, e133, b134⟩ := h_ixor3 (a := v130) (by omega)
                refine w_t (np := 157) (l2 := [some (eR a0), some (eI (a1)), some (eI (i12)), some (eI (v46)), some (eI (i51)), some (eI (v86)), some (eI (v107)), some (eI (v117)), o56, o57, o58]) (s2 := [eI (v132), eI (v117), eR v119]) rfl (e133 _ _) rfl ?_
                refine j_as (np := 158) rfl rfl I126 b121 (by decide) (n := 10) rfl rfl (lo := -1) (hi := 3) (fun _ => rfl) (by omega) (by omega) (by omega) ?_
                intro m135 I136 W137
                have F138 : Fr l_323 0 0 g μ m135 := F128.v W137 b121 rfl rfl
                have p139 : CR g m135 := CR.fr p129 (Fr.o W137 b121 rfl) rfl
                refine w_t (np := 159) (l2 := [some (eR a0), some (eI (a1)), some (eI (i12)), some (eI (v46)), some (eI (i51)), some (eI (v86)), some (eI (v107)), some (eI (v117)), o56, o57, o58]) (s2 := [eI (v46)]) rfl rfl rfl ?_
                refine w_t (np := 161) (l2 := [some (eR a0), some (eI (a1)), some (eI (i12)), some (eI (v46)), some (eI (i51)), some (eI (v86)), some (eI (v107)), some (eI (v117)), o56, o57, o58]) (s2 := [eI (i51), eI (v46)]) rfl rfl rfl ?_
                refine w_t (np := 162) (l2 := [some (eR a0), some (eI (a1)), some (eI (i12)), some (eI (v46)), some (eI (i51)), some (eI (v86)), some (eI (v107)), some (eI (v117)), o56, o57, o58]) (s2 := [eI (2), eI (i51), eI (v46)]) rfl rfl rfl ?_
                obtain ⟨v140, e141, b142⟩ := h_irem (a := i51) (k := 2) (by decide) (by decide) (show (-2147483648 : Int) ≤ i51 ∧ (i51 : Int) ≤ 2147483647 by omega)
                have b144 : v140 = (i51) % 2 := b142.1 (by omega)
                clear b142
                have b143 : 0 ≤ v140 ∧ v140 ≤ 1 := by omega
                refine w_t (np := 163) (l2 := [some (eR a0), some (eI (a1)), some (eI (i12)), some (eI (v46)), some (eI (i51)), some (eI (v86)), some (eI (v107)), some (eI (v117)), o56, o57, o58]) (s2 := [eI (v140), eI (v46)]) rfl (e141 _ _) rfl ?_
                refine w_cu (np := 166) (as := [eI (v46), eI (v140)]) (l2 := [some (eI (v46)), some (eI (v140))]) (rest := []) rfl rfl rfl (Nat.ble_eq.mp rfl) rfl rfl rfl rfl ?_
                refine w_t (np := 1) (l2 := [some (eI (v46)), some (eI (v140))]) (s2 := [eI (v46)]) rfl rfl rfl ?_
                refine b_ine (t1 := 16) (t2 := 4) rfl rfl rfl (ev_w_in (by omega) (by omega)) (fun g145 => ?_) (fun g145 => ?_)
                · refine w_t (np := 17) (l2 := [some (eI (v46)), some (eI (v140))]) (s2 := [eI (v140)]) rfl rfl rfl ?_
                  refine b_ine (t1 := 24) (t2 := 20) rfl rfl rfl (ev_w_in (by omega) (by omega)) (fun g146 => ?_) (fun g146 => ?_)
                  · have b147 : 1 ≤ v140 ∧ v140 ≤ 1 := by omega
                    refine w_t (np := 25) (l2 := [some (eI (v46)), some (eI (v140))]) (s2 := [eI (2)]) rfl rfl rfl ?_
                    refine b_ri rfl rfl ?_
                    show ex_q (dt_fg L ρ) rc (d + 3, (323, 166, [some (eR a0), some (eI (a1)), some (eI (i12)), some (eI (v46)), some (eI (i51)), some (eI (v86)), some (eI (v107)), some (eI (v117)), o56, o57, o58], [eI (2)]), f :: F, m135)
                    refine w_t (np := 168) (l2 := [some (eR a0), some (eI (a1)), some (eI (i12)), some (eI (v46)), some (eI (i51)), some (eI (v86)), some (eI (v107)), some (eI (v117)), some (eI (2)), o57, o58]) (s2 := []) rfl rfl rfl ?_
                    refine w_t (np := 170) (l2 := [some (eR a0), some (eI (a1)), some (eI (i12)), some (eI (v46)), some (eI (i51)), some (eI (v86)), some (eI (v107)), some (eI (v117)), some (eI (2)), o57, o58]) (s2 := [eI (v117)]) rfl rfl rfl ?_
                    refine w_t (np := 172) (l2 := [some (eR a0), some (eI (a1)), some (eI (i12)), some (eI (v46)), some (eI (i51)), some (eI (v86)), some (eI (v107)), some (eI (v117)), some (eI (2)), o57, o58]) (s2 := [eI (v107), eI (v117)]) rfl rfl rfl ?_
                    obtain ⟨v147, e148⟩ : ∃ zz : Int, zz = (v117) - (v107) := ⟨_, rfl⟩
                    have b149 : -9 ≤ v147 ∧ v147 ≤ 9 := by omega
                    refine w_t (np := 173) (l2 := [some (eR a0), some (eI (a1)), some (eI (i12)), some (eI (v46)), some (eI (i51)), some (eI (v86)), some (eI (v107)), some (eI (v117)), some (eI (2)), o57, o58]) (s2 := [eI (v147)]) rfl (b_isub (by rw [← e148]; exact ev_w_in (by omega) (by omega))) rfl ?_
                    refine w_cu (np := 176) (as := [eI (v147)]) (l2 := [some (eI (v147))]) (rest := []) rfl rfl rfl (Nat.ble_eq.mp rfl) rfl rfl rfl rfl ?_
                    refine s_217e (a0 := v147) I136 (by omega) ?_
                    intro v150 b151 h152
                    show ex_q (dt_fg L ρ) rc (d + 3, (323, 176, [some (eR a0), some (eI (a1)), some (eI (i12)), some (eI (v46)), some (eI (i51)), some (eI (v86)), some (eI (v107)), some (eI (v117)), some (eI (2)), o57, o58], [eI (v150)]), f :: F, m135)
                    refine w_t (np := 178) (l2 := [some (eR a0), some (eI (a1)), some (eI (i12)), some (eI (v46)), some (eI (i51)), some (eI (v86)), some (eI (v107)), some (eI (v117)), some (eI (2)), o57, o58]) (s2 := [eI (2), eI (v150)]) rfl rfl rfl ?_
                    refine b_cne (t1 := 186) (t2 := 181) rfl rfl rfl (ev_w_in (by omega) (by omega)) rfl (fun g153 => ?_) (fun g153 => ?_)
                    · refine w_t (np := 188) (l2 := [some (eR a0), some (eI (a1)), some (eI (i12)), some (eI (v46)), some (eI (i51)), some (eI (v86)), some (eI (v107)), some (eI (v117)), some (eI (2)), o57, o58]) (s2 := [eI (v117)]) rfl rfl rfl ?_
                      refine w_t (np := 190) (l2 := [some (eR a0), some (eI (a1)), some (eI (i12)), some (eI (v46)), some (eI (i51)), some (eI (v86)), some (eI (v107)), some (eI (v117)), some (eI (2)), some (eI (v117)), o58]) (s2 := []) rfl rfl rfl ?_
                      refine w_t (np := 191) (l2 := [some (eR a0), some (eI (a1)), some (eI (i12)), some (eI (v46)), some (eI (i51)), some (eI (v86)), some (eI (v107)), some (eI (v117)), some (eI (2)), some (eI (v117)), o58]) (s2 := [eI (0)]) rfl rfl rfl ?_
                      refine w_t (np := 193) (l2 := [some (eR a0), some (eI (a1)), some (eI (i12)), some (eI (v46)), some (eI (i51)), some (eI (v86)), some (eI (v107)), some (eI (v117)), some (eI (2)), some (eI (v117)), some (eI (0))]) (s2 := []) rfl rfl rfl ?_
                      have hL193 : ∀ (n154 : Nat) (m158 : eM) (i156 : Int), SI g m158 → Fr l_323 0 0 g μ m158 → (0 ≤ i156 ∧ i156 ≤ 4) → m158.1 a0 49 = v26 → m158.1 a0 47 = ((v30 : Nat) : Int) → m158.1 a0 43 = ((v39 : Nat) : Int) → m158.1 v39 (v43).toNat = v46 → m158.1 a0 45 = ((v69 : Nat) : Int) → m158.1 v69 (v76).toNat = v79 → m158.1 a0 52 = ((v119 : Nat) : Int) → CR g m158 → n154 = (4 - i156).toNat → ex_q (dt_fg L ρ) rc (d + 3, (323, 193, [some (eR a0), some (eI (a1)), some (eI (i12)), some (eI (v46)), some (eI (i51)), some (eI (v86)), some (eI (v107)), some (eI (v117)), some (eI (2)), some (eI (v117)), some (eI (i156))], []), f :: F, m158) := by
                        intro n154
                        induction n154 using Nat.strongRecOn with
                        | _ n154 ih155 =>
                        intro m158 i156 I159 F160 b157 k161 k162 k163 k164 k165 k166 k167 p168 hn169
                        refine w_t (np := 195) (l2 := [some (eR a0), some (eI (a1)), some (eI (i12)), some (eI (v46)), some (eI (i51)), some (eI (v86)), some (eI (v107)), some (eI (v117)), some (eI (2)), some (eI (v117)), some (eI (i156))]) (s2 := [eI (i156)]) rfl rfl rfl ?_
                        refine w_t (np := 197) (l2 := [some (eR a0), some (eI (a1)), some (eI (i12)), some (eI (v46)), some (eI (i51)), some (eI (v86)), some (eI (v107)), some (eI (v117)), some (eI (2)), some (eI (v117)), some (eI (i156))]) (s2 := [eI (2), eI (i156)]) rfl rfl rfl ?_
                        refine b_cge (t1 := 220) (t2 := 200) rfl rfl rfl (ev_w_in (by omega) (by omega)) rfl (fun g170 => ?_) (fun g170 => ?_)
                        · have b171 : 2 ≤ i156 ∧ i156 ≤ 4 := by omega
                          obtain ⟨v171, e172⟩ : ∃ zz : Int, zz = (i51) + (1) := ⟨_, rfl⟩
                          have b173 : 1 ≤ v171 ∧ v171 ≤ 4 := by omega
                          refine w_t (np := 223) (l2 := [some (eR a0), some (eI (a1)), some (eI (i12)), some (eI (v46)), some (eI (v171)), some (eI (v86)), some (eI (v107)), some (eI (v117)), some (eI (2)), some (eI (v117)), some (eI (i156))]) (s2 := []) rfl (b_iinc rfl (by rw [← e172]; exact ev_w_in (by omega) (by omega)) rfl) rfl ?_
                          refine w_go (t1 := 60) rfl rfl ?_
                          exact ih50 (4 - (v171)).toNat (by omega) m158 (v171) (some (eI (v86))) (some (eI (v107))) (some (eI (v117))) (some (eI (2))) (some (eI (v117))) (some (eI (i156))) I159 F160 (by omega) k161 k162 k163 k164  p168  rfl
                        · have b171 : 0 ≤ i156 ∧ i156 ≤ 1 := by omega
                          refine w_t (np := 201) (l2 := [some (eR a0), some (eI (a1)), some (eI (i12)), some (eI (v46)), some (eI (i51)), some (eI (v86)), some (eI (v107)), some (eI (v117)), some (eI (2)), some (eI (v117)), some (eI (i156))]) (s2 := [eR a0]) rfl (s_an rfl (pos_g I159 gA0 (by decide))) rfl ?_
                          refine j_gr (np := 204) rfl rfl I159 gA0 (by decide) (n := 69) rfl rfl rfl ?_
                          intro v171 e172 b173 z174
                          have b173 : g v171 = 85 := Nat.eq_of_beq_eq_true b173
                          refine w_t (np := 206) (l2 := [some (eR a0), some (eI (a1)), some (eI (i12)), some (eI (v46)), some (eI (i51)), some (eI (v86)), some (eI (v107)), some (eI (v117)), some (eI (2)), some (eI (v117)), some (eI (i156))]) (s2 := [eI (v117), eR v171]) rfl rfl rfl ?_
                          refine w_t (np := 208) (l2 := [some (eR a0), some (eI (a1)), some (eI (i12)), some (eI (v46)), some (eI (i51)), some (eI (v86)), some (eI (v107)), some (eI (v117)), some (eI (2)), some (eI (v117)), some (eI (i156))]) (s2 := [eI (i156), eI (v117), eR v171]) rfl rfl rfl ?_
                          obtain ⟨v175, e176⟩ : ∃ zz : Int, zz = (v117) + (i156) := ⟨_, rfl⟩
                          have b177 : 0 ≤ v175 ∧ v175 ≤ 10 := by omega
                          refine w_t (np := 209) (l2 := [some (eR a0), some (eI (a1)), some (eI (i12)), some (eI (v46)), some (eI (i51)), some (eI (v86)), some (eI (v107)), some (eI (v117)), some (eI (2)), some (eI (v117)), some (eI (i156))]) (s2 := [eI (v175), eR v171]) rfl (b_iadd (by rw [← e176]; exact ev_w_in (by omega) (by omega))) rfl ?_
                          refine w_cu (np := 212) (as := [eI (v175)]) (l2 := [some (eI (v175))]) (rest := [eR v171]) rfl rfl rfl (Nat.ble_eq.mp rfl) rfl rfl rfl rfl ?_
                          refine s_217e (a0 := v175) I159 (by omega) ?_
                          intro v178 b179 h180
                          show ex_q (dt_fg L ρ) rc (d + 3, (323, 212, [some (eR a0), some (eI (a1)), some (eI (i12)), some (eI (v46)), some (eI (i51)), some (eI (v86)), some (eI (v107)), some (eI (v117)), some (eI (2)), some (eI (v117)), some (eI (i156))], [eI (v178), eR v171]), f :: F, m158)
                          refine w_t (np := 213) (l2 := [some (eR a0), some (eI (a1)), some (eI (i12)), some (eI (v46)), some (eI (i51)), some (eI (v86)), some (eI (v107)), some (eI (v117)), some (eI (2)), some (eI (v117)), some (eI (i156))]) (s2 := [eI (1), eI (v178), eR v171]) rfl rfl rfl ?_
                          refine j_sb3 (np := 214) rfl rfl I159 b173 (by decide) (n := 10) rfl rfl (lo := 0) (hi := 1) (fun _ => rfl) (by omega) (by omega) (by decide) (by decide) ?_
                          intro m181 I182 W183
                          have F184 : Fr l_323 0 0 g μ m181 := F160.v W183 b173 rfl rfl
                          have p185 : CR g m181 := CR.fr p168 (Fr.o W183 b173 rfl) rfl
                          obtain ⟨v186, e187⟩ : ∃ zz : Int, zz = (i156) + (1) := ⟨_, rfl⟩
                          have b188 : 1 ≤ v186 ∧ v186 ≤ 2 := by omega
                          refine w_t (np := 217) (l2 := [some (eR a0), some (eI (a1)), some (eI (i12)), some (eI (v46)), some (eI (i51)), some (eI (v86)), some (eI (v107)), some (eI (v117)), some (eI (2)), some (eI (v117)), some (eI (v186))]) (s2 := []) rfl (b_iinc rfl (by rw [← e187]; exact ev_w_in (by omega) (by omega)) rfl) rfl ?_
                          refine w_go (t1 := 193) rfl rfl ?_
                          exact ih155 (4 - (v186)).toNat (by omega) m181 (v186) I182 F184 (by omega) (W183.addr k161 b173 gA0 (by decide)) (W183.addr k162 b173 gA0 (by decide)) (W183.addr k163 b173 gA0 (by decide)) (W183.addr k164 b173 b41 (by decide)) (W183.addr k165 b173 gA0 (by decide)) (W183.addr k166 b173 b71 (by decide)) (W183.addr k167 b173 gA0 (by decide))  p185  rfl
                      exact hL193 _ m135 (0) I136 F138 (by decide) (W137.addr (W127.addr k62 b121 gA0 (by decide)) b121 gA0 (by decide)) (W137.addr (W127.addr k63 b121 gA0 (by decide)) b121 gA0 (by decide)) (W137.addr (W127.addr k64 b121 gA0 (by decide)) b121 gA0 (by decide)) (W137.addr (W127.addr k65 b121 b41 (by decide)) b121 b41 (by decide)) (W137.addr (W127.addr e70 b121 gA0 (by decide)) b121 gA0 (by decide)) (W137.addr (W127.addr e80 b121 b71 (by decide)) b121 b71 (by decide)) (W137.addr (W127.addr e120 b121 gA0 (by decide)) b121 gA0 (by decide))  p139  rfl
                    · have b154 : 2 ≤ v150 ∧ v150 ≤ 2 := by omega
                      refine w_t (np := 183) (l2 := [some (eR a0), some (eI (a1)), some (eI (i12)), some (eI (v46)), some (eI (i51)), some (eI (v86)), some (eI (v107)), some (eI (v117)), some (eI (2)), o57, o58]) (s2 := [eI (v107)]) rfl rfl rfl ?_
                      refine w_go (t1 := 188) rfl rfl ?_
                      refine w_t (np := 190) (l2 := [some (eR a0), some (eI (a1)), some (eI (i12)), some (eI (v46)), some (eI (i51)), some (eI (v86)), some (eI (v107)), some (eI (v117)), some (eI (2)), some (eI (v107)), o58]) (s2 := []) rfl rfl rfl ?_
                      refine w_t (np := 191) (l2 := [some (eR a0), some (eI (a1)), some (eI (i12)), some (eI (v46)), some (eI (i51)), some (eI (v86)), some (eI (v107)), some (eI (v117)), some (eI (2)), some (eI (v107)), o58]) (s2 := [eI (0)]) rfl rfl rfl ?_
                      refine w_t (np := 193) (l2 := [some (eR a0), some (eI (a1)), some (eI (i12)), some (eI (v46)), some (eI (i51)), some (eI (v86)), some (eI (v107)), some (eI (v117)), some (eI (2)), some (eI (v107)), some (eI (0))]) (s2 := []) rfl rfl rfl ?_
                      have hL193 : ∀ (n154 : Nat) (m158 : eM) (i156 : Int), SI g m158 → Fr l_323 0 0 g μ m158 → (0 ≤ i156 ∧ i156 ≤ 4) → m158.1 a0 49 = v26 → m158.1 a0 47 = ((v30 : Nat) : Int) → m158.1 a0 43 = ((v39 : Nat) : Int) → m158.1 v39 (v43).toNat = v46 → m158.1 a0 45 = ((v69 : Nat) : Int) → m158.1 v69 (v76).toNat = v79 → m158.1 a0 52 = ((v119 : Nat) : Int) → CR g m158 → n154 = (4 - i156).toNat → ex_q (dt_fg L ρ) rc (d + 3, (323, 193, [some (eR a0), some (eI (a1)), some (eI (i12)), some (eI (v46)), some (eI (i51)), some (eI (v86)), some (eI (v107)), some (eI (v117)), some (eI (2)), some (eI (v107)), some (eI (i156))], []), f :: F, m158) := by
                        intro n154
                        induction n154 using Nat.strongRecOn with
                        | _ n154 ih155 =>
                        intro m158 i156 I159 F160 b157 k161 k162 k163 k164 k165 k166 k167 p168 hn169
                        refine w_t (np := 195) (l2 := [some (eR a0), some (eI (a1)), some (eI (i12)), some (eI (v46)), some (eI (i51)), some (eI (v86)), some (eI (v107)), some (eI (v117)), some (eI (2)), some (eI (v107)), some (eI (i156))]) (s2 := [eI (i156)]) rfl rfl rfl ?_
                        refine w_t (np := 197) (l2 := [some (eR a0), some (eI (a1)), some (eI (i12)), some (eI (v46)), some (eI (i51)), some (eI (v86)), some (eI (v107)), some (eI (v117)), some (eI (2)), some (eI (v107)), some (eI (i156))]) (s2 := [eI (2), eI (i156)]) rfl rfl rfl ?_
                        refine b_cge (t1 := 220) (t2 := 200) rfl rfl rfl (ev_w_in (by omega) (by omega)) rfl (fun g170 => ?_) (fun g170 => ?_)
                        · have b171 : 2 ≤ i156 ∧ i156 ≤ 4 := by omega
                          obtain ⟨v171, e172⟩ : ∃ zz : Int, zz = (i51) + (1) := ⟨_, rfl⟩
                          have b173 : 1 ≤ v171 ∧ v171 ≤ 4 := by omega
                          refine w_t (np := 223) (l2 := [some (eR a0), some (eI (a1)), some (eI (i12)), some (eI (v46)), some (eI (v171)), some (eI (v86)), some (eI (v107)), some (eI (v117)), some (eI (2)), some (eI (v107)), some (eI (i156))]) (s2 := []) rfl (b_iinc rfl (by rw [← e172]; exact ev_w_in (by omega) (by omega)) rfl) rfl ?_
                          refine w_go (t1 := 60) rfl rfl ?_
                          exact ih50 (4 - (v171)).toNat (by omega) m158 (v171) (some (eI (v86))) (some (eI (v107))) (some (eI (v117))) (some (eI (2))) (some (eI (v107))) (some (eI (i156))) I159 F160 (by omega) k161 k162 k163 k164  p168  rfl
                        · have b171 : 0 ≤ i156 ∧ i156 ≤ 1 := by omega
                          refine w_t (np := 201) (l2 := [some (eR a0), some (eI (a1)), some (eI (i12)), some (eI (v46)), some (eI (i51)), some (eI (v86)), some (eI (v107)), some (eI (v117)), some (eI (2)), some (eI (v107)), some (eI (i156))]) (s2 := [eR a0]) rfl (s_an rfl (pos_g I159 gA0 (by decide))) rfl ?_
                          refine j_gr (np := 204) rfl rfl I159 gA0 (by decide) (n := 69) rfl rfl rfl ?_
                          intro v171 e172 b173 z174
                          have b173 : g v171 = 85 := Nat.eq_of_beq_eq_true b173
                          refine w_t (np := 206) (l2 := [some (eR a0), some (eI (a1)), some (eI (i12)), some (eI (v46)), some (eI (i51)), some (eI (v86)), some (eI (v107)), some (eI (v117)), some (eI (2)), some (eI (v107)), some (eI (i156))]) (s2 := [eI (v107), eR v171]) rfl rfl rfl ?_
                          refine w_t (np := 208) (l2 := [some (eR a0), some (eI (a1)), some (eI (i12)), some (eI (v46)), some (eI (i51)), some (eI (v86)), some (eI (v107)), some (eI (v117)), some (eI (2)), some (eI (v107)), some (eI (i156))]) (s2 := [eI (i156), eI (v107), eR v171]) rfl rfl rfl ?_
                          obtain ⟨v175, e176⟩ : ∃ zz : Int, zz = (v107) + (i156) := ⟨_, rfl⟩
                          have b177 : 0 ≤ v175 ∧ v175 ≤ 10 := by omega
                          refine w_t (np := 209) (l2 := [some (eR a0), some (eI (a1)), some (eI (i12)), some (eI (v46)), some (eI (i51)), some (eI (v86)), some (eI (v107)), some (eI (v117)), some (eI (2)), some (eI (v107)), some (eI (i156))]) (s2 := [eI (v175), eR v171]) rfl (b_iadd (by rw [← e176]; exact ev_w_in (by omega) (by omega))) rfl ?_
                          refine w_cu (np := 212) (as := [eI (v175)]) (l2 := [some (eI (v175))]) (rest := [eR v171]) rfl rfl rfl (Nat.ble_eq.mp rfl) rfl rfl rfl rfl ?_
                          refine s_217e (a0 := v175) I159 (by omega) ?_
                          intro v178 b179 h180
                          show ex_q (dt_fg L ρ) rc (d + 3, (323, 212, [some (eR a0), some (eI (a1)), some (eI (i12)), some (eI (v46)), some (eI (i51)), some (eI (v86)), some (eI (v107)), some (eI (v117)), some (eI (2)), some (eI (v107)), some (eI (i156))], [eI (v178), eR v171]), f :: F, m158)
                          refine w_t (np := 213) (l2 := [some (eR a0), some (eI (a1)), some (eI (i12)), some (eI (v46)), some (eI (i51)), some (eI (v86)), some (eI (v107)), some (eI (v117)), some (eI (2)), some (eI (v107)), some (eI (i156))]) (s2 := [eI (1), eI (v178), eR v171]) rfl rfl rfl ?_
                          refine j_sb3 (np := 214) rfl rfl I159 b173 (by decide) (n := 10) rfl rfl (lo := 0) (hi := 1) (fun _ => rfl) (by omega) (by omega) (by decide) (by decide) ?_
                          intro m181 I182 W183
                          have F184 : Fr l_323 0 0 g μ m181 := F160.v W183 b173 rfl rfl
                          have p185 : CR g m181 := CR.fr p168 (Fr.o W183 b173 rfl) rfl
                          obtain ⟨v186, e187⟩ : ∃ zz : Int, zz = (i156) + (1) := ⟨_, rfl⟩
                          have b188 : 1 ≤ v186 ∧ v186 ≤ 2 := by omega
                          refine w_t (np := 217) (l2 := [some (eR a0), some (eI (a1)), some (eI (i12)), some (eI (v46)), some (eI (i51)), some (eI (v86)), some (eI (v107)), some (eI (v117)), some (eI (2)), some (eI (v107)), some (eI (v186))]) (s2 := []) rfl (b_iinc rfl (by rw [← e187]; exact ev_w_in (by omega) (by omega)) rfl) rfl ?_
                          refine w_go (t1 := 193) rfl rfl ?_
                          exact ih155 (4 - (v186)).toNat (by omega) m181 (v186) I182 F184 (by omega) (W183.addr k161 b173 gA0 (by decide)) (W183.addr k162 b173 gA0 (by decide)) (W183.addr k163 b173 gA0 (by decide)) (W183.addr k164 b173 b41 (by decide)) (W183.addr k165 b173 gA0 (by decide)) (W183.addr k166 b173 b71 (by decide)) (W183.addr k167 b173 gA0 (by decide))  p185  rfl
                      exact hL193 _ m135 (0) I136 F138 (by decide) (W137.addr (W127.addr k62 b121 gA0 (by decide)) b121 gA0 (by decide)) (W137.addr (W127.addr k63 b121 gA0 (by decide)) b121 gA0 (by decide)) (W137.addr (W127.addr k64 b121 gA0 (by decide)) b121 gA0 (by decide)) (W137.addr (W127.addr k65 b121 b41 (by decide)) b121 b41 (by decide)) (W137.addr (W127.addr e70 b121 gA0 (by decide)) b121 gA0 (by decide)) (W137.addr (W127.addr e80 b121 b71 (by decide)) b121 b71 (by decide)) (W137.addr (W127.addr e120 b121 gA0 (by decide)) b121 gA0 (by decide))  p139  rfl
                  · have b147 : 0 ≤ v140 ∧ v140 ≤ 0 := by omega
                    refine w_t (np := 21) (l2 := [some (eI (v46)), some (eI (v140))]) (s2 := [eI (3)]) rfl rfl rfl ?_
                    refine w_go (t1 := 25) rfl rfl ?_
                    refine b_ri rfl rfl ?_
                    show ex_q (dt_fg L ρ) rc (d + 3, (323, 166, [some (eR a0), some (eI (a1)), some (eI (i12)), some (eI (v46)), some (eI (i51)), some (eI (v86)), some (eI (v107)), some (eI (v117)), o56, o57, o58], [eI (3)]), f :: F, m135)
                    refine w_t (np := 168) (l2 := [some (eR a0), some (eI (a1)), some (eI (i12)), some (eI (v46)), some (eI (i51)), some (eI (v86)), some (eI (v107)), some (eI (v117)), some (eI (3)), o57, o58]) (s2 := []) rfl rfl rfl ?_
                    refine w_t (np := 170) (l2 := [some (eR a0), some (eI (a1)), some (eI (i12)), some (eI (v46)), some (eI (i51)), some (eI (v86)), some (eI (v107)), some (eI (v117)), some (eI (3)), o57, o58]) (s2 := [eI (v117)]) rfl rfl rfl ?_
                    refine w_t (np := 172) (l2 := [some (eR a0), some (eI (a1)), some (eI (i12)), some (eI (v46)), some (eI (i51)), some (eI (v86)), some (eI (v107)), some (eI (v117)), some (eI (3)), o57, o58]) (s2 := [eI (v107), eI (v117)]) rfl rfl rfl ?_
                    obtain ⟨v147, e148⟩ : ∃ zz : Int, zz = (v117) - (v107) := ⟨_, rfl⟩
                    have b149 : -9 ≤ v147 ∧ v147 ≤ 9 := by omega
                    refine w_t (np := 173) (l2 := [some (eR a0), some (eI (a1)), some (eI (i12)), some (eI (v46)), some (eI (i51)), some (eI (v86)), some (eI (v107)), some (eI (v117)), some (eI (3)), o57, o58]) (s2 := [eI (v147)]) rfl (b_isub (by rw [← e148]; exact ev_w_in (by omega) (by omega))) rfl ?_
                    refine w_cu (np := 176) (as := [eI (v147)]) (l2 := [some (eI (v147))]) (rest := []) rfl rfl rfl (Nat.ble_eq.mp rfl) rfl rfl rfl rfl ?_
                    refine s_217e (a0 := v147) I136 (by omega) ?_
                    intro v150 b151 h152
                    show ex_q (dt_fg L ρ) rc (d + 3, (323, 176, [some (eR a0), some (eI (a1)), some (eI (i12)), some (eI (v46)), some (eI (i51)), some (eI (v86)), some (eI (v107)), some (eI (v117)), some (eI (3)), o57, o58], [eI (v150)]), f :: F, m135)
                    refine w_t (np := 178) (l2 := [some (eR a0), some (eI (a1)), some (eI (i12)), some (eI (v46)), some (eI (i51)), some (eI (v86)), some (eI (v107)), some (eI (v117)), some (eI (3)), o57, o58]) (s2 := [eI (3), eI (v150)]) rfl rfl rfl ?_
                    refine b_cne (t1 := 186) (t2 := 181) rfl rfl rfl (ev_w_in (by omega) (by omega)) rfl (fun g153 => ?_) (fun g153 => ?_)
                    · refine w_t (np := 188) (l2 := [some (eR a0), some (eI (a1)), some (eI (i12)), some (eI (v46)), some (eI (i51)), some (eI (v86)), some (eI (v107)), some (eI (v117)), some (eI (3)), o57, o58]) (s2 := [eI (v117)]) rfl rfl rfl ?_
                      refine w_t (np := 190) (l2 := [some (eR a0), some (eI (a1)), some (eI (i12)), some (eI (v46)), some (eI (i51)), some (eI (v86)), some (eI (v107)), some (eI (v117)), some (eI (3)), some (eI (v117)), o58]) (s2 := []) rfl rfl rfl ?_
                      refine w_t (np := 191) (l2 := [some (eR a0), some (eI (a1)), some (eI (i12)), some (eI (v46)), some (eI (i51)), some (eI (v86)), some (eI (v107)), some (eI (v117)), some (eI (3)), some (eI (v117)), o58]) (s2 := [eI (0)]) rfl rfl rfl ?_
                      refine w_t (np := 193) (l2 := [some (eR a0), some (eI (a1)), some (eI (i12)), some (eI (v46)), some (eI (i51)), some (eI (v86)), some (eI (v107)), some (eI (v117)), some (eI (3)), some (eI (v117)), some (eI (0))]) (s2 := []) rfl rfl rfl ?_
                      have hL193 : ∀ (n154 : Nat) (m158 : eM) (i156 : Int), SI g m158 → Fr l_323 0 0 g μ m158 → (0 ≤ i156 ∧ i156 ≤ 4) → m158.1 a0 49 = v26 → m158.1 a0 47 = ((v30 : Nat) : Int) → m158.1 a0 43 = ((v39 : Nat) : Int) → m158.1 v39 (v43).toNat = v46 → m158.1 a0 45 = ((v69 : Nat) : Int) → m158.1 v69 (v76).toNat = v79 → m158.1 a0 52 = ((v119 : Nat) : Int) → CR g m158 → n154 = (4 - i156).toNat → ex_q (dt_fg L ρ) rc (d + 3, (323, 193, [some (eR a0), some (eI (a1)), some (eI (i12)), some (eI (v46)), some (eI (i51)), some (eI (v86)), some (eI (v107)), some (eI (v117)), some (eI (3)), some (eI (v117)), some (eI (i156))], []), f :: F, m158) := by
                        intro n154
                        induction n154 using Nat.strongRecOn with
                        | _ n154 ih155 =>
                        intro m158 i156 I159 F160 b157 k161 k162 k163 k164 k165 k166 k167 p168 hn169
                        refine w_t (np := 195) (l2 := [some (eR a0), some (eI (a1)), some (eI (i12)), some (eI (v46)), some (eI (i51)), some (eI (v86)), some (eI (v107)), some (eI (v117)), some (eI (3)), some (eI (v117)), some (eI (i156))]) (s2 := [eI (i156)]) rfl rfl rfl ?_
                        refine w_t (np := 197) (l2 := [some (eR a0), some (eI (a1)), some (eI (i12)), some (eI (v46)), some (eI (i51)), some (eI (v86)), some (eI (v107)), some (eI (v117)), some (eI (3)), some (eI (v117)), some (eI (i156))]) (s2 := [eI (3), eI (i156)]) rfl rfl rfl ?_
                        refine b_cge (t1 := 220) (t2 := 200) rfl rfl rfl (ev_w_in (by omega) (by omega)) rfl (fun g170 => ?_) (fun g170 => ?_)
                        · have b171 : 3 ≤ i156 ∧ i156 ≤ 4 := by omega
                          obtain ⟨v171, e172⟩ : ∃ zz : Int, zz = (i51) + (1) := ⟨_, rfl⟩
                          have b173 : 1 ≤ v171 ∧ v171 ≤ 4 := by omega
                          refine w_t (np := 223) (l2 := [some (eR a0), some (eI (a1)), some (eI (i12)), some (eI (v46)), some (eI (v171)), some (eI (v86)), some (eI (v107)), some (eI (v117)), some (eI (3)), some (eI (v117)), some (eI (i156))]) (s2 := []) rfl (b_iinc rfl (by rw [← e172]; exact ev_w_in (by omega) (by omega)) rfl) rfl ?_
                          refine w_go (t1 := 60) rfl rfl ?_
                          exact ih50 (4 - (v171)).toNat (by omega) m158 (v171) (some (eI (v86))) (some (eI (v107))) (some (eI (v117))) (some (eI (3))) (some (eI (v117))) (some (eI (i156))) I159 F160 (by omega) k161 k162 k163 k164  p168  rfl
                        · have b171 : 0 ≤ i156 ∧ i156 ≤ 2 := by omega
                          refine w_t (np := 201) (l2 := [some (eR a0), some (eI (a1)), some (eI (i12)), some (eI (v46)), some (eI (i51)), some (eI (v86)), some (eI (v107)), some (eI (v117)), some (eI (3)), some (eI (v117)), some (eI (i156))]) (s2 := [eR a0]) rfl (s_an rfl (pos_g I159 gA0 (by decide))) rfl ?_
                          refine j_gr (np := 204) rfl rfl I159 gA0 (by decide) (n := 69) rfl rfl rfl ?_
                          intro v171 e172 b173 z174
                          have b173 : g v171 = 85 := Nat.eq_of_beq_eq_true b173
                          refine w_t (np := 206) (l2 := [some (eR a0), some (eI (a1)), some (eI (i12)), some (eI (v46)), some (eI (i51)), some (eI (v86)), some (eI (v107)), some (eI (v117)), some (eI (3)), some (eI (v117)), some (eI (i156))]) (s2 := [eI (v117), eR v171]) rfl rfl rfl ?_
                          refine w_t (np := 208) (l2 := [some (eR a0), some (eI (a1)), some (eI (i12)), some (eI (v46)), some (eI (i51)), some (eI (v86)), some (eI (v107)), some (eI (v117)), some (eI (3)), some (eI (v117)), some (eI (i156))]) (s2 := [eI (i156), eI (v117), eR v171]) rfl rfl rfl ?_
                          obtain ⟨v175, e176⟩ : ∃ zz : Int, zz = (v117) + (i156) := ⟨_, rfl⟩
                          have b177 : 0 ≤ v175 ∧ v175 ≤ 11 := by omega
                          refine w_t (np := 209) (l2 := [some (eR a0), some (eI (a1)), some (eI (i12)), some (eI (v46)), some (eI (i51)), some (eI (v86)), some (eI (v107)), some (eI (v117)), some (eI (3)), some (eI (v117)), some (eI (i156))]) (s2 := [eI (v175), eR v171]) rfl (b_iadd (by rw [← e176]; exact ev_w_in (by omega) (by omega))) rfl ?_
                          refine w_cu (np := 212) (as := [eI (v175)]) (l2 := [some (eI (v175))]) (rest := [eR v171]) rfl rfl rfl (Nat.ble_eq.mp rfl) rfl rfl rfl rfl ?_
                          refine s_217e (a0 := v175) I159 (by omega) ?_
                          intro v178 b179 h180
                          show ex_q (dt_fg L ρ) rc (d + 3, (323, 212, [some (eR a0), some (eI (a1)), some (eI (i12)), some (eI (v46)), some (eI (i51)), some (eI (v86)), some (eI (v107)), some (eI (v117)), some (eI (3)), some (eI (v117)), some (eI (i156))], [eI (v178), eR v171]), f :: F, m158)
                          refine w_t (np := 213) (l2 := [some (eR a0), some (eI (a1)), some (eI (i12)), some (eI (v46)), some (eI (i51)), some (eI (v86)), some (eI (v107)), some (eI (v117)), some (eI (3)), some (eI (v117)), some (eI (i156))]) (s2 := [eI (1), eI (v178), eR v171]) rfl rfl rfl ?_
                          refine j_sb3 (np := 214) rfl rfl I159 b173 (by decide) (n := 10) rfl rfl (lo := 0) (hi := 1) (fun _ => rfl) (by omega) (by omega) (by decide) (by decide) ?_
                          intro m181 I182 W183
                          have F184 : Fr l_323 0 0 g μ m181 := F160.v W183 b173 rfl rfl
                          have p185 : CR g m181 := CR.fr p168 (Fr.o W183 b173 rfl) rfl
                          obtain ⟨v186, e187⟩ : ∃ zz : Int, zz = (i156) + (1) := ⟨_, rfl⟩
                          have b188 : 1 ≤ v186 ∧ v186 ≤ 3 := by omega
                          refine w_t (np := 217) (l2 := [some (eR a0), some (eI (a1)), some (eI (i12)), some (eI (v46)), some (eI (i51)), some (eI (v86)), some (eI (v107)), some (eI (v117)), some (eI (3)), some (eI (v117)), some (eI (v186))]) (s2 := []) rfl (b_iinc rfl (by rw [← e187]; exact ev_w_in (by omega) (by omega)) rfl) rfl ?_
                          refine w_go (t1 := 193) rfl rfl ?_
                          exact ih155 (4 - (v186)).toNat (by omega) m181 (v186) I182 F184 (by omega) (W183.addr k161 b173 gA0 (by decide)) (W183.addr k162 b173 gA0 (by decide)) (W183.addr k163 b173 gA0 (by decide)) (W183.addr k164 b173 b41 (by decide)) (W183.addr k165 b173 gA0 (by decide)) (W183.addr k166 b173 b71 (by decide)) (W183.addr k167 b173 gA0 (by decide))  p185  rfl
                      exact hL193 _ m135 (0) I136 F138 (by decide) (W137.addr (W127.addr k62 b121 gA0 (by decide)) b121 gA0 (by decide)) (W137.addr (W127.addr k63 b121 gA0 (by decide)) b121 gA0 (by decide)) (W137.addr (W127.addr k64 b121 gA0 (by decide)) b121 gA0 (by decide)) (W137.addr (W127.addr k65 b121 b41 (by decide)) b121 b41 (by decide)) (W137.addr (W127.addr e70 b121 gA0 (by decide)) b121 gA0 (by decide)) (W137.addr (W127.addr e80 b121 b71 (by decide)) b121 b71 (by decide)) (W137.addr (W127.addr e120 b121 gA0 (by decide)) b121 gA0 (by decide))  p139  rfl
                    · have b154 : 3 ≤ v150 ∧ v150 ≤ 3 := by omega
                      refine w_t (np := 183) (l2 := [some (eR a0), some (eI (a1)), some (eI (i12)), some (eI (v46)), some (eI (i51)), some (eI (v86)), some (eI (v107)), some (eI (v117)), some (eI (3)), o57, o58]) (s2 := [eI (v107)]) rfl rfl rfl ?_
                      refine w_go (t1 := 188) rfl rfl ?_
                      refine w_t (np := 190) (l2 := [some (eR a0), some (eI (a1)), some (eI (i12)), some (eI (v46)), some (eI (i51)), some (eI (v86)), some (eI (v107)), some (eI (v117)), some (eI (3)), some (eI (v107)), o58]) (s2 := []) rfl rfl rfl ?_
                      refine w_t (np := 191) (l2 := [some (eR a0), some (eI (a1)), some (eI (i12)), some (eI (v46)), some (eI (i51)), some (eI (v86)), some (eI (v107)), some (eI (v117)), some (eI (3)), some (eI (v107)), o58]) (s2 := [eI (0)]) rfl rfl rfl ?_
                      refine w_t (np := 193) (l2 := [some (eR a0), some (eI (a1)), some (eI (i12)), some (eI (v46)), some (eI (i51)), some (eI (v86)), some (eI (v107)), some (eI (v117)), some (eI (3)), some (eI (v107)), some (eI (0))]) (s2 := []) rfl rfl rfl ?_
                      have hL193 : ∀ (n154 : Nat) (m158 : eM) (i156 : Int), SI g m158 → Fr l_323 0 0 g μ m158 → (0 ≤ i156 ∧ i156 ≤ 4) → m158.1 a0 49 = v26 → m158.1 a0 47 = ((v30 : Nat) : Int) → m158.1 a0 43 = ((v39 : Nat) : Int) → m158.1 v39 (v43).toNat = v46 → m158.1 a0 45 = ((v69 : Nat) : Int) → m158.1 v69 (v76).toNat = v79 → m158.1 a0 52 = ((v119 : Nat) : Int) → CR g m158 → n154 = (4 - i156).toNat → ex_q (dt_fg L ρ) rc (d + 3, (323, 193, [some (eR a0), some (eI (a1)), some (eI (i12)), some (eI (v46)), some (eI (i51)), some (eI (v86)), some (eI (v107)), some (eI (v117)), some (eI (3)), some (eI (v107)), some (eI (i156))], []), f :: F, m158) := by
                        intro n154
                        induction n154 using Nat.strongRecOn with
                        | _ n154 ih155 =>
                        intro m158 i156 I159 F160 b157 k161 k162 k163 k164 k165 k166 k167 p168 hn169
                        refine w_t (np := 195) (l2 := [some (eR a0), some (eI (a1)), some (eI (i12)), some (eI (v46)), some (eI (i51)), some (eI (v86)), some (eI (v107)), some (eI (v117)), some (eI (3)), some (eI (v107)), some (eI (i156))]) (s2 := [eI (i156)]) rfl rfl rfl ?_
                        refine w_t (np := 197) (l2 := [some (eR a0), some (eI (a1)), some (eI (i12)), some (eI (v46)), some (eI (i51)), some (eI (v86)), some (eI (v107)), some (eI (v117)), some (eI (3)), some (eI (v107)), some (eI (i156))]) (s2 := [eI (3), eI (i156)]) rfl rfl rfl ?_
                        refine b_cge (t1 := 220) (t2 := 200) rfl rfl rfl (ev_w_in (by omega) (by omega)) rfl (fun g170 => ?_) (fun g170 => ?_)
                        · have b171 : 3 ≤ i156 ∧ i156 ≤ 4 := by omega
                          obtain ⟨v171, e172⟩ : ∃ zz : Int, zz = (i51) + (1) := ⟨_, rfl⟩
                          have b173 : 1 ≤ v171 ∧ v171 ≤ 4 := by omega
                          refine w_t (np := 223) (l2 := [some (eR a0), some (eI (a1)), some (eI (i12)), some (eI (v46)), some (eI (v171)), some (eI (v86)), some (eI (v107)), some (eI (v117)), some (eI (3)), some (eI (v107)), some (eI (i156))]) (s2 := []) rfl (b_iinc rfl (by rw [← e172]; exact ev_w_in (by omega) (by omega)) rfl) rfl ?_
                          refine w_go (t1 := 60) rfl rfl ?_
                          exact ih50 (4 - (v171)).toNat (by omega) m158 (v171) (some (eI (v86))) (some (eI (v107))) (some (eI (v117))) (some (eI (3))) (some (eI (v107))) (some (eI (i156))) I159 F160 (by omega) k161 k162 k163 k164  p168  rfl
                        · have b171 : 0 ≤ i156 ∧ i156 ≤ 2 := by omega
                          refine w_t (np := 201) (l2 := [some (eR a0), some (eI (a1)), some (eI (i12)), some (eI (v46)), some (eI (i51)), some (eI (v86)), some (eI (v107)), some (eI (v117)), some (eI (3)), some (eI (v107)), some (eI (i156))]) (s2 := [eR a0]) rfl (s_an rfl (pos_g I159 gA0 (by decide))) rfl ?_
                          refine j_gr (np := 204) rfl rfl I159 gA0 (by decide) (n := 69) rfl rfl rfl ?_
                          intro v171 e172 b173 z174
                          have b173 : g v171 = 85 := Nat.eq_of_beq_eq_true b173
                          refine w_t (np := 206) (l2 := [some (eR a0), some (eI (a1)), some (eI (i12)), some (eI (v46)), some (eI (i51)), some (eI (v86)), some (eI (v107)), some (eI (v117)), some (eI (3)), some (eI (v107)), some (eI (i156))]) (s2 := [eI (v107), eR v171]) rfl rfl rfl ?_
                          refine w_t (np := 208) (l2 := [some (eR a0), some (eI (a1)), some (eI (i12)), some (eI (v46)), some (eI (i51)), some (eI (v86)), some (eI (v107)), some (eI (v117)), some (eI (3)), some (eI (v107)), some (eI (i156))]) (s2 := [eI (i156), eI (v107), eR v171]) rfl rfl rfl ?_
                          obtain ⟨v175, e176⟩ : ∃ zz : Int, zz = (v107) + (i156) := ⟨_, rfl⟩
                          have b177 : 0 ≤ v175 ∧ v175 ≤ 11 := by omega
                          refine w_t (np := 209) (l2 := [some (eR a0), some (eI (a1)), some (eI (i12)), some (eI (v46)), some (eI (i51)), some (eI (v86)), some (eI (v107)), some (eI (v117)), some (eI (3)), some (eI (v107)), some (eI (i156))]) (s2 := [eI (v175), eR v171]) rfl (b_iadd (by rw [← e176]; exact ev_w_in (by omega) (by omega))) rfl ?_
                          refine w_cu (np := 212) (as := [eI (v175)]) (l2 := [some (eI (v175))]) (rest := [eR v171]) rfl rfl rfl (Nat.ble_eq.mp rfl) rfl rfl rfl rfl ?_
                          refine s_217e (a0 := v175) I159 (by omega) ?_
                          intro v178 b179 h180
                          show ex_q (dt_fg L ρ) rc (d + 3, (323, 212, [some (eR a0), some (eI (a1)), some (eI (i12)), some (eI (v46)), some (eI (i51)), some (eI (v86)), some (eI (v107)), some (eI (v117)), some (eI (3)), some (eI (v107)), some (eI (i156))], [eI (v178), eR v171]), f :: F, m158)
                          refine w_t (np := 213) (l2 := [some (eR a0), some (eI (a1)), some (eI (i12)), some (eI (v46)), some (eI (i51)), some (eI (v86)), some (eI (v107)), some (eI (v117)), some (eI (3)), some (eI (v107)), some (eI (i156))]) (s2 := [eI (1), eI (v178), eR v171]) rfl rfl rfl ?_
                          refine j_sb3 (np := 214) rfl rfl I159 b173 (by decide) (n := 10) rfl rfl (lo := 0) (hi := 1) (fun _ => rfl) (by omega) (by omega) (by decide) (by decide) ?_
                          intro m181 I182 W183
                          have F184 : Fr l_323 0 0 g μ m181 := F160.v W183 b173 rfl rfl
                          have p185 : CR g m181 := CR.fr p168 (Fr.o W183 b173 rfl) rfl
                          obtain ⟨v186, e187⟩ : ∃ zz : Int, zz = (i156) + (1) := ⟨_, rfl⟩
                          have b188 : 1 ≤ v186 ∧ v186 ≤ 3 := by omega
                          refine w_t (np := 217) (l2 := [some (eR a0), some (eI (a1)), some (eI (i12)), some (eI (v46)), some (eI (i51)), some (eI (v86)), some (eI (v107)), some (eI (v117)), some (eI (3)), some (eI (v107)), some (eI (v186))]) (s2 := []) rfl (b_iinc rfl (by rw [← e187]; exact ev_w_in (by omega) (by omega)) rfl) rfl ?_
                          refine w_go (t1 := 193) rfl rfl ?_
                          exact ih155 (4 - (v186)).toNat (by omega) m181 (v186) I182 F184 (by omega) (W183.addr k161 b173 gA0 (by decide)) (W183.addr k162 b173 gA0 (by decide)) (W183.addr k163 b173 gA0 (by decide)) (W183.addr k164 b173 b41 (by decide)) (W183.addr k165 b173 gA0 (by decide)) (W183.addr k166 b173 b71 (by decide)) (W183.addr k167 b173 gA0 (by decide))  p185  rfl
                      exact hL193 _ m135 (0) I136 F138 (by decide) (W137.addr (W127.addr k62 b121 gA0 (by decide)) b121 gA0 (by decide)) (W137.addr (W127.addr k63 b121 gA0 (by decide)) b121 gA0 (by decide)) (W137.addr (W127.addr k64 b121 gA0 (by decide)) b121 gA0 (by decide)) (W137.addr (W127.addr k65 b121 b41 (by decide)) b121 b41 (by decide)) (W137.addr (W127.addr e70 b121 gA0 (by decide)) b121 gA0 (by decide)) (W137.addr (W127.addr e80 b121 b71 (by decide)) b121 b71 (by decide)) (W137.addr (W127.addr e120 b121 gA0 (by decide)) b121 gA0 (by decide))  p139  rfl
                · have b146 : 0 ≤ v46 ∧ v46 ≤ 0 := by omega
                  refine w_t (np := 5) (l2 := [some (eI (v46)), some (eI (v140))]) (s2 := [eI (v140)]) rfl rfl rfl ?_
                  refine b_ine (t1 := 12) (t2 := 8) rfl rfl rfl (ev_w_in (by omega) (by omega)) (fun g146 => ?_) (fun g146 => ?_)
                  · have b147 : 1 ≤ v140 ∧ v140 ≤ 1 := by omega
                    refine w_t (np := 13) (l2 := [some (eI (v46)), some (eI (v140))]) (s2 := [eI (4)]) rfl rfl rfl ?_
                    refine w_go (t1 := 25) rfl rfl ?_
                    refine b_ri rfl rfl ?_
                    show ex_q (dt_fg L ρ) rc (d + 3, (323, 166, [some (eR a0), some (eI (a1)), some (eI (i12)), some (eI (v46)), some (eI (i51)), some (eI (v86)), some (eI (v107)), some (eI (v117)), o56, o57, o58], [eI (4)]), f :: F, m135)
                    refine w_t (np := 168) (l2 := [some (eR a0), some (eI (a1)), some (eI (i12)), some (eI (v46)), some (eI (i51)), some (eI (v86)), some (eI (v107)), some (eI (v117)), some (eI (4)), o57, o58]) (s2 := []) rfl rfl rfl ?_
                    refine w_t (np := 170) (l2 := [some (eR a0), some (eI (a1)), some (eI (i12)), some (eI (v46)), some (eI (i51)), some (eI (v86)), some (eI (v107)), some (eI (v117)), some (eI (4)), o57, o58]) (s2 := [eI (v117)]) rfl rfl rfl ?_
                    refine w_t (np := 172) (l2 := [some (eR a0), some (eI (a1)), some (eI (i12)), some (eI (v46)), some (eI (i51)), some (eI (v86)), some (eI (v107)), some (eI (v117)), some (eI (4)), o57, o58]) (s2 := [eI (v107), eI (v117)]) rfl rfl rfl ?_
                    obtain ⟨v147, e148⟩ : ∃ zz : Int, zz = (v117) - (v107) := ⟨_, rfl⟩
                    have b149 : -9 ≤ v147 ∧ v147 ≤ 9 := by omega
                    refine w_t (np := 173) (l2 := [some (eR a0), some (eI (a1)), some (eI (i12)), some (eI (v46)), some (eI (i51)), some (eI (v86)), some (eI (v107)), some (eI (v117)), some (eI (4)), o57, o58]) (s2 := [eI (v147)]) rfl (b_isub (by rw [← e148]; exact ev_w_in (by omega) (by omega))) rfl ?_
                    refine w_cu (np := 176) (as := [eI (v147)]) (l2 := [some (eI (v147))]) (rest := []) rfl rfl rfl (Nat.ble_eq.mp rfl) rfl rfl rfl rfl ?_
                    refine s_217e (a0 := v147) I136 (by omega) ?_
                    intro v150 b151 h152
                    show ex_q (dt_fg L ρ) rc (d + 3, (323, 176, [some (eR a0), some (eI (a1)), some (eI (i12)), some (eI (v46)), some (eI (i51)), some (eI (v86)), some (eI (v107)), some (eI (v117)), some (eI (4)), o57, o58], [eI (v150)]), f :: F, m135)
                    refine w_t (np := 178) (l2 := [some (eR a0), some (eI (a1)), some (eI (i12)), some (eI (v46)), some (eI (i51)), some (eI (v86)), some (eI (v107)), some (eI (v117)), some (eI (4)), o57, o58]) (s2 := [eI (4), eI (v150)]) rfl rfl rfl ?_
                    refine b_cne (t1 := 186) (t2 := 181) rfl rfl rfl (ev_w_in (by omega) (by omega)) rfl (fun g153 => ?_) (fun g153 => ?_)
                    · refine w_t (np := 188) (l2 := [some (eR a0), some (eI (a1)), some (eI (i12)), some (eI (v46)), some (eI (i51)), some (eI (v86)), some (eI (v107)), some (eI (v117)), some (eI (4)), o57, o58]) (s2 := [eI (v117)]) rfl rfl rfl ?_
                      refine w_t (np := 190) (l2 := [some (eR a0), some (eI (a1)), some (eI (i12)), some (eI (v46)), some (eI (i51)), some (eI (v86)), some (eI (v107)), some (eI (v117)), some (eI (4)), some (eI (v117)), o58]) (s2 := []) rfl rfl rfl ?_
                      refine w_t (np := 191) (l2 := [some (eR a0), some (eI (a1)), some (eI (i12)), some (eI (v46)), some (eI (i51)), some (eI (v86)), some (eI (v107)), some (eI (v117)), some (eI (4)), some (eI (v117)), o58]) (s2 := [eI (0)]) rfl rfl rfl ?_
                      refine w_t (np := 193) (l2 := [some (eR a0), some (eI (a1)), some (eI (i12)), some (eI (v46)), some (eI (i51)), some (eI (v86)), some (eI (v107)), some (eI (v117)), some (eI (4)), some (eI (v117)), some (eI (0))]) (s2 := []) rfl rfl rfl ?_
                      have hL193 : ∀ (n154 : Nat) (m158 : eM) (i156 : Int), SI g m158 → Fr l_323 0 0 g μ m158 → (0 ≤ i156 ∧ i156 ≤ 4) → m158.1 a0 49 = v26 → m158.1 a0 47 = ((v30 : Nat) : Int) → m158.1 a0 43 = ((v39 : Nat) : Int) → m158.1 v39 (v43).toNat = v46 → m158.1 a0 45 = ((v69 : Nat) : Int) → m158.1 v69 (v76).toNat = v79 → m158.1 a0 52 = ((v119 : Nat) : Int) → CR g m158 → n154 = (4 - i156).toNat → ex_q (dt_fg L ρ) rc (d + 3, (323, 193, [some (eR a0), some (eI (a1)), some (eI (i12)), some (eI (v46)), some (eI (i51)), some (eI (v86)), some (eI (v107)), some (eI (v117)), some (eI (4)), some (eI (v117)), some (eI (i156))], []), f :: F, m158) := by
                        intro n154
                        induction n154 using Nat.strongRecOn with
                        | _ n154 ih155 =>
                        intro m158 i156 I159 F160 b157 k161 k162 k163 k164 k165 k166 k167 p168 hn169
                        refine w_t (np := 195) (l2 := [some (eR a0), some (eI (a1)), some (eI (i12)), some (eI (v46)), some (eI (i51)), some (eI (v86)), some (eI (v107)), some (eI (v117)), some (eI (4)), some (eI (v117)), some (eI (i156))]) (s2 := [eI (i156)]) rfl rfl rfl ?_
                        refine w_t (np := 197) (l2 := [some (eR a0), some (eI (a1)), some (eI (i12)), some (eI (v46)), some (eI (i51)), some (eI (v86)), some (eI (v107)), some (eI (v117)), some (eI (4)), some (eI (v117)), some (eI (i156))]) (s2 := [eI (4), eI (i156)]) rfl rfl rfl ?_
                        refine b_cge (t1 := 220) (t2 := 200) rfl rfl rfl (ev_w_in (by omega) (by omega)) rfl (fun g170 => ?_) (fun g170 => ?_)
                        · have b171 : 4 ≤ i156 ∧ i156 ≤ 4 := by omega
                          obtain ⟨v171, e172⟩ : ∃ zz : Int, zz = (i51) + (1) := ⟨_, rfl⟩
                          have b173 : 1 ≤ v171 ∧ v171 ≤ 4 := by omega
                          refine w_t (np := 223) (l2 := [some (eR a0), some (eI (a1)), some (eI (i12)), some (eI (v46)), some (eI (v171)), some (eI (v86)), some (eI (v107)), some (eI (v117)), some (eI (4)), some (eI (v117)), some (eI (i156))]) (s2 := []) rfl (b_iinc rfl (by rw [← e172]; exact ev_w_in (by omega) (by omega)) rfl) rfl ?_
                          refine w_go (t1 := 60) rfl rfl ?_
                          exact ih50 (4 - (v171)).toNat (by omega) m158 (v171) (some (eI (v86))) (some (eI (v107))) (some (eI (v117))) (some (eI (4))) (some (eI (v117))) (some (eI (i156))) I159 F160 (by omega) k161 k162 k163 k164  p168  rfl
                        · have b171 : 0 ≤ i156 ∧ i156 ≤ 3 := by omega
                          refine w_t (np := 201) (l2 := [some (eR a0), some (eI (a1)), some (eI (i12)), some (eI (v46)), some (eI (i51)), some (eI (v86)), some (eI (v107)), some (eI (v117)), some (eI (4)), some (eI (v117)), some (eI (i156))]) (s2 := [eR a0]) rfl (s_an rfl (pos_g I159 gA0 (by decide))) rfl ?_
                          refine j_gr (np := 204) rfl rfl I159 gA0 (by decide) (n := 69) rfl rfl rfl ?_
                          intro v171 e172 b173 z174
                          have b173 : g v171 = 85 := Nat.eq_of_beq_eq_true b173
                          refine w_t (np := 206) (l2 := [some (eR a0), some (eI (a1)), some (eI (i12)), some (eI (v46)), some (eI (i51)), some (eI (v86)), some (eI (v107)), some (eI (v117)), some (eI (4)), some (eI (v117)), some (eI (i156))]) (s2 := [eI (v117), eR v171]) rfl rfl rfl ?_
                          refine w_t (np := 208) (l2 := [some (eR a0), some (eI (a1)), some (eI (i12)), some (eI (v46)), some (eI (i51)), some (eI (v86)), some (eI (v107)), some (eI (v117)), some (eI (4)), some (eI (v117)), some (eI (i156))]) (s2 := [eI (i156), eI (v117), eR v171]) rfl rfl rfl ?_
                          obtain ⟨v175, e176⟩ : ∃ zz : Int, zz = (v117) + (i156) := ⟨_, rfl⟩
                          have b177 : 0 ≤ v175 ∧ v175 ≤ 12 := by omega
                          refine w_t (np := 209) (l2 := [some (eR a0), some (eI (a1)), some (eI (i12)), some (eI (v46)), some (eI (i51)), some (eI (v86)), some (eI (v107)), some (eI (v117)), some (eI (4)), some (eI (v117)), some (eI (i156))]) (s2 := [eI (v175), eR v171]) rfl (b_iadd (by rw [← e176]; exact ev_w_in (by omega) (by omega))) rfl ?_
                          refine w_cu (np := 212) (as := [eI (v175)]) (l2 := [some (eI (v175))]) (rest := [eR v171]) rfl rfl rfl (Nat.ble_eq.mp rfl) rfl rfl rfl rfl ?_
                          refine s_217e (a0 := v175) I159 (by omega) ?_
                          intro v178 b179 h180
                          show ex_q (dt_fg L ρ) rc (d + 3, (323, 212, [some (eR a0), some (eI (a1)), some (eI (i12)), some (eI (v46)), some (eI (i51)), some (eI (v86)), some (eI (v107)), some (eI (v117)), some (eI (4)), some (eI (v117)), some (eI (i156))], [eI (v178), eR v171]), f :: F, m158)
                          refine w_t (np := 213) (l2 := [some (eR a0), some (eI (a1)), some (eI (i12)), some (eI (v46)), some (eI (i51)), some (eI (v86)), some (eI (v107)), some (eI (v117)), some (eI (4)), some (eI (v117)), some (eI (i156))]) (s2 := [eI (1), eI (v178), eR v171]) rfl rfl rfl ?_
                          refine j_sb3 (np := 214) rfl rfl I159 b173 (by decide) (n := 10) rfl rfl (lo := 0) (hi := 1) (fun _ => rfl) (by omega) (by omega) (by decide) (by decide) ?_
                          intro m181 I182 W183
                          have F184 : Fr l_323 0 0 g μ m181 := F160.v W183 b173 rfl rfl
                          have p185 : CR g m181 := CR.fr p168 (Fr.o W183 b173 rfl) rfl
                          obtain ⟨v186, e187⟩ : ∃ zz : Int, zz = (i156) + (1) := ⟨_, rfl⟩
                          have b188 : 1 ≤ v186 ∧ v186 ≤ 4 := by omega
                          refine w_t (np := 217) (l2 := [some (eR a0), some (eI (a1)), some (eI (i12)), some (eI (v46)), some (eI (i51)), some (eI (v86)), some (eI (v107)), some (eI (v117)), some (eI (4)), some (eI (v117)), some (eI (v186))]) (s2 := []) rfl (b_iinc rfl (by rw [← e187]; exact ev_w_in (by omega) (by omega)) rfl) rfl ?_
                          refine w_go (t1 := 193) rfl rfl ?_
                          exact ih155 (4 - (v186)).toNat (by omega) m181 (v186) I182 F184 (by omega) (W183.addr k161 b173 gA0 (by decide)) (W183.addr k162 b173 gA0 (by decide)) (W183.addr k163 b173 gA0 (by decide)) (W183.addr k164 b173 b41 (by decide)) (W183.addr k165 b173 gA0 (by decide)) (W183.addr k166 b173 b71 (by decide)) (W183.addr k167 b173 gA0 (by decide))  p185  rfl
                      exact hL193 _ m135 (0) I136 F138 (by decide) (W137.addr (W127.addr k62 b121 gA0 (by decide)) b121 gA0 (by decide)) (W137.addr (W127.addr k63 b121 gA0 (by decide)) b121 gA0 (by decide)) (W137.addr (W127.addr k64 b121 gA0 (by decide)) b121 gA0 (by decide)) (W137.addr (W127.addr k65 b121 b41 (by decide)) b121 b41 (by decide)) (W137.addr (W127.addr e70 b121 gA0 (by decide)) b121 gA0 (by decide)) (W137.addr (W127.addr e80 b121 b71 (by decide)) b121 b71 (by decide)) (W137.addr (W127.addr e120 b121 gA0 (by decide)) b121 gA0 (by decide))  p139  rfl
                    · have b154 : 4 ≤ v150 ∧ v150 ≤ 4 := by omega
                      refine w_t (np := 183) (l2 := [some (eR a0), some (eI (a1)), some (eI (i12)), some (eI (v46)), some (eI (i51)), some (eI (v86)), some (eI (v107)), some (eI (v117)), some (eI (4)), o57, o58]) (s2 := [eI (v107)]) rfl rfl rfl ?_
                      refine w_go (t1 := 188) rfl rfl ?_
                      refine w_t (np := 190) (l2 := [some (eR a0), some (eI (a1)), some (eI (i12)), some (eI (v46)), some (eI (i51)), some (eI (v86)), some (eI (v107)), some (eI (v117)), some (eI (4)), some (eI (v107)), o58]) (s2 := []) rfl rfl rfl ?_
                      refine w_t (np := 191) (l2 := [some (eR a0), some (eI (a1)), some (eI (i12)), some (eI (v46)), some (eI (i51)), some (eI (v86)), some (eI (v107)), some (eI (v117)), some (eI (4)), some (eI (v107)), o58]) (s2 := [eI (0)]) rfl rfl rfl ?_
                      refine w_t (np := 193) (l2 := [some (eR a0), some (eI (a1)), some (eI (i12)), some (eI (v46)), some (eI (i51)), some (eI (v86)), some (eI (v107)), some (eI (v117)), some (eI (4)), some (eI (v107)), some (eI (0))]) (s2 := []) rfl rfl rfl ?_
                      have hL193 : ∀ (n154 : Nat) (m158 : eM) (i156 : Int), SI g m158 → Fr l_323 0 0 g μ m158 → (0 ≤ i156 ∧ i156 ≤ 4) → m158.1 a0 49 = v26 → m158.1 a0 47 = ((v30 : Nat) : Int) → m158.1 a0 43 = ((v39 : Nat) : Int) → m158.1 v39 (v43).toNat = v46 → m158.1 a0 45 = ((v69 : Nat) : Int) → m158.1 v69 (v76).toNat = v79 → m158.1 a0 52 = ((v119 : Nat) : Int) → CR g m158 → n154 = (4 - i156).toNat → ex_q (dt_fg L ρ) rc (d + 3, (323, 193, [some (eR a0), some (eI (a1)), some (eI (i12)), some (eI (v46)), some (eI (i51)), some (eI (v86)), some (eI (v107)), some (eI (v117)), some (eI (4)), some (eI (v107)), some (eI (i156))], []), f :: F, m158) := by
                        intro n154
                        induction n154 using Nat.strongRecOn with
                        | _ n154 ih155 =>
                        intro m158 i156 I159 F160 b157 k161 k162 k163 k164 k165 k166 k167 p168 hn169
                        refine w_t (np := 195) (l2 := [some (eR a0), some (eI (a1)), some (eI (i12)), some (eI (v46)), some (eI (i51)), some (eI (v86)), some (eI (v107)), some (eI (v117)), some (eI (4)), some (eI (v107)), some (eI (i156))]) (s2 := [eI (i156)]) rfl rfl rfl ?_
                        refine w_t (np := 197) (l2 := [some (eR a0), some (eI (a1)), some (eI (i12)), some (eI (v46)), some (eI (i51)), some (eI (v86)), some (eI (v107)), some (eI (v117)), some (eI (4)), some (eI (v107)), some (eI (i156))]) (s2 := [eI (4), eI (i156)]) rfl rfl rfl ?_
                        refine b_cge (t1 := 220) (t2 := 200) rfl rfl rfl (ev_w_in (by omega) (by omega)) rfl (fun g170 => ?_) (fun g170 => ?_)
                        · have b171 : 4 ≤ i156 ∧ i156 ≤ 4 := by omega
                          obtain ⟨v171, e172⟩ : ∃ zz : Int, zz = (i51) + (1) := ⟨_, rfl⟩
                          have b173 : 1 ≤ v171 ∧ v171 ≤ 4 := by omega
                          refine w_t (np := 223) (l2 := [some (eR a0), some (eI (a1)), some (eI (i12)), some (eI (v46)), some (eI (v171)), some (eI (v86)), some (eI (v107)), some (eI (v117)), some (eI (4)), some (eI (v107)), some (eI (i156))]) (s2 := []) rfl (b_iinc rfl (by rw [← e172]; exact ev_w_in (by omega) (by omega)) rfl) rfl ?_
                          refine w_go (t1 := 60) rfl rfl ?_
                          exact ih50 (4 - (v171)).toNat (by omega) m158 (v171) (some (eI (v86))) (some (eI (v107))) (some (eI (v117))) (some (eI (4))) (some (eI (v107))) (some (eI (i156))) I159 F160 (by omega) k161 k162 k163 k164  p168  rfl
                        · have b171 : 0 ≤ i156 ∧ i156 ≤ 3 := by omega
                          refine w_t (np := 201) (l2 := [some (eR a0), some (eI (a1)), some (eI (i12)), some (eI (v46)), some (eI (i51)), some (eI (v86)), some (eI (v107)), some (eI (v117)), some (eI (4)), some (eI (v107)), some (eI (i156))]) (s2 := [eR a0]) rfl (s_an rfl (pos_g I159 gA0 (by decide))) rfl ?_
                          refine j_gr (np := 204) rfl rfl I159 gA0 (by decide) (n := 69) rfl rfl rfl ?_
                          intro v171 e172 b173 z174
                          have b173 : g v171 = 85 := Nat.eq_of_beq_eq_true b173
                          refine w_t (np := 206) (l2 := [some (eR a0), some (eI (a1)), some (eI (i12)), some (eI (v46)), some (eI (i51)), some (eI (v86)), some (eI (v107)), some (eI (v117)), some (eI (4)), some (eI (v107)), some (eI (i156))]) (s2 := [eI (v107), eR v171]) rfl rfl rfl ?_
                          refine w_t (np := 208) (l2 := [some (eR a0), some (eI (a1)), some (eI (i12)), some (eI (v46)), some (eI (i51)), some (eI (v86)), some (eI (v107)), some (eI (v117)), some (eI (4)), some (eI (v107)), some (eI (i156))]) (s2 := [eI (i156), eI (v107), eR v171]) rfl rfl rfl ?_
                          obtain ⟨v175, e176⟩ : ∃ zz : Int, zz = (v107) + (i156) := ⟨_, rfl⟩
                          have b177 : 0 ≤ v175 ∧ v175 ≤ 12 := by omega
                          refine w_t (np := 209) (l2 := [some (eR a0), some (eI (a1)), some (eI (i12)), some (eI (v46)), some (eI (i51)), some (eI (v86)), some (eI (v107)), some (eI (v117)), some (eI (4)), some (eI (v107)), some (eI (i156))]) (s2 := [eI (v175), eR v171]) rfl (b_iadd (by rw [← e176]; exact ev_w_in (by omega) (by omega))) rfl ?_
                          refine w_cu (np := 212) (as := [eI (v175)]) (l2 := [some (eI (v175))]) (rest := [eR v171]) rfl rfl rfl (Nat.ble_eq.mp rfl) rfl rfl rfl rfl ?_
                          refine s_217e (a0 := v175) I159 (by omega) ?_
                          intro v178 b179 h180
                          show ex_q (dt_fg L ρ) rc (d + 3, (323, 212, [some (eR a0), some (eI (a1)), some (eI (i12)), some (eI (v46)), some (eI (i51)), some (eI (v86)), some (eI (v107)), some (eI (v117)), some (eI (4)), some (eI (v107)), some (eI (i156))], [eI (v178), eR v171]), f :: F, m158)
                          refine w_t (np := 213) (l2 := [some (eR a0), some (eI (a1)), some (eI (i12)), some (eI (v46)), some (eI (i51)), some (eI (v86)), some (eI (v107)), some (eI (v117)), some (eI (4)), some (eI (v107)), some (eI (i156))]) (s2 := [eI (1), eI (v178), eR v171]) rfl rfl rfl ?_
                          refine j_sb3 (np := 214) rfl rfl I159 b173 (by decide) (n := 10) rfl rfl (lo := 0) (hi := 1) (fun _ => rfl) (by omega) (by omega) (by decide) (by decide) ?_
                          intro m181 I182 W183
                          have F184 : Fr l_323 0 0 g μ m181 := F160.v W183 b173 rfl rfl
                          have p185 : CR g m181 := CR.fr p168 (Fr.o W183 b173 rfl) rfl
                          obtain ⟨v186, e187⟩ : ∃ zz : Int, zz = (i156) + (1) := ⟨_, rfl⟩
                          have b188 : 1 ≤ v186 ∧ v186 ≤ 4 := by omega
                          refine w_t (np := 217) (l2 := [some (eR a0), some (eI (a1)), some (eI (i12)), some (eI (v46)), some (eI (i51)), some (eI (v86)), some (eI (v107)), some (eI (v117)), some (eI (4)), some (eI (v107)), some (eI (v186))]) (s2 := []) rfl (b_iinc rfl (by rw [← e187]; exact ev_w_in (by omega) (by omega)) rfl) rfl ?_
                          refine w_go (t1 := 193) rfl rfl ?_
                          exact ih155 (4 - (v186)).toNat (by omega) m181 (v186) I182 F184 (by omega) (W183.addr k161 b173 gA0 (by decide)) (W183.addr k162 b173 gA0 (by decide)) (W183.addr k163 b173 gA0 (by decide)) (W183.addr k164 b173 b41 (by decide)) (W183.addr k165 b173 gA0 (by decide)) (W183.addr k166 b173 b71 (by decide)) (W183.addr k167 b173 gA0 (by decide))  p185  rfl
                      exact hL193 _ m135 (0) I136 F138 (by decide) (W137.addr (W127.addr k62 b121 gA0 (by decide)) b121 gA0 (by decide)) (W137.addr (W127.addr k63 b121 gA0 (by decide)) b121 gA0 (by decide)) (W137.addr (W127.addr k64 b121 gA0 (by decide)) b121 gA0 (by decide)) (W137.addr (W127.addr k65 b121 b41 (by decide)) b121 b41 (by decide)) (W137.addr (W127.addr e70 b121 gA0 (by decide)) b121 gA0 (by decide)) (W137.addr (W127.addr e80 b121 b71 (by decide)) b121 b71 (by decide)) (W137.addr (W127.addr e120 b121 gA0 (by decide)) b121 gA0 (by decide))  p139  rfl
                  · have b147 : 0 ≤ v140 ∧ v140 ≤ 0 := by omega
                    refine w_t (np := 9) (l2 := [some (eI (v46)), some (eI (v140))]) (s2 := [eI (1)]) rfl rfl rfl ?_
                    refine w_go (t1 := 25) rfl rfl ?_
                    refine b_ri rfl rfl ?_
                    show ex_q (dt_fg L ρ) rc (d + 3, (323, 166, [some (eR a0), some (eI (a1)), some (eI (i12)), some (eI (v46)), some (eI (i51)), some (eI (v86)), some (eI (v107)), some (eI (v117)), o56, o57, o58], [eI (1)]), f :: F, m135)
                    refine w_t (np := 168) (l2 := [some (eR a0), some (eI (a1)), some (eI (i12)), some (eI (v46)), some (eI (i51)), some (eI (v86)), some (eI (v107)), some (eI (v117)), some (eI (1)), o57, o58]) (s2 := []) rfl rfl rfl ?_
                    refine w_t (np := 170) (l2 := [some (eR a0), some (eI (a1)), some (eI (i12)), some (eI (v46)), some (eI (i51)), some (eI (v86)), some (eI (v107)), some (eI (v117)), some (eI (1)), o57, o58]) (s2 := [eI (v117)]) rfl rfl rfl ?_
                    refine w_t (np := 172) (l2 := [some (eR a0), some (eI (a1)), some (eI (i12)), some (eI (v46)), some (eI (i51)), some (eI (v86)), some (eI (v107)), some (eI (v117)), some (eI (1)), o57, o58]) (s2 := [eI (v107), eI (v117)]) rfl rfl rfl ?_
                    obtain ⟨v147, e148⟩ : ∃ zz : Int, zz = (v117) - (v107) := ⟨_, rfl⟩
                    have b149 : -9 ≤ v147 ∧ v147 ≤ 9 := by omega
                    refine w_t (np := 173) (l2 := [some (eR a0), some (eI (a1)), some (eI (i12)), some (eI (v46)), some (eI (i51)), some (eI (v86)), some (eI (v107)), some (eI (v117)), some (eI (1)), o57, o58]) (s2 := [eI (v147)]) rfl (b_isub (by rw [← e148]; exact ev_w_in (by omega) (by omega))) rfl ?_
                    refine w_cu (np := 176) (as := [eI (v147)]) (l2 := [some (eI (v147))]) (rest := []) rfl rfl rfl (Nat.ble_eq.mp rfl) rfl rfl rfl rfl ?_
                    refine s_217e (a0 := v147) I136 (by omega) ?_
                    intro v150 b151 h152
                    show ex_q (dt_fg L ρ) rc (d + 3, (323, 176, [some (eR a0), some (eI (a1)), some (eI (i12)), some (eI (v46)), some (eI (i51)), some (eI (v86)), some (eI (v107)), some (eI (v117)), some (eI (1)), o57, o58], [eI (v150)]), f :: F, m135)
                    refine w_t (np := 178) (l2 := [some (eR a0), some (eI (a1)), some (eI (i12)), some (eI (v46)), some (eI (i51)), some (eI (v86)), some (eI (v107)), some (eI (v117)), some (eI (1)), o57, o58]) (s2 := [eI (1), eI (v150)]) rfl rfl rfl ?_
                    refine b_cne (t1 := 186) (t2 := 181) rfl rfl rfl (ev_w_in (by omega) (by omega)) rfl (fun g153 => ?_) (fun g153 => ?_)
                    · refine w_t (np := 188) (l2 := [some (eR a0), some (eI (a1)), some (eI (i12)), some (eI (v46)), some (eI (i51)), some (eI (v86)), some (eI (v107)), some (eI (v117)), some (eI (1)), o57, o58]) (s2 := [eI (v117)]) rfl rfl rfl ?_
                      refine w_t (np := 190) (l2 := [some (eR a0), some (eI (a1)), some (eI (i12)), some (eI (v46)), some (eI (i51)), some (eI (v86)), some (eI (v107)), some (eI (v117)), some (eI (1)), some (eI (v117)), o58]) (s2 := []) rfl rfl rfl ?_
                      refine w_t (np := 191) (l2 := [some (eR a0), some (eI (a1)), some (eI (i12)), some (eI (v46)), some (eI (i51)), some (eI (v86)), some (eI (v107)), some (eI (v117)), some (eI (1)), some (eI (v117)), o58]) (s2 := [eI (0)]) rfl rfl rfl ?_
                      refine w_t (np := 193) (l2 := [some (eR a0), some (eI (a1)), some (eI (i12)), some (eI (v46)), some (eI (i51)), some (eI (v86)), some (eI (v107)), some (eI (v117)), some (eI (1)), some (eI (v117)), some (eI (0))]) (s2 := []) rfl rfl rfl ?_
                      have hL193 : ∀ (n154 : Nat) (m158 : eM) (i156 : Int), SI g m158 → Fr l_323 0 0 g μ m158 → (0 ≤ i156 ∧ i156 ≤ 4) → m158.1 a0 49 = v26 → m158.1 a0 47 = ((v30 : Nat) : Int) → m158.1 a0 43 = ((v39 : Nat) : Int) → m158.1 v39 (v43).toNat = v46 → m158.1 a0 45 = ((v69 : Nat) : Int) → m158.1 v69 (v76).toNat = v79 → m158.1 a0 52 = ((v119 : Nat) : Int) → CR g m158 → n154 = (4 - i156).toNat → ex_q (dt_fg L ρ) rc (d + 3, (323, 193, [some (eR a0), some (eI (a1)), some (eI (i12)), some (eI (v46)), some (eI (i51)), some (eI (v86)), some (eI (v107)), some (eI (v117)), some (eI (1)), some (eI (v117)), some (eI (i156))], []), f :: F, m158) := by
                        intro n154
                        induction n154 using Nat.strongRecOn with
                        | _ n154 ih155 =>
                        intro m158 i156 I159 F160 b157 k161 k162 k163 k164 k165 k166 k167 p168 hn169
                        refine w_t (np := 195) (l2 := [some (eR a0), some (eI (a1)), some (eI (i12)), some (eI (v46)), some (eI (i51)), some (eI (v86)), some (eI (v107)), some (eI (v117)), some (eI (1)), some (eI (v117)), some (eI (i156))]) (s2 := [eI (i156)]) rfl rfl rfl ?_
                        refine w_t (np := 197) (l2 := [some (eR a0), some (eI (a1)), some (eI (i12)), some (eI (v46)), some (eI (i51)), some (eI (v86)), some (eI (v107)), some (eI (v117)), some (eI (1)), some (eI (v117)), some (eI (i156))]) (s2 := [eI (1), eI (i156)]) rfl rfl rfl ?_
                        refine b_cge (t1 := 220) (t2 := 200) rfl rfl rfl (ev_w_in (by omega) (by omega)) rfl (fun g170 => ?_) (fun g170 => ?_)
                        · have b171 : 1 ≤ i156 ∧ i156 ≤ 4 := by omega
                          obtain ⟨v171, e172⟩ : ∃ zz : Int, zz = (i51) + (1) := ⟨_, rfl⟩
                          have b173 : 1 ≤ v171 ∧ v171 ≤ 4 := by omega
                          refine w_t (np := 223) (l2 := [some (eR a0), some (eI (a1)), some (eI (i12)), some (eI (v46)), some (eI (v171)), some (eI (v86)), some (eI (v107)), some (eI (v117)), some (eI (1)), some (eI (v117)), some (eI (i156))]) (s2 := []) rfl (b_iinc rfl (by rw [← e172]; exact ev_w_in (by omega) (by omega)) rfl) rfl ?_
                          refine w_go (t1 := 60) rfl rfl ?_
                          exact ih50 (4 - (v171)).toNat (by omega) m158 (v171) (some (eI (v86))) (some (eI (v107))) (some (eI (v117))) (some (eI (1))) (some (eI (v117))) (some (eI (i156))) I159 F160 (by omega) k161 k162 k163 k164  p168  rfl
                        · have b171 : 0 ≤ i156 ∧ i156 ≤ 0 := by omega
                          refine w_t (np := 201) (l2 := [some (eR a0), some (eI (a1)), some (eI (i12)), some (eI (v46)), some (eI (i51)), some (eI (v86)), some (eI (v107)), some (eI (v117)), some (eI (1)), some (eI (v117)), some (eI (i156))]) (s2 := [eR a0]) rfl (s_an rfl (pos_g I159 gA0 (by decide))) rfl ?_
                          refine j_gr (np := 204) rfl rfl I159 gA0 (by decide) (n := 69) rfl rfl rfl ?_
                          intro v171 e172 b173 z174
                          have b173 : g v171 = 85 := Nat.eq_of_beq_eq_true b173
                          refine w_t (np := 206) (l2 := [some (eR a0), some (eI (a1)), some (eI (i12)), some (eI (v46)), some (eI (i51)), some (eI (v86)), some (eI (v107)), some (eI (v117)), some (eI (1)), some (eI (v117)), some (eI (i156))]) (s2 := [eI (v117), eR v171]) rfl rfl rfl ?_
                          refine w_t (np := 208) (l2 := [some (eR a0), some (eI (a1)), some (eI (i12)), some (eI (v46)), some (eI (i51)), some (eI (v86)), some (eI (v107)), some (eI (v117)), some (eI (1)), some (eI (v117)), some (eI (i156))]) (s2 := [eI (i156), eI (v117), eR v171]) rfl rfl rfl ?_
                          obtain ⟨v175, e176⟩ : ∃ zz : Int, zz = (v117) + (i156) := ⟨_, rfl⟩
                          have b177 : 0 ≤ v175 ∧ v175 ≤ 9 := by omega
                          refine w_t (np := 209) (l2 := [some (eR a0), some (eI (a1)), some (eI (i12)), some (eI (v46)), some (eI (i51)), some (eI (v86)), some (eI (v107)), some (eI (v117)), some (eI (1)), some (eI (v117)), some (eI (i156))]) (s2 := [eI (v175), eR v171]) rfl (b_iadd (by rw [← e176]; exact ev_w_in (by omega) (by omega))) rfl ?_
                          refine w_cu (np := 212) (as := [eI (v175)]) (l2 := [some (eI (v175))]) (rest := [eR v171]) rfl rfl rfl (Nat.ble_eq.mp rfl) rfl rfl rfl rfl ?_
                          refine s_217e (a0 := v175) I159 (by omega) ?_
                          intro v178 b179 h180
                          show ex_q (dt_fg L ρ) rc (d + 3, (323, 212, [some (eR a0), some (eI (a1)), some (eI (i12)), some (eI (v46)), some (eI (i51)), some (eI (v86)), some (eI (v107)), some (eI (v117)), some (eI (1)), some (eI (v117)), some (eI (i156))], [eI (v178), eR v171]), f :: F, m158)
                          refine w_t (np := 213) (l2 := [some (eR a0), some (eI (a1)), some (eI (i12)), some (eI (v46)), some (eI (i51)), some (eI (v86)), some (eI (v107)), some (eI (v117)), some (eI (1)), some (eI (v117)), some (eI (i156))]) (s2 := [eI (1), eI (v178), eR v171]) rfl rfl rfl ?_
                          refine j_sb3 (np := 214) rfl rfl I159 b173 (by decide) (n := 10) rfl rfl (lo := 0) (hi := 1) (fun _ => rfl) (by omega) (by omega) (by decide) (by decide) ?_
                          intro m181 I182 W183
                          have F184 : Fr l_323 0 0 g μ m181 := F160.v W183 b173 rfl rfl
                          have p185 : CR g m181 := CR.fr p168 (Fr.o W183 b173 rfl) rfl
                          obtain ⟨v186, e187⟩ : ∃ zz : Int, zz = (i156) + (1) := ⟨_, rfl⟩
                          have b188 : 1 ≤ v186 ∧ v186 ≤ 1 := by omega
                          refine w_t (np := 217) (l2 := [some (eR a0), some (eI (a1)), some (eI (i12)), some (eI (v46)), some (eI (i51)), some (eI (v86)), some (eI (v107)), some (eI (v117)), some (eI (1)), some (eI (v117)), some (eI (v186))]) (s2 := []) rfl (b_iinc rfl (by rw [← e187]; exact ev_w_in (by omega) (by omega)) rfl) rfl ?_
                          refine w_go (t1 := 193) rfl rfl ?_
                          exact ih155 (4 - (v186)).toNat (by omega) m181 (v186) I182 F184 (by omega) (W183.addr k161 b173 gA0 (by decide)) (W183.addr k162 b173 gA0 (by decide)) (W183.addr k163 b173 gA0 (by decide)) (W183.addr k164 b173 b41 (by decide)) (W183.addr k165 b173 gA0 (by decide)) (W183.addr k166 b173 b71 (by decide)) (W183.addr k167 b173 gA0 (by decide))  p185  rfl
                      exact hL193 _ m135 (0) I136 F138 (by decide) (W137.addr (W127.addr k62 b121 gA0 (by decide)) b121 gA0 (by decide)) (W137.addr (W127.addr k63 b121 gA0 (by decide)) b121 gA0 (by decide)) (W137.addr (W127.addr k64 b121 gA0 (by decide)) b121 gA0 (by decide)) (W137.addr (W127.addr k65 b121 b41 (by decide)) b121 b41 (by decide)) (W137.addr (W127.addr e70 b121 gA0 (by decide)) b121 gA0 (by decide)) (W137.addr (W127.addr e80 b121 b71 (by decide)) b121 b71 (by decide)) (W137.addr (W127.addr e120 b121 gA0 (by decide)) b121 gA0 (by decide))  p139  rfl
                    · have b154 : 1 ≤ v150 ∧ v150 ≤ 1 := by omega
                      refine w_t (np := 183) (l2 := [some (eR a0), some (eI (a1)), some (eI (i12)), some (eI (v46)), some (eI (i51)), some (eI (v86)), some (eI (v107)), some (eI (v117)), some (eI (1)), o57, o58]) (s2 := [eI (v107)]) rfl rfl rfl ?_
                      refine w_go (t1 := 188) rfl rfl ?_
                      refine w_t (np := 190) (l2 := [some (eR a0), some (eI (a1)), some (eI (i12)), some (eI (v46)), some (eI (i51)), some (eI (v86)), some (eI (v107)), some (eI (v117)), some (eI (1)), some (eI (v107)), o58]) (s2 := []) rfl rfl rfl ?_
                      refine w_t (np := 191) (l2 := [some (eR a0), some (eI (a1)), some (eI (i12)), some (eI (v46)), some (eI (i51)), some (eI (v86)), some (eI (v107)), some (eI (v117)), some (eI (1)), some (eI (v107)), o58]) (s2 := [eI (0)]) rfl rfl rfl ?_
                      refine w_t (np := 193) (l2 := [some (eR a0), some (eI (a1)), some (eI (i12)), some (eI (v46)), some (eI (i51)), some (eI (v86)), some (eI (v107)), some (eI (v117)), some (eI (1)), some (eI (v107)), some (eI (0))]) (s2 := []) rfl rfl rfl ?_
                      have hL193 : ∀ (n154 : Nat) (m158 : eM) (i156 : Int), SI g m158 → Fr l_323 0 0 g μ m158 → (0 ≤ i156 ∧ i156 ≤ 4) → m158.1 a0 49 = v26 → m158.1 a0 47 = ((v30 : Nat) : Int) → m158.1 a0 43 = ((v39 : Nat) : Int) → m158.1 v39 (v43).toNat = v46 → m158.1 a0 45 = ((v69 : Nat) : Int) → m158.1 v69 (v76).toNat = v79 → m158.1 a0 52 = ((v119 : Nat) : Int) → CR g m158 → n154 = (4 - i156).toNat → ex_q (dt_fg L ρ) rc (d + 3, (323, 193, [some (eR a0), some (eI (a1)), some (eI (i12)), some (eI (v46)), some (eI (i51)), some (eI (v86)), some (eI (v107)), some (eI (v117)), some (eI (1)), some (eI (v107)), some (eI (i156))], []), f :: F, m158) := by
                        intro n154
                        induction n154 using Nat.strongRecOn with
                        | _ n154 ih155 =>
                        intro m158 i156 I159 F160 b157 k161 k162 k163 k164 k165 k166 k167 p168 hn169
                        refine w_t (np := 195) (l2 := [some (eR a0), some (eI (a1)), some (eI (i12)), some (eI (v46)), some (eI (i51)), some (eI (v86)), some (eI (v107)), some (eI (v117)), some (eI (1)), some (eI (v107)), some (eI (i156))]) (s2 := [eI (i156)]) rfl rfl rfl ?_
                        refine w_t (np := 197) (l2 := [some (eR a0), some (eI (a1)), some (eI (i12)), some (eI (v46)), some (eI (i51)), some (eI (v86)), some (eI (v107)), some (eI (v117)), some (eI (1)), some (eI (v107)), some (eI (i156))]) (s2 := [eI (1), eI (i156)]) rfl rfl rfl ?_
                        refine b_cge (t1 := 220) (t2 := 200) rfl rfl rfl (ev_w_in (by omega) (by omega)) rfl (fun g170 => ?_) (fun g170 => ?_)
                        · have b171 : 1 ≤ i156 ∧ i156 ≤ 4 := by omega
                          obtain ⟨v171, e172⟩ : ∃ zz : Int, zz = (i51) + (1) := ⟨_, rfl⟩
                          have b173 : 1 ≤ v171 ∧ v171 ≤ 4 := by omega
                          refine w_t (np := 223) (l2 := [some (eR a0), some (eI (a1)), some (eI (i12)), some (eI (v46)), some (eI (v171)), some (eI (v86)), some (eI (v107)), some (eI (v117)), some (eI (1)), some (eI (v107)), some (eI (i156))]) (s2 := []) rfl (b_iinc rfl (by rw [← e172]; exact ev_w_in (by omega) (by omega)) rfl) rfl ?_
                          refine w_go (t1 := 60) rfl rfl ?_
                          exact ih50 (4 - (v171)).toNat (by omega) m158 (v171) (some (eI (v86))) (some (eI (v107))) (some (eI (v117))) (some (eI (1))) (some (eI (v107))) (some (eI (i156))) I159 F160 (by omega) k161 k162 k163 k164  p168  rfl
                        · have b171 : 0 ≤ i156 ∧ i156 ≤ 0 := by omega
                          refine w_t (np := 201) (l2 := [some (eR a0), some (eI (a1)), some (eI (i12)), some (eI (v46)), some (eI (i51)), some (eI (v86)), some (eI (v107)), some (eI (v117)), some (eI (1)), some (eI (v107)), some (eI (i156))]) (s2 := [eR a0]) rfl (s_an rfl (pos_g I159 gA0 (by decide))) rfl ?_
                          refine j_gr (np := 204) rfl rfl I159 gA0 (by decide) (n := 69) rfl rfl rfl ?_
                          intro v171 e172 b173 z174
                          have b173 : g v171 = 85 := Nat.eq_of_beq_eq_true b173
                          refine w_t (np := 206) (l2 := [some (eR a0), some (eI (a1)), some (eI (i12)), some (eI (v46)), some (eI (i51)), some (eI (v86)), some (eI (v107)), some (eI (v117)), some (eI (1)), some (eI (v107)), some (eI (i156))]) (s2 := [eI (v107), eR v171]) rfl rfl rfl ?_
                          refine w_t (np := 208) (l2 := [some (eR a0), some (eI (a1)), some (eI (i12)), some (eI (v46)), some (eI (i51)), some (eI (v86)), some (eI (v107)), some (eI (v117)), some (eI (1)), some (eI (v107)), some (eI (i156))]) (s2 := [eI (i156), eI (v107), eR v171]) rfl rfl rfl ?_
                          obtain ⟨v175, e176⟩ : ∃ zz : Int, zz = (v107) + (i156) := ⟨_, rfl⟩
                          have b177 : 0 ≤ v175 ∧ v175 ≤ 9 := by omega
                          refine w_t (np := 209) (l2 := [some (eR a0), some (eI (a1)), some (eI (i12)), some (eI (v46)), some (eI (i51)), some (eI (v86)), some (eI (v107)), some (eI (v117)), some (eI (1)), some (eI (v107)), some (eI (i156))]) (s2 := [eI (v175), eR v171]) rfl (b_iadd (by rw [← e176]; exact ev_w_in (by omega) (by omega))) rfl ?_
                          refine w_cu (np := 212) (as := [eI (v175)]) (l2 := [some (eI (v175))]) (rest := [eR v171]) rfl rfl rfl (Nat.ble_eq.mp rfl) rfl rfl rfl rfl ?_
                          refine s_217e (a0 := v175) I159 (by omega) ?_
                          intro v178 b179 h180
                          show ex_q (dt_fg L ρ) rc (d + 3, (323, 212, [some (eR a0), some (eI (a1)), some (eI (i12)), some (eI (v46)), some (eI (i51)), some (eI (v86)), some (eI (v107)), some (eI (v117)), some (eI (1)), some (eI (v107)), some (eI (i156))], [eI (v178), eR v171]), f :: F, m158)
                          refine w_t (np := 213) (l2 := [some (eR a0), some (eI (a1)), some (eI (i12)), some (eI (v46)), some (eI (i51)), some (eI (v86)), some (eI (v107)), some (eI (v117)), some (eI (1)), some (eI (v107)), some (eI (i156))]) (s2 := [eI (1), eI (v178), eR v171]) rfl rfl rfl ?_
                          refine j_sb3 (np := 214) rfl rfl I159 b173 (by decide) (n := 10) rfl rfl (lo := 0) (hi := 1) (fun _ => rfl) (by omega) (by omega) (by decide) (by decide) ?_
                          intro m181 I182 W183
                          have F184 : Fr l_323 0 0 g μ m181 := F160.v W183 b173 rfl rfl
                          have p185 : CR g m181 := CR.fr p168 (Fr.o W183 b173 rfl) rfl
                          obtain ⟨v186, e187⟩ : ∃ zz : Int, zz = (i156) + (1) := ⟨_, rfl⟩
                          have b188 : 1 ≤ v186 ∧ v186 ≤ 1 := by omega
                          refine w_t (np := 217) (l2 := [some (eR a0), some (eI (a1)), some (eI (i12)), some (eI (v46)), some (eI (i51)), some (eI (v86)), some (eI (v107)), some (eI (v117)), some (eI (1)), some (eI (v107)), some (eI (v186))]) (s2 := []) rfl (b_iinc rfl (by rw [← e187]; exact ev_w_in (by omega) (by omega)) rfl) rfl ?_
                          refine w_go (t1 := 193) rfl rfl ?_
                          exact ih155 (4 - (v186)).toNat (by omega) m181 (v186) I182 F184 (by omega) (W183.addr k161 b173 gA0 (by decide)) (W183.addr k162 b173 gA0 (by decide)) (W183.addr k163 b173 gA0 (by decide)) (W183.addr k164 b173 b41 (by decide)) (W183.addr k165 b173 gA0 (by decide)) (W183.addr k166 b173 b71 (by decide)) (W183.addr k167 b173 gA0 (by decide))  p185  rfl
                      exact hL193 _ m135 (0) I136 F138 (by decide) (W137.addr (W127.addr k62 b121 gA0 (by decide)) b121 gA0 (by decide)) (W137.addr (W127.addr k63 b121 gA0 (by decide)) b121 gA0 (by decide)) (W137.addr (W127.addr k64 b121 gA0 (by decide)) b121 gA0 (by decide)) (W137.addr (W127.addr k65 b121 b41 (by decide)) b121 b41 (by decide)) (W137.addr (W127.addr e70 b121 gA0 (by decide)) b121 gA0 (by decide)) (W137.addr (W127.addr e80 b121 b71 (by decide)) b121 b71 (by decide)) (W137.addr (W127.addr e120 b121 gA0 (by decide)) b121 gA0 (by decide))  p139  rfl
              · refine w_go (t1 := 220) rfl rfl ?_
                obtain ⟨v83, e84⟩ : ∃ zz : Int, zz = (i51) + (1) := ⟨_, rfl⟩
                have b85 : 1 ≤ v83 ∧ v83 ≤ 4 := by omega
                refine w_t (np := 223) (l2 := [some (eR a0), some (eI (a1)), some (eI (i12)), some (eI (v46)), some (eI (v83)), o53, o54, o55, o56, o57, o58]) (s2 := []) rfl (b_iinc rfl (by rw [← e84]; exact ev_w_in (by omega) (by omega)) rfl) rfl ?_
                refine w_go (t1 := 60) rfl rfl ?_
                exact ih50 (4 - (v83)).toNat (by omega) m59 (v83) (o53) (o54) (o55) (o56) (o57) (o58) I60 F61 (by omega) k62 k63 k64 k65  p66  rfl
          exact hL60 _ m34 (0) (o16) (o17) (o18) (o19) (o20) (o21) I35 F38 (by decide) (F36.k e27 gA0 (by decide) rfl) (F36.k e31 gA0 (by decide) rfl) e40 e47  p37  rfl
      exact hL30 _ m5 (0) (none) (none) (none) (none) (none) (none) (none) (none) I6 F7 (by decide)     rfl
    · have b10 : 0 ≤ i3 ∧ i3 ≤ 9 := by omega
      refine w_t (np := 9) (l2 := [some (eR a0), some (eI (a1)), some (eI (i3)), none, none, none, none, none, none, none, none]) (s2 := [eR a0]) rfl (s_an rfl (pos_g I6 gA0 (by decide))) rfl ?_
      refine j_gr (np := 12) rfl rfl I6 gA0 (by decide) (n := 69) rfl rfl rfl ?_
      intro v10 e11 b12 z13
      have b12 : g v10 = 85 := Nat.eq_of_beq_eq_true b12
      refine w_t (np := 13) (l2 := [some (eR a0), some (eI (a1)), some (eI (i3)), none, none, none, none, none, none, none, none]) (s2 := [eI (i3), eR v10]) rfl rfl rfl ?_
      refine w_t (np := 14) (l2 := [some (eR a0), some (eI (a1)), some (eI (i3)), none, none, none, none, none, none, none, none]) (s2 := [eI (0), eI (i3), eR v10]) rfl rfl rfl ?_
      refine j_sb3 (np := 15) rfl rfl I6 b12 (by decide) (n := 10) rfl rfl (lo := 0) (hi := 1) (fun _ => rfl) (by omega) (by omega) (by decide) (by decide) ?_
      intro m14 I15 W16
      have F17 : Fr l_323 0 0 g μ m14 := F7.v W16 b12 rfl rfl
      refine w_t (np := 16) (l2 := [some (eR a0), some (eI (a1)), some (eI (i3)), none, none, none, none, none, none, none, none]) (s2 := [eR a0]) rfl (s_an rfl (pos_g I15 gA0 (by decide))) rfl ?_
      refine j_gr (np := 19) rfl rfl I15 gA0 (by decide) (n := 69) rfl rfl rfl ?_
      intro v18 e19 b20 z21
      have b20 : g v18 = 86 := Nat.eq_of_beq_eq_true b20
      refine w_t (np := 20) (l2 := [some (eR a0), some (eI (a1)), some (eI (i3)), none, none, none, none, none, none, none, none]) (s2 := [eI (i3), eR v18]) rfl rfl rfl ?_
      refine w_t (np := 21) (l2 := [some (eR a0), some (eI (a1)), some (eI (i3)), none, none, none, none, none, none, none, none]) (s2 := [eI (-1), eI (i3), eR v18]) rfl rfl rfl ?_
      refine j_as (np := 22) rfl rfl I15 b20 (by decide) (n := 10) rfl rfl (lo := -1) (hi := 3) (fun _ => rfl) (by omega) (by omega) (by decide) ?_
      intro m22 I23 W24
      have F25 : Fr l_323 0 0 g μ m22 := F17.v W24 b20 rfl rfl
      obtain ⟨v26, e27⟩ : ∃ zz : Int, zz = (i3) + (1) := ⟨_, rfl⟩
      have b28 : 1 ≤ v26 ∧ v26 ≤ 10 := by omega
      refine w_t (np := 25) (l2 := [some (eR a0), some (eI (a1)), some (eI (v26)), none, none, none, none, none, none, none, none]) (s2 := []) rfl (b_iinc rfl (by rw [← e27]; exact ev_w_in (by omega) (by omega)) rfl) rfl ?_
      refine w_go (t1 := 2) rfl rfl ?_
      exact ih2 (10 - (v26)).toNat (by omega) m22 (v26) I23 F25 (by omega)     rfl
  exact hL2 _ μ (0) hI F0 (by decide)     rfl
theorem s_329 {L : Nat} {ρ : Nat → Int} {rc : eQ} : ∀ (n : Nat) {d : Nat} {f : eFr} {F : List eFr} {μ : eM} {g : Nat → Nat} {a0 : Nat} {a1 a2 a3 : Int} (hI : SI g μ) (gA0 : g a0 = 52) (bA1 : 0 ≤ a1 ∧ a1 ≤ 9) (bA2 : -2147483648 ≤ a2 ∧ a2 ≤ 2147483647) (bA3 : -2147483648 ≤ a3 ∧ a3 ≤ 2147483647) (hn : a1 ≤ n) (K : ∀ (v : Int), (-2147483648 ≤ v ∧ v ≤ 2147483647) → v = wW n a1 a2 a3 → ex_q (dt_fg L ρ) rc (d + n + 1, (f.1, f.2.1, f.2.2.1, eI v :: f.2.2.2), F, μ)), ex_q (dt_fg L ρ) rc (d + n, (329, 0, [some (eR a0), some (eI (a1)), some (eI (a2)), some (eI (a3)), none, none], []), f :: F, μ) := by
  intro n
  induction n with
  | zero =>
    intro d f F μ g a0 a1 a2 a3 hI gA0 bA1 bA2 bA3 hn K
    have bA1 : 0 ≤ a1 ∧ a1 ≤ 0 := by omega
    refine w_t (np := 1) (l2 := [some (eR a0), some (eI (a1)), some (eI (a2)), some (eI (a3)), none, none]) (s2 := [eI (a1)]) rfl rfl rfl ?_
    refine b_ine (t1 := 15) (t2 := 4) rfl rfl rfl (ev_w_in (by omega) (by omega)) (fun g1 => False.elim (by omega)) (fun g1 => ?_)
    refine w_t (np := 5) (l2 := [some (eR a0), some (eI (a1)), some (eI (a2)), some (eI (a3)), none, none]) (s2 := [eI (a2)]) rfl rfl rfl ?_
    refine w_t (np := 6) (l2 := [some (eR a0), some (eI (a1)), some (eI (a2)), some (eI (a3)), none, none]) (s2 := [eI (a3), eI (a2)]) rfl rfl rfl ?_
    refine b_cne (t1 := 13) (t2 := 9) rfl rfl rfl (ev_w_in (by omega) (by omega)) (ev_w_in (by omega) (by omega)) (fun g2 => ?_) (fun g2 => ?_)
    · refine w_t (np := 14) (l2 := [some (eR a0), some (eI (a1)), some (eI (a2)), some (eI (a3)), none, none]) (s2 := [eI (0)]) rfl rfl rfl ?_
      exact b_ri rfl rfl (K (0) (by decide) (wW_z (by omega) (by rw [if_neg (by omega)])))
    · refine w_t (np := 10) (l2 := [some (eR a0), some (eI (a1)), some (eI (a2)), some (eI (a3)), none, none]) (s2 := [eI (1)]) rfl rfl rfl ?_
      refine w_go (t1 := 14) rfl rfl ?_
      exact b_ri rfl rfl (K (1) (by decide) (wW_z (by omega) (by rw [if_pos (by omega)])))
  | succ m ih =>
    intro d f F μ g a0 a1 a2 a3 hI gA0 bA1 bA2 bA3 hn K
    have hn : a1 ≤ m + 1 := hn
    refine w_t (np := 1) (l2 := [some (eR a0), some (eI (a1)), some (eI (a2)), some (eI (a3)), none, none]) (s2 := [eI (a1)]) rfl rfl rfl ?_
    refine b_ine (t1 := 15) (t2 := 4) rfl rfl rfl (ev_w_in (by omega) (by omega)) (fun g1 => ?_) (fun g1 => ?_)
    · have b2 : 1 ≤ a1 ∧ a1 ≤ 9 := by omega
      refine w_t (np := 16) (l2 := [some (eR a0), some (eI (a1)), some (eI (a2)), some (eI (a3)), none, none]) (s2 := [eI (0)]) rfl rfl rfl ?_
      refine w_t (np := 18) (l2 := [some (eR a0), some (eI (a1)), some (eI (a2)), some (eI (a3)), some (eI (0)), none]) (s2 := []) rfl rfl rfl ?_
      refine w_t (np := 19) (l2 := [some (eR a0), some (eI (a1)), some (eI (a2)), some (eI (a3)), some (eI (0)), none]) (s2 := [eI (0)]) rfl rfl rfl ?_
      refine w_t (np := 21) (l2 := [some (eR a0), some (eI (a1)), some (eI (a2)), some (eI (a3)), some (eI (0)), some (eI (0))]) (s2 := []) rfl rfl rfl ?_
      have hL21 : ∀ (n2 : Nat) (i4 : Int) (i6 : Int), (-2147483648 ≤ i4 ∧ i4 ≤ 2147483647) → (0 ≤ i6 ∧ i6 ≤ 8) → i4 = wT (wW m) a1 a2 a3 (i6).toNat → n2 = (8 - i6).toNat → ex_q (dt_fg L ρ) rc (d + m + 1, (329, 21, [some (eR a0), some (eI (a1)), some (eI (a2)), some (eI (a3)), some (eI (i4)), some (eI (i6))], []), f :: F, μ) := by
        intro n2
        induction n2 using Nat.strongRecOn with
        | _ n2 ih3 =>
        intro i4 i6 b5 b7 r8 hn9
        refine w_t (np := 23) (l2 := [some (eR a0), some (eI (a1)), some (eI (a2)), some (eI (a3)), some (eI (i4)), some (eI (i6))]) (s2 := [eI (i6)]) rfl rfl rfl ?_
        refine w_t (np := 25) (l2 := [some (eR a0), some (eI (a1)), some (eI (a2)), some (eI (a3)), some (eI (i4)), some (eI (i6))]) (s2 := [eI (8), eI (i6)]) rfl rfl rfl ?_
        refine b_cge (t1 := 78) (t2 := 28) rfl rfl rfl (ev_w_in (by omega) (by omega)) rfl (fun g10 => ?_) (fun g10 => ?_)
        · have b11 : 8 ≤ i6 ∧ i6 ≤ 8 := by omega
          refine w_t (np := 80) (l2 := [some (eR a0), some (eI (a1)), some (eI (a2)), some (eI (a3)), some (eI (i4)), some (eI (i6))]) (s2 := [eI (i4)]) rfl rfl rfl ?_
          exact b_ri rfl rfl (K (i4) (by omega) (wW_n (by omega) (show i6 = 8 by omega) r8))
        · have b11 : 0 ≤ i6 ∧ i6 ≤ 7 := by omega
          refine v_gs (np := 31) rfl rfl ?_
          refine w_t (np := 33) (l2 := [some (eR a0), some (eI (a1)), some (eI (a2)), some (eI (a3)), some (eI (i4)), some (eI (i6))]) (s2 := [eI (i6), eR 22]) rfl rfl rfl ?_
          refine j_sx (np := 34) (n := 8) (lo := 1) (hi := 4) rfl rfl rfl (by decide) (by decide) (by decide) rfl rfl (by decide) (by omega) (by omega) ?_
          intro v11 e12 b13
          refine w_t (np := 35) (l2 := [some (eR a0), some (eI (a1)), some (eI (a2)), some (eI (a3)), some (eI (i4)), some (eI (i6))]) (s2 := [eI (a1), eI (v11)]) rfl rfl rfl ?_
          refine b_cgt (t1 := 72) (t2 := 38) rfl rfl rfl (ev_w_in (by omega) (by omega)) (ev_w_in (by omega) (by omega)) (fun g14 => ?_) (fun g14 => ?_)
          · have b15 : 2 ≤ v11 ∧ v11 ≤ 4 := by omega
            have b16 : 1 ≤ a1 ∧ a1 ≤ 3 := by omega
            obtain ⟨v15, e16⟩ : ∃ zz : Int, zz = (i6) + (1) := ⟨_, rfl⟩
            have b17 : 1 ≤ v15 ∧ v15 ≤ 8 := by omega
            refine w_t (np := 75) (l2 := [some (eR a0), some (eI (a1)), some (eI (a2)), some (eI (a3)), some (eI (i4)), some (eI (v15))]) (s2 := []) rfl (b_iinc rfl (by rw [← e16]; exact ev_w_in (by omega) (by omega)) rfl) rfl ?_
            refine w_go (t1 := 21) rfl rfl ?_
            exact ih3 (8 - (v15)).toNat (by omega) (i4) (v15) (by omega) (by omega)    (wT_b1 (by omega) (by omega) r8 e12 (by omega)) rfl
          · refine v_gs (np := 41) rfl rfl ?_
            refine w_t (np := 43) (l2 := [some (eR a0), some (eI (a1)), some (eI (a2)), some (eI (a3)), some (eI (i4)), some (eI (i6))]) (s2 := [eI (i6), eR 23]) rfl rfl rfl ?_
            refine j_sx (np := 44) (n := 8) (lo := 0) (hi := 3) rfl rfl rfl (by decide) (by decide) (by decide) rfl rfl (by decide) (by omega) (by omega) ?_
            intro v15 e16 b17
            refine w_t (np := 45) (l2 := [some (eR a0), some (eI (a1)), some (eI (a2)), some (eI (a3)), some (eI (i4)), some (eI (i6))]) (s2 := [eI (a2), eI (v15)]) rfl rfl rfl ?_
            refine b_cne (t1 := 72) (t2 := 48) rfl rfl rfl (ev_w_in (by omega) (by omega)) (ev_w_in (by omega) (by omega)) (fun g18 => ?_) (fun g18 => ?_)
            · obtain ⟨v19, e20⟩ : ∃ zz : Int, zz = (i6) + (1) := ⟨_, rfl⟩
              have b21 : 1 ≤ v19 ∧ v19 ≤ 8 := by omega
              refine w_t (np := 75) (l2 := [some (eR a0), some (eI (a1)), some (eI (a2)), some (eI (a3)), some (eI (i4)), some (eI (v19))]) (s2 := []) rfl (b_iinc rfl (by rw [← e20]; exact ev_w_in (by omega) (by omega)) rfl) rfl ?_
              refine w_go (t1 := 21) rfl rfl ?_
              exact ih3 (8 - (v19)).toNat (by omega) (i4) (v19) (by omega) (by omega)    (wT_b2 (by omega) (by omega) r8 e16 (by omega)) rfl
            · have b19 : 0 ≤ a2 ∧ a2 ≤ 3 := by omega
              refine w_t (np := 50) (l2 := [some (eR a0), some (eI (a1)), some (eI (a2)), some (eI (a3)), some (eI (i4)), some (eI (i6))]) (s2 := [eI (i4)]) rfl rfl rfl ?_
              refine w_t (np := 51) (l2 := [some (eR a0), some (eI (a1)), some (eI (a2)), some (eI (a3)), some (eI (i4)), some (eI (i6))]) (s2 := [eR a0, eI (i4)]) rfl (s_an rfl (pos_g hI gA0 (by decide))) rfl ?_
              refine w_t (np := 52) (l2 := [some (eR a0), some (eI (a1)), some (eI (a2)), some (eI (a3)), some (eI (i4)), some (eI (i6))]) (s2 := [eI (a1), eR a0, eI (i4)]) rfl rfl rfl ?_
              refine v_gs (np := 55) rfl rfl ?_
              refine w_t (np := 57) (l2 := [some (eR a0), some (eI (a1)), some (eI (a2)), some (eI (a3)), some (eI (i4)), some (eI (i6))]) (s2 := [eI (i6), eR 22, eI (a1), eR a0, eI (i4)]) rfl rfl rfl ?_
              refine j_sx (np := 58) (n := 8) (lo := 1) (hi := 4) rfl rfl rfl (by decide) (by decide) (by decide) rfl rfl (by decide) (by omega) (by omega) ?_
              intro v19 e20 b21
              rw [e20.trans e12.symm]
              obtain ⟨v22, e23⟩ : ∃ zz : Int, zz = (a1) - (v11) := ⟨_, rfl⟩
              have b24 : -3 ≤ v22 ∧ v22 ≤ 8 := by omega
              refine w_t (np := 59) (l2 := [some (eR a0), some (eI (a1)), some (eI (a2)), some (eI (a3)), some (eI (i4)), some (eI (i6))]) (s2 := [eI (v22), eR a0, eI (i4)]) rfl (b_isub (by rw [← e23]; exact ev_w_in (by omega) (by omega))) rfl ?_
              refine v_gs (np := 62) rfl rfl ?_
              refine w_t (np := 64) (l2 := [some (eR a0), some (eI (a1)), some (eI (a2)), some (eI (a3)), some (eI (i4)), some (eI (i6))]) (s2 := [eI (i6), eR 24, eI (v22), eR a0, eI (i4)]) rfl rfl rfl ?_
              refine j_sx (np := 65) (n := 8) (lo := 0) (hi := 3) rfl rfl rfl (by decide) (by decide) (by decide) rfl rfl (by decide) (by omega) (by omega) ?_
              intro v25 e26 b27
              refine w_t (np := 66) (l2 := [some (eR a0), some (eI (a1)), some (eI (a2)), some (eI (a3)), some (eI (i4)), some (eI (i6))]) (s2 := [eI (a3), eI (v25), eI (v22), eR a0, eI (i4)]) rfl rfl rfl ?_
              refine w_cw (np := 69) (as := [eI (v22), eI (v25), eI (a3)]) (l2 := [some (eR a0), some (eI (v22)), some (eI (v25)), some (eI (a3)), none, none]) (rest := [eI (i4)]) rfl rfl rfl (Nat.ble_eq.mp rfl) rfl rfl rfl (hI.kd gA0 (by decide) (n := 69) rfl) rfl ?_
              refine ih (a1 := v22) (a2 := v25) (a3 := a3) hI gA0 (by omega) (by omega) (by omega) (by omega) ?_
              intro v28 b29 e30
              show ex_q (dt_fg L ρ) rc (d + m + 1, (329, 69, [some (eR a0), some (eI (a1)), some (eI (a2)), some (eI (a3)), some (eI (i4)), some (eI (i6))], [eI (v28), eI (i4)]), f :: F, μ)
              obtain ⟨v31, e32, b33⟩ : ∃ zz : Int, ev_w ((i4) + (v28)) = zz ∧ (-2147483648 ≤ zz ∧ zz ≤ 2147483647) := ⟨_, rfl, hw_bd _⟩
              refine w_t (np := 70) (l2 := [some (eR a0), some (eI (a1)), some (eI (a2)), some (eI (a3)), some (eI (i4)), some (eI (i6))]) (s2 := [eI (v31)]) rfl (b_iadd e32) rfl ?_
              refine w_t (np := 72) (l2 := [some (eR a0), some (eI (a1)), some (eI (a2)), some (eI (a3)), some (eI (v31)), some (eI (i6))]) (s2 := []) rfl rfl rfl ?_
              obtain ⟨v34, e35⟩ : ∃ zz : Int, zz = (i6) + (1) := ⟨_, rfl⟩
              have b36 : 1 ≤ v34 ∧ v34 ≤ 8 := by omega
              refine w_t (np := 75) (l2 := [some (eR a0), some (eI (a1)), some (eI (a2)), some (eI (a3)), some (eI (v31)), some (eI (v34))]) (s2 := []) rfl (b_iinc rfl (by rw [← e35]; exact ev_w_in (by omega) (by omega)) rfl) rfl ?_
              refine w_go (t1 := 21) rfl rfl ?_
              exact ih3 (8 - (v34)).toNat (by omega) (v31) (v34) (by omega) (by omega)    (wT_b3 (by omega) (by omega) r8 e12 (by omega) e16 (by omega) e26 (by omega) e30 (by assumption)) rfl
      exact hL21 _ (0) (0) (by decide) (by decide)    rfl rfl
    · have b2 : 0 ≤ a1 ∧ a1 ≤ 0 := by omega
      refine w_t (np := 5) (l2 := [some (eR a0), some (eI (a1)), some (eI (a2)), some (eI (a3)), none, none]) (s2 := [eI (a2)]) rfl rfl rfl ?_
      refine w_t (np := 6) (l2 := [some (eR a0), some (eI (a1)), some (eI (a2)), some (eI (a3)), none, none]) (s2 := [eI (a3), eI (a2)]) rfl rfl rfl ?_
      refine b_cne (t1 := 13) (t2 := 9) rfl rfl rfl (ev_w_in (by omega) (by omega)) (ev_w_in (by omega) (by omega)) (fun g2 => ?_) (fun g2 => ?_)
      · refine w_t (np := 14) (l2 := [some (eR a0), some (eI (a1)), some (eI (a2)), some (eI (a3)), none, none]) (s2 := [eI (0)]) rfl rfl rfl ?_
        exact b_ri rfl rfl (K (0) (by decide) (wW_z (by omega) (by rw [if_neg (by omega)])))
      · refine w_t (np := 10) (l2 := [some (eR a0), some (eI (a1)), some (eI (a2)), some (eI (a3)), none, none]) (s2 := [eI (1)]) rfl rfl rfl ?_
        refine w_go (t1 := 14) rfl rfl ?_
        exact b_ri rfl rfl (K (1) (by decide) (wW_z (by omega) (by rw [if_pos (by omega)])))
theorem s_330 {L : Nat} {ρ : Nat → Int} {rc : eQ} {d : Nat} {f : eFr} {F : List eFr} {μ : eM} {g : Nat → Nat} {a0 : Nat} (hI : SI g μ) (gA0 : g a0 = 52) (K : ∀ (v : Int), (-2147483648 ≤ v ∧ v ≤ 2147483647) → ex_q (dt_fg L ρ) rc (d + 11, (f.1, f.2.1, f.2.2.1, eI v :: f.2.2.2), F, μ)) : ex_q (dt_fg L ρ) rc (d + 10, (330, 0, [some (eR a0), none, none, none], []), f :: F, μ) := by
  refine w_t (np := 1) (l2 := [some (eR a0), none, none, none]) (s2 := [eI (1)]) rfl rfl rfl ?_
  refine w_t (np := 2) (l2 := [some (eR a0), some (eI (1)), none, none]) (s2 := []) rfl rfl rfl ?_
  refine w_t (np := 3) (l2 := [some (eR a0), some (eI (1)), none, none]) (s2 := [eI (0)]) rfl rfl rfl ?_
  refine w_t (np := 4) (l2 := [some (eR a0), some (eI (1)), some (eI (0)), none]) (s2 := []) rfl rfl rfl ?_
  have hL4 : ∀ (n1 : Nat) (i3 : Int) (i5 : Int) (o7 : Option eV), (-2147483648 ≤ i3 ∧ i3 ≤ 2147483647) → (0 ≤ i5 ∧ i5 ≤ 10) → n1 = (10 - i5).toNat → ex_q (dt_fg L ρ) rc (d + 10, (330, 4, [some (eR a0), some (eI (i3)), some (eI (i5)), o7], []), f :: F, μ) := by
    intro n1
    induction n1 using Nat.strongRecOn with
    | _ n1 ih2 =>
    intro i3 i5 o7 b4 b6 hn8
    refine w_t (np := 5) (l2 := [some (eR a0), some (eI (i3)), some (eI (i5)), o7]) (s2 := [eI (i5)]) rfl rfl rfl ?_
    refine w_t (np := 7) (l2 := [some (eR a0), some (eI (i3)), some (eI (i5)), o7]) (s2 := [eI (10), eI (i5)]) rfl rfl rfl ?_
    refine b_cge (t1 := 51) (t2 := 10) rfl rfl rfl (ev_w_in (by omega) (by omega)) rfl (fun g9 => ?_) (fun g9 => ?_)
    · have b10 : 10 ≤ i5 ∧ i5 ≤ 10 := by omega
      refine w_t (np := 52) (l2 := [some (eR a0), some (eI (i3)), some (eI (i5)), o7]) (s2 := [eI (i3)]) rfl rfl rfl ?_
      exact b_ri rfl rfl (K (i3) (by omega))
    · have b10 : 0 ≤ i5 ∧ i5 ≤ 9 := by omega
      refine w_t (np := 11) (l2 := [some (eR a0), some (eI (i3)), some (eI (i5)), o7]) (s2 := [eR a0]) rfl (s_an rfl (pos_g hI gA0 (by decide))) rfl ?_
      refine w_t (np := 12) (l2 := [some (eR a0), some (eI (i3)), some (eI (i5)), o7]) (s2 := [eI (i5), eR a0]) rfl rfl rfl ?_
      refine w_cw (np := 15) (as := [eI (i5)]) (l2 := [some (eR a0), some (eI (i5)), none]) (rest := []) rfl rfl rfl (Nat.ble_eq.mp rfl) rfl rfl rfl (hI.kd gA0 (by decide) (n := 69) rfl) rfl ?_
      refine s_327 (a1 := i5) hI gA0 (by omega) ?_
      intro v10 b11
      show ex_q (dt_fg L ρ) rc (d + 10, (330, 15, [some (eR a0), some (eI (i3)), some (eI (i5)), o7], [eI (v10)]), f :: F, μ)
      refine w_t (np := 16) (l2 := [some (eR a0), some (eI (i3)), some (eI (i5)), some (eI (v10))]) (s2 := []) rfl rfl rfl ?_
      refine w_t (np := 17) (l2 := [some (eR a0), some (eI (i3)), some (eI (i5)), some (eI (v10))]) (s2 := [eI (v10)]) rfl rfl rfl ?_
      refine b_ile (t1 := 45) (t2 := 20) rfl rfl rfl (ev_w_in (by omega) (by omega)) (fun g12 => ?_) (fun g12 => ?_)
      · have b13 : 0 ≤ v10 ∧ v10 ≤ 0 := by omega
        obtain ⟨v13, e14⟩ : ∃ zz : Int, zz = (i5) + (1) := ⟨_, rfl⟩
        have b15 : 1 ≤ v13 ∧ v13 ≤ 10 := by omega
        refine w_t (np := 48) (l2 := [some (eR a0), some (eI (i3)), some (eI (v13)), some (eI (v10))]) (s2 := []) rfl (b_iinc rfl (by rw [← e14]; exact ev_w_in (by omega) (by omega)) rfl) rfl ?_
        refine w_go (t1 := 4) rfl rfl ?_
        exact ih2 (10 - (v13)).toNat (by omega) (i3) (v13) (some (eI (v10))) (by omega) (by omega)     rfl
      · have b13 : 1 ≤ v10 ∧ v10 ≤ 9 := by omega
        refine w_t (np := 21) (l2 := [some (eR a0), some (eI (i3)), some (eI (i5)), some (eI (v10))]) (s2 := [eI (i3)]) rfl rfl rfl ?_
        refine w_t (np := 22) (l2 := [some (eR a0), some (eI (i3)), some (eI (i5)), some (eI (v10))]) (s2 := [eR a0, eI (i3)]) rfl (s_an rfl (pos_g hI gA0 (by decide))) rfl ?_
        refine w_t (np := 23) (l2 := [some (eR a0), some (eI (i3)), some (eI (i5)), some (eI (v10))]) (s2 := [eI (v10), eR a0, eI (i3)]) rfl rfl rfl ?_
        refine w_t (np := 24) (l2 := [some (eR a0), some (eI (i3)), some (eI (i5)), some (eI (v10))]) (s2 := [eR a0, eI (v10), eR a0, eI (i3)]) rfl (s_an rfl (pos_g hI gA0 (by decide))) rfl ?_
        refine j_gr (np := 27) rfl rfl hI gA0 (by decide) (n := 69) rfl rfl rfl ?_
        intro v13 e14 b15 z16
        have b15 : g v13 = 86 := Nat.eq_of_beq_eq_true b15
        refine w_t (np := 28) (l2 := [some (eR a0), some (eI (i3)), some (eI (i5)), some (eI (v10))]) (s2 := [eI (i5), eR v13, eI (v10), eR a0, eI (i3)]) rfl rfl rfl ?_
        refine j_al (np := 29) rfl rfl hI b15 (by decide) (n := 10) rfl rfl (lo := -1) (hi := 3) (fun _ => rfl) (by omega) (by omega) ?_
        intro v17 e18 b19
        refine w_t (np := 30) (l2 := [some (eR a0), some (eI (i3)), some (eI (i5)), some (eI (v10))]) (s2 := [eR a0, eI (v17), eI (v10), eR a0, eI (i3)]) rfl (s_an rfl (pos_g hI gA0 (by decide))) rfl ?_
        refine w_gf (np := 33) (v := eR v13) rfl rfl (hI.kd gA0 (by decide) (n := 69) rfl) (by rw [e14]; rfl) ?_
        refine w_t (np := 34) (l2 := [some (eR a0), some (eI (i3)), some (eI (i5)), some (eI (v10))]) (s2 := [eI (i5), eR v13, eI (v17), eI (v10), eR a0, eI (i3)]) rfl rfl rfl ?_
        refine w_t (np := 35) (l2 := [some (eR a0), some (eI (i3)), some (eI (i5)), some (eI (v10))]) (s2 := [eI (v10), eI (i5), eR v13, eI (v17), eI (v10), eR a0, eI (i3)]) rfl rfl rfl ?_
        obtain ⟨v20, e21⟩ : ∃ zz : Int, zz = (i5) + (v10) := ⟨_, rfl⟩
        have b22 : 1 ≤ v20 ∧ v20 ≤ 18 := by omega
        refine w_t (np := 36) (l2 := [some (eR a0), some (eI (i3)), some (eI (i5)), some (eI (v10))]) (s2 := [eI (v20), eR v13, eI (v17), eI (v10), eR a0, eI (i3)]) rfl (b_iadd (by rw [← e21]; exact ev_w_in (by omega) (by omega))) rfl ?_
        refine w_cu (np := 39) (as := [eI (v20)]) (l2 := [some (eI (v20))]) (rest := [eR v13, eI (v17), eI (v10), eR a0, eI (i3)]) rfl rfl rfl (Nat.ble_eq.mp rfl) rfl rfl rfl rfl ?_
        refine s_217e (a0 := v20) hI (by omega) ?_
        intro v23 b24 h25
        show ex_q (dt_fg L ρ) rc (d + 10, (330, 39, [some (eR a0), some (eI (i3)), some (eI (i5)), some (eI (v10))], [eI (v23), eR v13, eI (v17), eI (v10), eR a0, eI (i3)]), f :: F, μ)
        refine j_al (np := 40) rfl rfl hI b15 (by decide) (n := 10) rfl rfl (lo := -1) (hi := 3) (fun _ => rfl) (by omega) (by omega) ?_
        intro v26 e27 b28
        refine w_cw (np := 43) (as := [eI (v10), eI (v17), eI (v26)]) (l2 := [some (eR a0), some (eI (v10)), some (eI (v17)), some (eI (v26)), none, none]) (rest := [eI (i3)]) rfl rfl rfl (Nat.ble_eq.mp rfl) rfl rfl rfl (hI.kd gA0 (by decide) (n := 69) rfl) rfl ?_
        refine s_329 9 (a1 := v10) (a2 := v17) (a3 := v26) hI gA0 (by omega) (by omega) (by omega) (by omega) ?_
        intro v29 b30 e31
        show ex_q (dt_fg L ρ) rc (d + 10, (330, 43, [some (eR a0), some (eI (i3)), some (eI (i5)), some (eI (v10))], [eI (v29), eI (i3)]), f :: F, μ)
        obtain ⟨v32, e33, b34⟩ : ∃ zz : Int, ev_w ((i3) * (v29)) = zz ∧ (-2147483648 ≤ zz ∧ zz ≤ 2147483647) := ⟨_, rfl, hw_bd _⟩
        refine w_t (np := 44) (l2 := [some (eR a0), some (eI (i3)), some (eI (i5)), some (eI (v10))]) (s2 := [eI (v32)]) rfl (b_imul e33) rfl ?_
        refine w_t (np := 45) (l2 := [some (eR a0), some (eI (v32)), some (eI (i5)), some (eI (v10))]) (s2 := []) rfl rfl rfl ?_
        obtain ⟨v35, e36⟩ : ∃ zz : Int, zz = (i5) + (1) := ⟨_, rfl⟩
        have b37 : 1 ≤ v35 ∧ v35 ≤ 10 := by omega
        refine w_t (np := 48) (l2 := [some (eR a0), some (eI (v32)), some (eI (v35)), some (eI (v10))]) (s2 := []) rfl (b_iinc rfl (by rw [← e36]; exact ev_w_in (by omega) (by omega)) rfl) rfl ?_
        refine w_go (t1 := 4) rfl rfl ?_
        exact ih2 (10 - (v35)).toNat (by omega) (v32) (v35) (some (eI (v10))) (by omega) (by omega)     rfl
  exact hL4 _ (1) (0) (none) (by decide) (by decide)     rfl
def l_326 : List Nat := [13313, 13314, 13363, 22016, 21760, 21248, 20992, 20736]
theorem s_326 {L : Nat} {ρ : Nat → Int} {rc : eQ} {d : Nat} {f : eFr} {F : List eFr} {μ : eM} {g : Nat → Nat} {a0 : Nat} {a1 : Int} (hI : SI g μ) (gA0 : g a0 = 52) (bA1 : -2147483648 ≤ a1 ∧ a1 ≤ 2147483647) (K : ∀ (μ2 : eM) (v : Int), SI g μ2 → Fr l_326 0 0 g μ μ2 → (-2147483648 ≤ v ∧ v ≤ 2147483647) → ex_q (dt_fg L ρ) rc (d + 6, (f.1, f.2.1, f.2.2.1, eI v :: f.2.2.2), F, μ2)) : ex_q (dt_fg L ρ) rc (d + 5, (326, 0, [some (eR a0), some (eI (a1))], []), f :: F, μ) := by
  have F0 : Fr l_326 0 0 g μ μ := Fr.r
  refine w_t (np := 1) (l2 := [some (eR a0), some (eI (a1))]) (s2 := [eR a0]) rfl (s_an rfl (pos_g hI gA0 (by decide))) rfl ?_
  refine w_t (np := 2) (l2 := [some (eR a0), some (eI (a1))]) (s2 := [eR a0, eR a0]) rfl (s_an rfl (pos_g hI gA0 (by decide))) rfl ?_
  refine w_t (np := 3) (l2 := [some (eR a0), some (eI (a1))]) (s2 := [eI (a1), eR a0, eR a0]) rfl rfl rfl ?_
  refine w_cw (np := 6) (as := [eI (a1)]) (l2 := [some (eR a0), some (eI (a1))]) (rest := [eR a0]) rfl rfl rfl (Nat.ble_eq.mp rfl) rfl rfl rfl (hI.kd gA0 (by decide) (n := 69) rfl) rfl ?_
  refine s_325 (a1 := a1) hI gA0 (by omega) ?_
  intro m1 v4 I2 F3 b5
  have F6 : Fr l_326 0 0 g μ m1 := F0.t F3 rfl
  show ex_q (dt_fg L ρ) rc (d + 5, (326, 6, [some (eR a0), some (eI (a1))], [eI (v4), eR a0]), f :: F, m1)
  refine b_ieq (t1 := 13) (t2 := 9) rfl rfl rfl (ev_w_in (by omega) (by omega)) (fun g7 => ?_) (fun g7 => ?_)
  · have b8 : 0 ≤ v4 ∧ v4 ≤ 0 := by omega
    refine w_t (np := 14) (l2 := [some (eR a0), some (eI (a1))]) (s2 := [eI (2), eR a0]) rfl rfl rfl ?_
    refine w_cw (np := 17) (as := [eI (2)]) (l2 := [some (eR a0), some (eI (2))]) (rest := []) rfl rfl rfl (Nat.ble_eq.mp rfl) rfl rfl rfl (I2.kd gA0 (by decide) (n := 69) rfl) rfl ?_
    refine w_t (np := 1) (l2 := [some (eR a0), some (eI (2))]) (s2 := [eR a0]) rfl (s_an rfl (pos_g I2 gA0 (by decide))) rfl ?_
    refine w_t (np := 2) (l2 := [some (eR a0), some (eI (2))]) (s2 := [eI (0), eR a0]) rfl rfl rfl ?_
    refine j_pf (np := 5) (w := 0) rfl rfl I2 gA0 (by decide) (n := 69) rfl rfl (hO_i (lo := -2147483648) (hi := 2147483647) rfl (by decide)) ?_
    intro m8 I9 W10
    have F11 : Fr l_326 0 0 g μ m8 := F6.w W10 gA0 rfl
    refine w_t (np := 6) (l2 := [some (eR a0), some (eI (2))]) (s2 := [eR a0]) rfl (s_an rfl (pos_g I9 gA0 (by decide))) rfl ?_
    refine w_t (np := 7) (l2 := [some (eR a0), some (eI (2))]) (s2 := [eI (2), eR a0]) rfl rfl rfl ?_
    refine j_pf (np := 10) (w := 2) rfl rfl I9 gA0 (by decide) (n := 69) rfl rfl (hO_i (lo := -2147483648) (hi := 2147483647) rfl (by decide)) ?_
    intro m12 I13 W14
    have F15 : Fr l_326 0 0 g μ m12 := F11.w W14 gA0 rfl
    refine w_t (np := 11) (l2 := [some (eR a0), some (eI (2))]) (s2 := [eI (2)]) rfl rfl rfl ?_
    refine b_ine (t1 := 18) (t2 := 14) rfl rfl rfl rfl (fun g16 => ?_) (fun g16 => absurd g16 (by decide))
    refine w_t (np := 19) (l2 := [some (eR a0), some (eI (2))]) (s2 := [eI (0)]) rfl rfl rfl ?_
    refine b_rz rfl rfl (Or.inl rfl) ?_
    show ex_q (dt_fg L ρ) rc (d + 5, (326, 17, [some (eR a0), some (eI (a1))], [eI (0)]), f :: F, m12)
    refine b_ine (t1 := 22) (t2 := 20) rfl rfl rfl rfl (fun g17 => absurd g17 (by decide)) (fun g17 => ?_)
    refine w_t (np := 21) (l2 := [some (eR a0), some (eI (a1))]) (s2 := [eI (-1)]) rfl rfl rfl ?_
    exact b_ri rfl rfl (K m12 (-1) I13 F15 (by decide))
  · have b8 : 1 ≤ v4 ∧ v4 ≤ 1 := by omega
    refine w_t (np := 10) (l2 := [some (eR a0), some (eI (a1))]) (s2 := [eI (0), eR a0]) rfl rfl rfl ?_
    refine w_go (t1 := 14) rfl rfl ?_
    refine w_cw (np := 17) (as := [eI (0)]) (l2 := [some (eR a0), some (eI (0))]) (rest := []) rfl rfl rfl (Nat.ble_eq.mp rfl) rfl rfl rfl (I2.kd gA0 (by decide) (n := 69) rfl) rfl ?_
    refine w_t (np := 1) (l2 := [some (eR a0), some (eI (0))]) (s2 := [eR a0]) rfl (s_an rfl (pos_g I2 gA0 (by decide))) rfl ?_
    refine w_t (np := 2) (l2 := [some (eR a0), some (eI (0))]) (s2 := [eI (0), eR a0]) rfl rfl rfl ?_
    refine j_pf (np := 5) (w := 0) rfl rfl I2 gA0 (by decide) (n := 69) rfl rfl (hO_i (lo := -2147483648) (hi := 2147483647) rfl (by decide)) ?_
    intro m8 I9 W10
    have F11 : Fr l_326 0 0 g μ m8 := F6.w W10 gA0 rfl
    refine w_t (np := 6) (l2 := [some (eR a0), some (eI (0))]) (s2 := [eR a0]) rfl (s_an rfl (pos_g I9 gA0 (by decide))) rfl ?_
    refine w_t (np := 7) (l2 := [some (eR a0), some (eI (0))]) (s2 := [eI (0), eR a0]) rfl rfl rfl ?_
    refine j_pf (np := 10) (w := 0) rfl rfl I9 gA0 (by decide) (n := 69) rfl rfl (hO_i (lo := -2147483648) (hi := 2147483647) rfl (by decide)) ?_
    intro m12 I13 W14
    have F15 : Fr l_326 0 0 g μ m12 := F11.w W14 gA0 rfl
    refine w_t (np := 11) (l2 := [some (eR a0), some (eI (0))]) (s2 := [eI (0)]) rfl rfl rfl ?_
    refine b_ine (t1 := 18) (t2 := 14) rfl rfl rfl rfl (fun g16 => absurd g16 (by decide)) (fun g16 => ?_)
    refine w_t (np := 15) (l2 := [some (eR a0), some (eI (0))]) (s2 := [eI (1)]) rfl rfl rfl ?_
    refine w_go (t1 := 19) rfl rfl ?_
    refine b_rz rfl rfl (Or.inr rfl) ?_
    show ex_q (dt_fg L ρ) rc (d + 5, (326, 17, [some (eR a0), some (eI (a1))], [eI (1)]), f :: F, m12)
    refine b_ine (t1 := 22) (t2 := 20) rfl rfl rfl rfl (fun g17 => ?_) (fun g17 => absurd g17 (by decide))
    refine w_t (np := 23) (l2 := [some (eR a0), some (eI (a1))]) (s2 := [eR a0]) rfl (s_an rfl (pos_g I13 gA0 (by decide))) rfl ?_
    refine w_t (np := 24) (l2 := [some (eR a0), some (eI (a1))]) (s2 := [eI (a1), eR a0]) rfl rfl rfl ?_
    refine w_cw (np := 27) (as := [eI (a1)]) (l2 := [some (eR a0), some (eI (a1)), none, none, none, none, none, none, none, none, none]) (rest := []) rfl rfl rfl (Nat.ble_eq.mp rfl) rfl rfl rfl (I13.kd gA0 (by decide) (n := 69) rfl) rfl ?_
    refine s_323 (a1 := a1) I13 gA0 (by omega) ?_
    intro m18 I19 F20
    have F21 : Fr l_326 0 0 g μ m18 := F15.t F20 rfl
    show ex_q (dt_fg L ρ) rc (d + 5, (326, 27, [some (eR a0), some (eI (a1))], []), f :: F, m18)
    refine w_t (np := 28) (l2 := [some (eR a0), some (eI (a1))]) (s2 := [eR a0]) rfl (s_an rfl (pos_g I19 gA0 (by decide))) rfl ?_
    refine w_cw (np := 31) (as := []) (l2 := [some (eR a0), none, none]) (rest := []) rfl rfl rfl (Nat.ble_eq.mp rfl) rfl rfl rfl (I19.kd gA0 (by decide) (n := 69) rfl) rfl ?_
    refine s_324 I19 gA0 ?_
    intro v22 b23
    show ex_q (dt_fg L ρ) rc (d + 5, (326, 31, [some (eR a0), some (eI (a1))], [eI (v22)]), f :: F, m18)
    exact b_ri rfl rfl (K m18 (v22) I19 F21 (by omega))
def l_328 : List Nat := [13313, 13314, 13363, 22016, 21760, 21248, 20992, 20736]
theorem s_328 {L : Nat} {ρ : Nat → Int} {rc : eQ} {d : Nat} {f : eFr} {F : List eFr} {μ : eM} {g : Nat → Nat} {a0 : Nat} {a1 : Int} {a2 : Int} (hI : SI g μ) (gA0 : g a0 = 52) (bA1 : -2147483648 ≤ a1 ∧ a1 ≤ 2147483647) (bA2 : -2147483648 ≤ a2 ∧ a2 ≤ 2147483647) (K : ∀ (μ2 : eM) (v : Int), SI g μ2 → Fr l_328 0 0 g μ μ2 → (-2147483648 ≤ v ∧ v ≤ 2147483647) → ex_q (dt_fg L ρ) rc (d + 6, (f.1, f.2.1, f.2.2.1, eI v :: f.2.2.2), F, μ2)) : ex_q (dt_fg L ρ) rc (d + 5, (328, 0, [some (eR a0), some (eI (a1)), some (eI (a2)), none, none, none, none], []), f :: F, μ) := by
  have F0 : Fr l_328 0 0 g μ μ := Fr.r
  refine w_t (np := 1) (l2 := [some (eR a0), some (eI (a1)), some (eI (a2)), none, none, none, none]) (s2 := [eR a0]) rfl (s_an rfl (pos_g hI gA0 (by decide))) rfl ?_
  refine w_t (np := 2) (l2 := [some (eR a0), some (eI (a1)), some (eI (a2)), none, none, none, none]) (s2 := [eI (a2), eR a0]) rfl rfl rfl ?_
  refine w_t (np := 3) (l2 := [some (eR a0), some (eI (a1)), some (eI (a2)), none, none, none, none]) (s2 := [eI (0), eI (a2), eR a0]) rfl rfl rfl ?_
  refine w_t (np := 4) (l2 := [some (eR a0), some (eI (a1)), some (eI (a2)), none, none, none, none]) (s2 := [eI (1), eI (0), eI (a2), eR a0]) rfl rfl rfl ?_
  refine w_cu (np := 7) (as := [eI (a2), eI (0), eI (1)]) (l2 := [some (eI (a2)), some (eI (0)), some (eI (1))]) (rest := [eR a0]) rfl rfl rfl (Nat.ble_eq.mp rfl) rfl rfl rfl rfl ?_
  refine w_t (np := 1) (l2 := [some (eI (a2)), some (eI (0)), some (eI (1))]) (s2 := [eI (a2)]) rfl rfl rfl ?_
  refine w_t (np := 2) (l2 := [some (eI (a2)), some (eI (0)), some (eI (1))]) (s2 := [eI (0), eI (a2)]) rfl rfl rfl ?_
  refine b_clt (t1 := 14) (t2 := 5) rfl rfl rfl (ev_w_in (by omega) (by omega)) rfl (fun g1 => ?_) (fun g1 => ?_)
  · have b2 : -2147483648 ≤ a2 ∧ a2 ≤ -1 := by omega
    refine w_t (np := 15) (l2 := [some (eI (a2)), some (eI (0)), some (eI (1))]) (s2 := [eI (0)]) rfl rfl rfl ?_
    refine b_rz rfl rfl (Or.inl rfl) ?_
    show ex_q (dt_fg L ρ) rc (d + 5, (328, 7, [some (eR a0), some (eI (a1)), some (eI (a2)), none, none, none, none], [eI (0), eR a0]), f :: F, μ)
    refine b_ine (t1 := 14) (t2 := 10) rfl rfl rfl rfl (fun g2 => absurd g2 (by decide)) (fun g2 => ?_)
    refine w_t (np := 11) (l2 := [some (eR a0), some (eI (a1)), some (eI (a2)), none, none, none, none]) (s2 := [eI (1), eR a0]) rfl rfl rfl ?_
    refine w_go (t1 := 27) rfl rfl ?_
    refine w_cw (np := 30) (as := [eI (1)]) (l2 := [some (eR a0), some (eI (1))]) (rest := []) rfl rfl rfl (Nat.ble_eq.mp rfl) rfl rfl rfl (hI.kd gA0 (by decide) (n := 69) rfl) rfl ?_
    refine w_t (np := 1) (l2 := [some (eR a0), some (eI (1))]) (s2 := [eR a0]) rfl (s_an rfl (pos_g hI gA0 (by decide))) rfl ?_
    refine w_t (np := 2) (l2 := [some (eR a0), some (eI (1))]) (s2 := [eI (0), eR a0]) rfl rfl rfl ?_
    refine j_pf (np := 5) (w := 0) rfl rfl hI gA0 (by decide) (n := 69) rfl rfl (hO_i (lo := -2147483648) (hi := 2147483647) rfl (by decide)) ?_
    intro m3 I4 W5
    have F6 : Fr l_328 0 0 g μ m3 := F0.w W5 gA0 rfl
    refine w_t (np := 6) (l2 := [some (eR a0), some (eI (1))]) (s2 := [eR a0]) rfl (s_an rfl (pos_g I4 gA0 (by decide))) rfl ?_
    refine w_t (np := 7) (l2 := [some (eR a0), some (eI (1))]) (s2 := [eI (1), eR a0]) rfl rfl rfl ?_
    refine j_pf (np := 10) (w := 1) rfl rfl I4 gA0 (by decide) (n := 69) rfl rfl (hO_i (lo := -2147483648) (hi := 2147483647) rfl (by decide)) ?_
    intro m7 I8 W9
    have F10 : Fr l_328 0 0 g μ m7 := F6.w W9 gA0 rfl
    refine w_t (np := 11) (l2 := [some (eR a0), some (eI (1))]) (s2 := [eI (1)]) rfl rfl rfl ?_
    refine b_ine (t1 := 18) (t2 := 14) rfl rfl rfl rfl (fun g11 => ?_) (fun g11 => absurd g11 (by decide))
    refine w_t (np := 19) (l2 := [some (eR a0), some (eI (1))]) (s2 := [eI (0)]) rfl rfl rfl ?_
    refine b_rz rfl rfl (Or.inl rfl) ?_
    show ex_q (dt_fg L ρ) rc (d + 5, (328, 30, [some (eR a0), some (eI (a1)), some (eI (a2)), none, none, none, none], [eI (0)]), f :: F, m7)
    refine b_ine (t1 := 35) (t2 := 33) rfl rfl rfl rfl (fun g12 => absurd g12 (by decide)) (fun g12 => ?_)
    refine w_t (np := 34) (l2 := [some (eR a0), some (eI (a1)), some (eI (a2)), none, none, none, none]) (s2 := [eI (-1)]) rfl rfl rfl ?_
    exact b_ri rfl rfl (K m7 (-1) I8 F10 (by decide))
  · have b2 : 0 ≤ a2 ∧ a2 ≤ 2147483647 := by omega
    refine w_t (np := 6) (l2 := [some (eI (a2)), some (eI (0)), some (eI (1))]) (s2 := [eI (a2)]) rfl rfl rfl ?_
    refine w_t (np := 7) (l2 := [some (eI (a2)), some (eI (0)), some (eI (1))]) (s2 := [eI (1), eI (a2)]) rfl rfl rfl ?_
    refine b_cgt (t1 := 14) (t2 := 10) rfl rfl rfl (ev_w_in (by omega) (by omega)) rfl (fun g2 => ?_) (fun g2 => ?_)
    · have b3 : 2 ≤ a2 ∧ a2 ≤ 2147483647 := by omega
      refine w_t (np := 15) (l2 := [some (eI (a2)), some (eI (0)), some (eI (1))]) (s2 := [eI (0)]) rfl rfl rfl ?_
      refine b_rz rfl rfl (Or.inl rfl) ?_
      show ex_q (dt_fg L ρ) rc (d + 5, (328, 7, [some (eR a0), some (eI (a1)), some (eI (a2)), none, none, none, none], [eI (0), eR a0]), f :: F, μ)
      refine b_ine (t1 := 14) (t2 := 10) rfl rfl rfl rfl (fun g3 => absurd g3 (by decide)) (fun g3 => ?_)
      refine w_t (np := 11) (l2 := [some (eR a0), some (eI (a1)), some (eI (a2)), none, none, none, none]) (s2 := [eI (1), eR a0]) rfl rfl rfl ?_
      refine w_go (t1 := 27) rfl rfl ?_
      refine w_cw (np := 30) (as := [eI (1)]) (l2 := [some (eR a0), some (eI (1))]) (rest := []) rfl rfl rfl (Nat.ble_eq.mp rfl) rfl rfl rfl (hI.kd gA0 (by decide) (n := 69) rfl) rfl ?_
      refine w_t (np := 1) (l2 := [some (eR a0), some (eI (1))]) (s2 := [eR a0]) rfl (s_an rfl (pos_g hI gA0 (by decide))) rfl ?_
      refine w_t (np := 2) (l2 := [some (eR a0), some (eI (1))]) (s2 := [eI (0), eR a0]) rfl rfl rfl ?_
      refine j_pf (np := 5) (w := 0) rfl rfl hI gA0 (by decide) (n := 69) rfl rfl (hO_i (lo := -2147483648) (hi := 2147483647) rfl (by decide)) ?_
      intro m4 I5 W6
      have F7 : Fr l_328 0 0 g μ m4 := F0.w W6 gA0 rfl
      refine w_t (np := 6) (l2 := [some (eR a0), some (eI (1))]) (s2 := [eR a0]) rfl (s_an rfl (pos_g I5 gA0 (by decide))) rfl ?_
      refine w_t (np := 7) (l2 := [some (eR a0), some (eI (1))]) (s2 := [eI (1), eR a0]) rfl rfl rfl ?_
      refine j_pf (np := 10) (w := 1) rfl rfl I5 gA0 (by decide) (n := 69) rfl rfl (hO_i (lo := -2147483648) (hi := 2147483647) rfl (by decide)) ?_
      intro m8 I9 W10
      have F11 : Fr l_328 0 0 g μ m8 := F7.w W10 gA0 rfl
      refine w_t (np := 11) (l2 := [some (eR a0), some (eI (1))]) (s2 := [eI (1)]) rfl rfl rfl ?_
      refine b_ine (t1 := 18) (t2 := 14) rfl rfl rfl rfl (fun g12 => ?_) (fun g12 => absurd g12 (by decide))
      refine w_t (np := 19) (l2 := [some (eR a0), some (eI (1))]) (s2 := [eI (0)]) rfl rfl rfl ?_
      refine b_rz rfl rfl (Or.inl rfl) ?_
      show ex_q (dt_fg L ρ) rc (d + 5, (328, 30, [some (eR a0), some (eI (a1)), some (eI (a2)), none, none, none, none], [eI (0)]), f :: F, m8)
      refine b_ine (t1 := 35) (t2 := 33) rfl rfl rfl rfl (fun g13 => absurd g13 (by decide)) (fun g13 => ?_)
      refine w_t (np := 34) (l2 := [some (eR a0), some (eI (a1)), some (eI (a2)), none, none, none, none]) (s2 := [eI (-1)]) rfl rfl rfl ?_
      exact b_ri rfl rfl (K m8 (-1) I9 F11 (by decide))
    · have b3 : 0 ≤ a2 ∧ a2 ≤ 1 := by omega
      refine w_t (np := 11) (l2 := [some (eI (a2)), some (eI (0)), some (eI (1))]) (s2 := [eI (1)]) rfl rfl rfl ?_
      refine w_go (t1 := 15) rfl rfl ?_
      refine b_rz rfl rfl (Or.inr rfl) ?_
      show ex_q (dt_fg L ρ) rc (d + 5, (328, 7, [some (eR a0), some (eI (a1)), some (eI (a2)), none, none, none, none], [eI (1), eR a0]), f :: F, μ)
      refine b_ine (t1 := 14) (t2 := 10) rfl rfl rfl rfl (fun g3 => ?_) (fun g3 => absurd g3 (by decide))
      refine w_t (np := 15) (l2 := [some (eR a0), some (eI (a1)), some (eI (a2)), none, none, none, none]) (s2 := [eR a0, eR a0]) rfl (s_an rfl (pos_g hI gA0 (by decide))) rfl ?_
      refine w_t (np := 16) (l2 := [some (eR a0), some (eI (a1)), some (eI (a2)), none, none, none, none]) (s2 := [eI (a1), eR a0, eR a0]) rfl rfl rfl ?_
      refine w_cw (np := 19) (as := [eI (a1)]) (l2 := [some (eR a0), some (eI (a1))]) (rest := [eR a0]) rfl rfl rfl (Nat.ble_eq.mp rfl) rfl rfl rfl (hI.kd gA0 (by decide) (n := 69) rfl) rfl ?_
      refine s_325 (a1 := a1) hI gA0 (by omega) ?_
      intro m4 v7 I5 F6 b8
      have F9 : Fr l_328 0 0 g μ m4 := F0.t F6 rfl
      show ex_q (dt_fg L ρ) rc (d + 5, (328, 19, [some (eR a0), some (eI (a1)), some (eI (a2)), none, none, none, none], [eI (v7), eR a0]), f :: F, m4)
      refine b_ieq (t1 := 26) (t2 := 22) rfl rfl rfl (ev_w_in (by omega) (by omega)) (fun g10 => ?_) (fun g10 => ?_)
      · have b11 : 0 ≤ v7 ∧ v7 ≤ 0 := by omega
        refine w_t (np := 27) (l2 := [some (eR a0), some (eI (a1)), some (eI (a2)), none, none, none, none]) (s2 := [eI (2), eR a0]) rfl rfl rfl ?_
        refine w_cw (np := 30) (as := [eI (2)]) (l2 := [some (eR a0), some (eI (2))]) (rest := []) rfl rfl rfl (Nat.ble_eq.mp rfl) rfl rfl rfl (I5.kd gA0 (by decide) (n := 69) rfl) rfl ?_
        refine w_t (np := 1) (l2 := [some (eR a0), some (eI (2))]) (s2 := [eR a0]) rfl (s_an rfl (pos_g I5 gA0 (by decide))) rfl ?_
        refine w_t (np := 2) (l2 := [some (eR a0), some (eI (2))]) (s2 := [eI (0), eR a0]) rfl rfl rfl ?_
        refine j_pf (np := 5) (w := 0) rfl rfl I5 gA0 (by decide) (n := 69) rfl rfl (hO_i (lo := -2147483648) (hi := 2147483647) rfl (by decide)) ?_
        intro m11 I12 W13
        have F14 : Fr l_328 0 0 g μ m11 := F9.w W13 gA0 rfl
        refine w_t (np := 6) (l2 := [some (eR a0), some (eI (2))]) (s2 := [eR a0]) rfl (s_an rfl (pos_g I12 gA0 (by decide))) rfl ?_
        refine w_t (np := 7) (l2 := [some (eR a0), some (eI (2))]) (s2 := [eI (2), eR a0]) rfl rfl rfl ?_
        refine j_pf (np := 10) (w := 2) rfl rfl I12 gA0 (by decide) (n := 69) rfl rfl (hO_i (lo := -2147483648) (hi := 2147483647) rfl (by decide)) ?_
        intro m15 I16 W17
        have F18 : Fr l_328 0 0 g μ m15 := F14.w W17 gA0 rfl
        refine w_t (np := 11) (l2 := [some (eR a0), some (eI (2))]) (s2 := [eI (2)]) rfl rfl rfl ?_
        refine b_ine (t1 := 18) (t2 := 14) rfl rfl rfl rfl (fun g19 => ?_) (fun g19 => absurd g19 (by decide))
        refine w_t (np := 19) (l2 := [some (eR a0), some (eI (2))]) (s2 := [eI (0)]) rfl rfl rfl ?_
        refine b_rz rfl rfl (Or.inl rfl) ?_
        show ex_q (dt_fg L ρ) rc (d + 5, (328, 30, [some (eR a0), some (eI (a1)), some (eI (a2)), none, none, none, none], [eI (0)]), f :: F, m15)
        refine b_ine (t1 := 35) (t2 := 33) rfl rfl rfl rfl (fun g20 => absurd g20 (by decide)) (fun g20 => ?_)
        refine w_t (np := 34) (l2 := [some (eR a0), some (eI (a1)), some (eI (a2)), none, none, none, none]) (s2 := [eI (-1)]) rfl rfl rfl ?_
        exact b_ri rfl rfl (K m15 (-1) I16 F18 (by decide))
      · have b11 : 1 ≤ v7 ∧ v7 ≤ 1 := by omega
        refine w_t (np := 23) (l2 := [some (eR a0), some (eI (a1)), some (eI (a2)), none, none, none, none]) (s2 := [eI (0), eR a0]) rfl rfl rfl ?_
        refine w_go (t1 := 27) rfl rfl ?_
        refine w_cw (np := 30) (as := [eI (0)]) (l2 := [some (eR a0), some (eI (0))]) (rest := []) rfl rfl rfl (Nat.ble_eq.mp rfl) rfl rfl rfl (I5.kd gA0 (by decide) (n := 69) rfl) rfl ?_
        refine w_t (np := 1) (l2 := [some (eR a0), some (eI (0))]) (s2 := [eR a0]) rfl (s_an rfl (pos_g I5 gA0 (by decide))) rfl ?_
        refine w_t (np := 2) (l2 := [some (eR a0), some (eI (0))]) (s2 := [eI (0), eR a0]) rfl rfl rfl ?_
        refine j_pf (np := 5) (w := 0) rfl rfl I5 gA0 (by decide) (n := 69) rfl rfl (hO_i (lo := -2147483648) (hi := 2147483647) rfl (by decide)) ?_
        intro m11 I12 W13
        have F14 : Fr l_328 0 0 g μ m11 := F9.w W13 gA0 rfl
        refine w_t (np := 6) (l2 := [some (eR a0), some (eI (0))]) (s2 := [eR a0]) rfl (s_an rfl (pos_g I12 gA0 (by decide))) rfl ?_
        refine w_t (np := 7) (l2 := [some (eR a0), some (eI (0))]) (s2 := [eI (0), eR a0]) rfl rfl rfl ?_
        refine j_pf (np := 10) (w := 0) rfl rfl I12 gA0 (by decide) (n := 69) rfl rfl (hO_i (lo := -2147483648) (hi := 2147483647) rfl (by decide)) ?_
        intro m15 I16 W17
        have F18 : Fr l_328 0 0 g μ m15 := F14.w W17 gA0 rfl
        refine w_t (np := 11) (l2 := [some (eR a0), some (eI (0))]) (s2 := [eI (0)]) rfl rfl rfl ?_
        refine b_ine (t1 := 18) (t2 := 14) rfl rfl rfl rfl (fun g19 => absurd g19 (by decide)) (fun g19 => ?_)
        refine w_t (np := 15) (l2 := [some (eR a0), some (eI (0))]) (s2 := [eI (1)]) rfl rfl rfl ?_
        refine w_go (t1 := 19) rfl rfl ?_
        refine b_rz rfl rfl (Or.inr rfl) ?_
        show ex_q (dt_fg L ρ) rc (d + 5, (328, 30, [some (eR a0), some (eI (a1)), some (eI (a2)), none, none, none, none], [eI (1)]), f :: F, m15)
        refine b_ine (t1 := 35) (t2 := 33) rfl rfl rfl rfl (fun g20 => ?_) (fun g20 => absurd g20 (by decide))
        refine w_t (np := 36) (l2 := [some (eR a0), some (eI (a1)), some (eI (a2)), none, none, none, none]) (s2 := [eR a0]) rfl (s_an rfl (pos_g I16 gA0 (by decide))) rfl ?_
        refine w_t (np := 37) (l2 := [some (eR a0), some (eI (a1)), some (eI (a2)), none, none, none, none]) (s2 := [eI (a1), eR a0]) rfl rfl rfl ?_
        refine w_cw (np := 40) (as := [eI (a1)]) (l2 := [some (eR a0), some (eI (a1)), none, none, none, none, none, none, none, none, none]) (rest := []) rfl rfl rfl (Nat.ble_eq.mp rfl) rfl rfl rfl (I16.kd gA0 (by decide) (n := 69) rfl) rfl ?_
        refine s_323 (a1 := a1) I16 gA0 (by omega) ?_
        intro m21 I22 F23
        have F24 : Fr l_328 0 0 g μ m21 := F18.t F23 rfl
        show ex_q (dt_fg L ρ) rc (d + 5, (328, 40, [some (eR a0), some (eI (a1)), some (eI (a2)), none, none, none, none], []), f :: F, m21)
        refine w_t (np := 41) (l2 := [some (eR a0), some (eI (a1)), some (eI (a2)), none, none, none, none]) (s2 := [eI (0)]) rfl rfl rfl ?_
        refine w_t (np := 42) (l2 := [some (eR a0), some (eI (a1)), some (eI (a2)), some (eI (0)), none, none, none]) (s2 := []) rfl rfl rfl ?_
        refine w_t (np := 43) (l2 := [some (eR a0), some (eI (a1)), some (eI (a2)), some (eI (0)), none, none, none]) (s2 := [eI (0)]) rfl rfl rfl ?_
        refine w_t (np := 45) (l2 := [some (eR a0), some (eI (a1)), some (eI (a2)), some (eI (0)), some (eI (0)), none, none]) (s2 := []) rfl rfl rfl ?_
        refine w_t (np := 46) (l2 := [some (eR a0), some (eI (a1)), some (eI (a2)), some (eI (0)), some (eI (0)), none, none]) (s2 := [eI (0)]) rfl rfl rfl ?_
        refine w_t (np := 48) (l2 := [some (eR a0), some (eI (a1)), some (eI (a2)), some (eI (0)), some (eI (0)), some (eI (0)), none]) (s2 := []) rfl rfl rfl ?_
        have hL48 : ∀ (n25 : Nat) (m34 : eM) (i27 : Int) (i29 : Int) (i31 : Int) (o33 : Option eV), SI g m34 → Fr l_328 0 0 g μ m34 → (-2147483648 ≤ i27 ∧ i27 ≤ 2147483647) → (0 ≤ i29 ∧ i29 ≤ 2147483647) → (0 ≤ i31 ∧ i31 ≤ 10) → m34.1 a0 1 = 0 → m34.1 a0 0 = 0 → n25 = (10 - i31).toNat → ex_q (dt_fg L ρ) rc (d + 5, (328, 48, [some (eR a0), some (eI (a1)), some (eI (a2)), some (eI (i27)), some (eI (i29)), some (eI (i31)), o33], []), f :: F, m34) := by
          intro n25
          induction n25 using Nat.strongRecOn with
          | _ n25 ih26 =>
          intro m34 i27 i29 i31 o33 I35 F36 b28 b30 b32 k37 k38 hn39
          refine w_t (np := 50) (l2 := [some (eR a0), some (eI (a1)), some (eI (a2)), some (eI (i27)), some (eI (i29)), some (eI (i31)), o33]) (s2 := [eI (i31)]) rfl rfl rfl ?_
          refine w_t (np := 52) (l2 := [some (eR a0), some (eI (a1)), some (eI (a2)), some (eI (i27)), some (eI (i29)), some (eI (i31)), o33]) (s2 := [eI (10), eI (i31)]) rfl rfl rfl ?_
          refine b_cge (t1 := 98) (t2 := 55) rfl rfl rfl (ev_w_in (by omega) (by omega)) rfl (fun g40 => ?_) (fun g40 => ?_)
          · have b41 : 10 ≤ i31 ∧ i31 ≤ 10 := by omega
            refine w_t (np := 99) (l2 := [some (eR a0), some (eI (a1)), some (eI (a2)), some (eI (i27)), some (eI (i29)), some (eI (i31)), o33]) (s2 := [eI (a2)]) rfl rfl rfl ?_
            refine b_ine (t1 := 106) (t2 := 102) rfl rfl rfl (ev_w_in (by omega) (by omega)) (fun g41 => ?_) (fun g41 => ?_)
            · have b42 : 1 ≤ a2 ∧ a2 ≤ 1 := by omega
              refine w_t (np := 108) (l2 := [some (eR a0), some (eI (a1)), some (eI (a2)), some (eI (i27)), some (eI (i29)), some (eI (i31)), o33]) (s2 := [eI (i29)]) rfl rfl rfl ?_
              exact b_ri rfl rfl (K m34 (i29) I35 F36 (by omega))
            · have b42 : 0 ≤ a2 ∧ a2 ≤ 0 := by omega
              refine w_t (np := 103) (l2 := [some (eR a0), some (eI (a1)), some (eI (a2)), some (eI (i27)), some (eI (i29)), some (eI (i31)), o33]) (s2 := [eI (i27)]) rfl rfl rfl ?_
              refine w_go (t1 := 108) rfl rfl ?_
              exact b_ri rfl rfl (K m34 (i27) I35 F36 (by omega))
          · have b41 : 0 ≤ i31 ∧ i31 ≤ 9 := by omega
            refine w_t (np := 56) (l2 := [some (eR a0), some (eI (a1)), some (eI (a2)), some (eI (i27)), some (eI (i29)), some (eI (i31)), o33]) (s2 := [eR a0]) rfl (s_an rfl (pos_g I35 gA0 (by decide))) rfl ?_
            refine w_t (np := 58) (l2 := [some (eR a0), some (eI (a1)), some (eI (a2)), some (eI (i27)), some (eI (i29)), some (eI (i31)), o33]) (s2 := [eI (i31), eR a0]) rfl rfl rfl ?_
            refine w_cw (np := 61) (as := [eI (i31)]) (l2 := [some (eR a0), some (eI (i31)), none]) (rest := []) rfl rfl rfl (Nat.ble_eq.mp rfl) rfl rfl rfl (I35.kd gA0 (by decide) (n := 69) rfl) rfl ?_
            refine s_327 (a1 := i31) I35 gA0 (by omega) ?_
            intro v41 b42
            show ex_q (dt_fg L ρ) rc (d + 5, (328, 61, [some (eR a0), some (eI (a1)), some (eI (a2)), some (eI (i27)), some (eI (i29)), some (eI (i31)), o33], [eI (v41)]), f :: F, m34)
            refine w_t (np := 63) (l2 := [some (eR a0), some (eI (a1)), some (eI (a2)), some (eI (i27)), some (eI (i29)), some (eI (i31)), some (eI (v41))]) (s2 := []) rfl rfl rfl ?_
            refine w_t (np := 64) (l2 := [some (eR a0), some (eI (a1)), some (eI (a2)), some (eI (i27)), some (eI (i29)), some (eI (i31)), some (eI (v41))]) (s2 := [eI (i27)]) rfl rfl rfl ?_
            refine w_t (np := 66) (l2 := [some (eR a0), some (eI (a1)), some (eI (a2)), some (eI (i27)), some (eI (i29)), some (eI (i31)), some (eI (v41))]) (s2 := [eI (v41), eI (i27)]) rfl rfl rfl ?_
            refine b_ile (t1 := 73) (t2 := 69) rfl rfl rfl (ev_w_in (by omega) (by omega)) (fun g43 => ?_) (fun g43 => ?_)
            · have b44 : 0 ≤ v41 ∧ v41 ≤ 0 := by omega
              refine w_t (np := 74) (l2 := [some (eR a0), some (eI (a1)), some (eI (a2)), some (eI (i27)), some (eI (i29)), some (eI (i31)), some (eI (v41))]) (s2 := [eI (0), eI (i27)]) rfl rfl rfl ?_
              refine w_t (np := 75) (l2 := [some (eR a0), some (eI (a1)), some (eI (a2)), some (eI (i27)), some (eI (i29)), some (eI (i31)), some (eI (v41))]) (s2 := [eI (i27)]) rfl (b_iadd (by rw [Int.add_zero]; exact ev_w_in (by omega) (by omega))) rfl ?_
              refine w_t (np := 76) (l2 := [some (eR a0), some (eI (a1)), some (eI (a2)), some (eI (i27)), some (eI (i29)), some (eI (i31)), some (eI (v41))]) (s2 := []) rfl rfl rfl ?_
              refine w_t (np := 78) (l2 := [some (eR a0), some (eI (a1)), some (eI (a2)), some (eI (i27)), some (eI (i29)), some (eI (i31)), some (eI (v41))]) (s2 := [eI (v41)]) rfl rfl rfl ?_
              refine w_t (np := 80) (l2 := [some (eR a0), some (eI (a1)), some (eI (a2)), some (eI (i27)), some (eI (i29)), some (eI (i31)), some (eI (v41))]) (s2 := [eI (i29), eI (v41)]) rfl rfl rfl ?_
              refine b_cle (t1 := 88) (t2 := 83) rfl rfl rfl (ev_w_in (by omega) (by omega)) (ev_w_in (by omega) (by omega)) (fun g44 => ?_) (fun g44 => False.elim (by omega))
              refine w_t (np := 90) (l2 := [some (eR a0), some (eI (a1)), some (eI (a2)), some (eI (i27)), some (eI (i29)), some (eI (i31)), some (eI (v41))]) (s2 := [eI (i29)]) rfl rfl rfl ?_
              refine w_t (np := 92) (l2 := [some (eR a0), some (eI (a1)), some (eI (a2)), some (eI (i27)), some (eI (i29)), some (eI (i31)), some (eI (v41))]) (s2 := []) rfl rfl rfl ?_
              obtain ⟨v45, e46⟩ : ∃ zz : Int, zz = (i31) + (1) := ⟨_, rfl⟩
              have b47 : 1 ≤ v45 ∧ v45 ≤ 10 := by omega
              refine w_t (np := 95) (l2 := [some (eR a0), some (eI (a1)), some (eI (a2)), some (eI (i27)), some (eI (i29)), some (eI (v45)), some (eI (v41))]) (s2 := []) rfl (b_iinc rfl (by rw [← e46]; exact ev_w_in (by omega) (by omega)) rfl) rfl ?_
              refine w_go (t1 := 48) rfl rfl ?_
              exact ih26 (10 - (v45)).toNat (by omega) m34 (i27) (i29) (v45) (some (eI (v41))) I35 F36 (by omega) (by omega) (by omega) k37 k38    rfl
            · have b44 : 1 ≤ v41 ∧ v41 ≤ 9 := by omega
              refine w_t (np := 70) (l2 := [some (eR a0), some (eI (a1)), some (eI (a2)), some (eI (i27)), some (eI (i29)), some (eI (i31)), some (eI (v41))]) (s2 := [eI (1), eI (i27)]) rfl rfl rfl ?_
              refine w_go (t1 := 74) rfl rfl ?_
              obtain ⟨v44, e45, b46⟩ : ∃ zz : Int, ev_w ((i27) + (1)) = zz ∧ (-2147483648 ≤ zz ∧ zz ≤ 2147483647) := ⟨_, rfl, hw_bd _⟩
              refine w_t (np := 75) (l2 := [some (eR a0), some (eI (a1)), some (eI (a2)), some (eI (i27)), some (eI (i29)), some (eI (i31)), some (eI (v41))]) (s2 := [eI (v44)]) rfl (b_iadd e45) rfl ?_
              refine w_t (np := 76) (l2 := [some (eR a0), some (eI (a1)), some (eI (a2)), some (eI (v44)), some (eI (i29)), some (eI (i31)), some (eI (v41))]) (s2 := []) rfl rfl rfl ?_
              refine w_t (np := 78) (l2 := [some (eR a0), some (eI (a1)), some (eI (a2)), some (eI (v44)), some (eI (i29)), some (eI (i31)), some (eI (v41))]) (s2 := [eI (v41)]) rfl rfl rfl ?_
              refine w_t (np := 80) (l2 := [some (eR a0), some (eI (a1)), some (eI (a2)), some (eI (v44)), some (eI (i29)), some (eI (i31)), some (eI (v41))]) (s2 := [eI (i29), eI (v41)]) rfl rfl rfl ?_
              refine b_cle (t1 := 88) (t2 := 83) rfl rfl rfl (ev_w_in (by omega) (by omega)) (ev_w_in (by omega) (by omega)) (fun g47 => ?_) (fun g47 => ?_)
              · have b48 : 1 ≤ i29 ∧ i29 ≤ 2147483647 := by omega
                refine w_t (np := 90) (l2 := [some (eR a0), some (eI (a1)), some (eI (a2)), some (eI (v44)), some (eI (i29)), some (eI (i31)), some (eI (v41))]) (s2 := [eI (i29)]) rfl rfl rfl ?_
                refine w_t (np := 92) (l2 := [some (eR a0), some (eI (a1)), some (eI (a2)), some (eI (v44)), some (eI (i29)), some (eI (i31)), some (eI (v41))]) (s2 := []) rfl rfl rfl ?_
                obtain ⟨v48, e49⟩ : ∃ zz : Int, zz = (i31) + (1) := ⟨_, rfl⟩
                have b50 : 1 ≤ v48 ∧ v48 ≤ 10 := by omega
                refine w_t (np := 95) (l2 := [some (eR a0), some (eI (a1)), some (eI (a2)), some (eI (v44)), some (eI (i29)), some (eI (v48)), some (eI (v41))]) (s2 := []) rfl (b_iinc rfl (by rw [← e49]; exact ev_w_in (by omega) (by omega)) rfl) rfl ?_
                refine w_go (t1 := 48) rfl rfl ?_
                exact ih26 (10 - (v48)).toNat (by omega) m34 (v44) (i29) (v48) (some (eI (v41))) I35 F36 (by omega) (by omega) (by omega) k37 k38    rfl
              · have b48 : 0 ≤ i29 ∧ i29 ≤ 8 := by omega
                refine w_t (np := 85) (l2 := [some (eR a0), some (eI (a1)), some (eI (a2)), some (eI (v44)), some (eI (i29)), some (eI (i31)), some (eI (v41))]) (s2 := [eI (v41)]) rfl rfl rfl ?_
                refine w_go (t1 := 90) rfl rfl ?_
                refine w_t (np := 92) (l2 := [some (eR a0), some (eI (a1)), some (eI (a2)), some (eI (v44)), some (eI (v41)), some (eI (i31)), some (eI (v41))]) (s2 := []) rfl rfl rfl ?_
                obtain ⟨v48, e49⟩ : ∃ zz : Int, zz = (i31) + (1) := ⟨_, rfl⟩
                have b50 : 1 ≤ v48 ∧ v48 ≤ 10 := by omega
                refine w_t (np := 95) (l2 := [some (eR a0), some (eI (a1)), some (eI (a2)), some (eI (v44)), some (eI (v41)), some (eI (v48)), some (eI (v41))]) (s2 := []) rfl (b_iinc rfl (by rw [← e49]; exact ev_w_in (by omega) (by omega)) rfl) rfl ?_
                refine w_go (t1 := 48) rfl rfl ?_
                exact ih26 (10 - (v48)).toNat (by omega) m34 (v44) (v41) (v48) (some (eI (v41))) I35 F36 (by omega) (by omega) (by omega) k37 k38    rfl
        exact hL48 _ m21 (0) (0) (0) (none) I22 F24 (by decide) (by decide) (by decide) (F23.k (W17.slot W13.at (by decide)) gA0 (by decide) rfl) (F23.k W17.at gA0 (by decide) rfl)    rfl
def l_331 : List Nat := [13313, 13314, 13363, 22016, 21760, 21248, 20992, 20736]
theorem s_331 {L : Nat} {ρ : Nat → Int} {rc : eQ} {d : Nat} {f : eFr} {F : List eFr} {μ : eM} {g : Nat → Nat} {a0 : Nat} {a1 : Int} (hI : SI g μ) (gA0 : g a0 = 52) (bA1 : -2147483648 ≤ a1 ∧ a1 ≤ 2147483647) (K : ∀ (μ2 : eM) (v : Int), SI g μ2 → Fr l_331 0 0 g μ μ2 → (-2147483648 ≤ v ∧ v ≤ 2147483647) → ex_q (dt_fg L ρ) rc (d + 12, (f.1, f.2.1, f.2.2.1, eI v :: f.2.2.2), F, μ2)) : ex_q (dt_fg L ρ) rc (d + 11, (331, 0, [some (eR a0), some (eI (a1))], []), f :: F, μ) := by
  have F0 : Fr l_331 0 0 g μ μ := Fr.r
  refine w_t (np := 1) (l2 := [some (eR a0), some (eI (a1))]) (s2 := [eR a0]) rfl (s_an rfl (pos_g hI gA0 (by decide))) rfl ?_
  refine w_t (np := 2) (l2 := [some (eR a0), some (eI (a1))]) (s2 := [eR a0, eR a0]) rfl (s_an rfl (pos_g hI gA0 (by decide))) rfl ?_
  refine w_t (np := 3) (l2 := [some (eR a0), some (eI (a1))]) (s2 := [eI (a1), eR a0, eR a0]) rfl rfl rfl ?_
  refine w_cw (np := 6) (as := [eI (a1)]) (l2 := [some (eR a0), some (eI (a1))]) (rest := [eR a0]) rfl rfl rfl (Nat.ble_eq.mp rfl) rfl rfl rfl (hI.kd gA0 (by decide) (n := 69) rfl) rfl ?_
  refine s_325 (a1 := a1) hI gA0 (by omega) ?_
  intro m1 v4 I2 F3 b5
  have F6 : Fr l_331 0 0 g μ m1 := F0.t F3 rfl
  show ex_q (dt_fg L ρ) rc (d + 11, (331, 6, [some (eR a0), some (eI (a1))], [eI (v4), eR a0]), f :: F, m1)
  refine b_ieq (t1 := 13) (t2 := 9) rfl rfl rfl (ev_w_in (by omega) (by omega)) (fun g7 => ?_) (fun g7 => ?_)
  · have b8 : 0 ≤ v4 ∧ v4 ≤ 0 := by omega
    refine w_t (np := 14) (l2 := [some (eR a0), some (eI (a1))]) (s2 := [eI (2), eR a0]) rfl rfl rfl ?_
    refine w_cw (np := 17) (as := [eI (2)]) (l2 := [some (eR a0), some (eI (2))]) (rest := []) rfl rfl rfl (Nat.ble_eq.mp rfl) rfl rfl rfl (I2.kd gA0 (by decide) (n := 69) rfl) rfl ?_
    refine w_t (np := 1) (l2 := [some (eR a0), some (eI (2))]) (s2 := [eR a0]) rfl (s_an rfl (pos_g I2 gA0 (by decide))) rfl ?_
    refine w_t (np := 2) (l2 := [some (eR a0), some (eI (2))]) (s2 := [eI (0), eR a0]) rfl rfl rfl ?_
    refine j_pf (np := 5) (w := 0) rfl rfl I2 gA0 (by decide) (n := 69) rfl rfl (hO_i (lo := -2147483648) (hi := 2147483647) rfl (by decide)) ?_
    intro m8 I9 W10
    have F11 : Fr l_331 0 0 g μ m8 := F6.w W10 gA0 rfl
    refine w_t (np := 6) (l2 := [some (eR a0), some (eI (2))]) (s2 := [eR a0]) rfl (s_an rfl (pos_g I9 gA0 (by decide))) rfl ?_
    refine w_t (np := 7) (l2 := [some (eR a0), some (eI (2))]) (s2 := [eI (2), eR a0]) rfl rfl rfl ?_
    refine j_pf (np := 10) (w := 2) rfl rfl I9 gA0 (by decide) (n := 69) rfl rfl (hO_i (lo := -2147483648) (hi := 2147483647) rfl (by decide)) ?_
    intro m12 I13 W14
    have F15 : Fr l_331 0 0 g μ m12 := F11.w W14 gA0 rfl
    refine w_t (np := 11) (l2 := [some (eR a0), some (eI (2))]) (s2 := [eI (2)]) rfl rfl rfl ?_
    refine b_ine (t1 := 18) (t2 := 14) rfl rfl rfl rfl (fun g16 => ?_) (fun g16 => absurd g16 (by decide))
    refine w_t (np := 19) (l2 := [some (eR a0), some (eI (2))]) (s2 := [eI (0)]) rfl rfl rfl ?_
    refine b_rz rfl rfl (Or.inl rfl) ?_
    show ex_q (dt_fg L ρ) rc (d + 11, (331, 17, [some (eR a0), some (eI (a1))], [eI (0)]), f :: F, m12)
    refine b_ine (t1 := 22) (t2 := 20) rfl rfl rfl rfl (fun g17 => absurd g17 (by decide)) (fun g17 => ?_)
    refine w_t (np := 21) (l2 := [some (eR a0), some (eI (a1))]) (s2 := [eI (-1)]) rfl rfl rfl ?_
    exact b_ri rfl rfl (K m12 (-1) I13 F15 (by decide))
  · have b8 : 1 ≤ v4 ∧ v4 ≤ 1 := by omega
    refine w_t (np := 10) (l2 := [some (eR a0), some (eI (a1))]) (s2 := [eI (0), eR a0]) rfl rfl rfl ?_
    refine w_go (t1 := 14) rfl rfl ?_
    refine w_cw (np := 17) (as := [eI (0)]) (l2 := [some (eR a0), some (eI (0))]) (rest := []) rfl rfl rfl (Nat.ble_eq.mp rfl) rfl rfl rfl (I2.kd gA0 (by decide) (n := 69) rfl) rfl ?_
    refine w_t (np := 1) (l2 := [some (eR a0), some (eI (0))]) (s2 := [eR a0]) rfl (s_an rfl (pos_g I2 gA0 (by decide))) rfl ?_
    refine w_t (np := 2) (l2 := [some (eR a0), some (eI (0))]) (s2 := [eI (0), eR a0]) rfl rfl rfl ?_
    refine j_pf (np := 5) (w := 0) rfl rfl I2 gA0 (by decide) (n := 69) rfl rfl (hO_i (lo := -2147483648) (hi := 2147483647) rfl (by decide)) ?_
    intro m8 I9 W10
    have F11 : Fr l_331 0 0 g μ m8 := F6.w W10 gA0 rfl
    refine w_t (np := 6) (l2 := [some (eR a0), some (eI (0))]) (s2 := [eR a0]) rfl (s_an rfl (pos_g I9 gA0 (by decide))) rfl ?_
    refine w_t (np := 7) (l2 := [some (eR a0), some (eI (0))]) (s2 := [eI (0), eR a0]) rfl rfl rfl ?_
    refine j_pf (np := 10) (w := 0) rfl rfl I9 gA0 (by decide) (n := 69) rfl rfl (hO_i (lo := -2147483648) (hi := 2147483647) rfl (by decide)) ?_
    intro m12 I13 W14
    have F15 : Fr l_331 0 0 g μ m12 := F11.w W14 gA0 rfl
    refine w_t (np := 11) (l2 := [some (eR a0), some (eI (0))]) (s2 := [eI (0)]) rfl rfl rfl ?_
    refine b_ine (t1 := 18) (t2 := 14) rfl rfl rfl rfl (fun g16 => absurd g16 (by decide)) (fun g16 => ?_)
    refine w_t (np := 15) (l2 := [some (eR a0), some (eI (0))]) (s2 := [eI (1)]) rfl rfl rfl ?_
    refine w_go (t1 := 19) rfl rfl ?_
    refine b_rz rfl rfl (Or.inr rfl) ?_
    show ex_q (dt_fg L ρ) rc (d + 11, (331, 17, [some (eR a0), some (eI (a1))], [eI (1)]), f :: F, m12)
    refine b_ine (t1 := 22) (t2 := 20) rfl rfl rfl rfl (fun g17 => ?_) (fun g17 => absurd g17 (by decide))
    refine w_t (np := 23) (l2 := [some (eR a0), some (eI (a1))]) (s2 := [eR a0]) rfl (s_an rfl (pos_g I13 gA0 (by decide))) rfl ?_
    refine w_t (np := 24) (l2 := [some (eR a0), some (eI (a1))]) (s2 := [eI (a1), eR a0]) rfl rfl rfl ?_
    refine w_cw (np := 27) (as := [eI (a1)]) (l2 := [some (eR a0), some (eI (a1)), none, none, none, none, none, none, none, none, none]) (rest := []) rfl rfl rfl (Nat.ble_eq.mp rfl) rfl rfl rfl (I13.kd gA0 (by decide) (n := 69) rfl) rfl ?_
    refine s_323 (a1 := a1) I13 gA0 (by omega) ?_
    intro m18 I19 F20
    have F21 : Fr l_331 0 0 g μ m18 := F15.t F20 rfl
    show ex_q (dt_fg L ρ) rc (d + 11, (331, 27, [some (eR a0), some (eI (a1))], []), f :: F, m18)
    refine w_t (np := 28) (l2 := [some (eR a0), some (eI (a1))]) (s2 := [eR a0]) rfl (s_an rfl (pos_g I19 gA0 (by decide))) rfl ?_
    refine w_cw (np := 31) (as := []) (l2 := [some (eR a0), none, none, none]) (rest := []) rfl rfl rfl (Nat.ble_eq.mp rfl) rfl rfl rfl (I19.kd gA0 (by decide) (n := 69) rfl) rfl ?_
    refine s_330 I19 gA0 ?_
    intro v22 b23
    show ex_q (dt_fg L ρ) rc (d + 11, (331, 31, [some (eR a0), some (eI (a1))], [eI (v22)]), f :: F, m18)
    exact b_ri rfl rfl (K m18 (v22) I19 F21 (by omega))
def l_332 : List Nat := [22016, 21760, 21248]
theorem s_332 {L : Nat} {ρ : Nat → Int} {rc : eQ} {d : Nat} {f : eFr} {F : List eFr} {μ : eM} {g : Nat → Nat} {a0 : Nat} {a1 : Int} (hI : SI g μ) (gA0 : g a0 = 52) (bA1 : -2147483648 ≤ a1 ∧ a1 ≤ 2147483647) (K : ∀ (μ2 : eM) (v : Int), SI g μ2 → Fr l_332 0 0 g μ μ2 → (0 ≤ v ∧ v ≤ 3) → ex_q (dt_fg L ρ) rc (d + 12, (f.1, f.2.1, f.2.2.1, eI v :: f.2.2.2), F, μ2)) : ex_q (dt_fg L ρ) rc (d + 11, (332, 0, [some (eR a0), some (eI (a1)), none], []), f :: F, μ) := by
  have F0 : Fr l_332 0 0 g μ μ := Fr.r
  refine w_t (np := 1) (l2 := [some (eR a0), some (eI (a1)), none]) (s2 := [eR a0]) rfl (s_an rfl (pos_g hI gA0 (by decide))) rfl ?_
  refine w_t (np := 2) (l2 := [some (eR a0), some (eI (a1)), none]) (s2 := [eI (a1), eR a0]) rfl rfl rfl ?_
  refine w_cw (np := 5) (as := [eI (a1)]) (l2 := [some (eR a0), some (eI (a1)), none, none, none, none, none, none, none, none, none]) (rest := []) rfl rfl rfl (Nat.ble_eq.mp rfl) rfl rfl rfl (hI.kd gA0 (by decide) (n := 69) rfl) rfl ?_
  refine s_323 (a1 := a1) hI gA0 (by omega) ?_
  intro m1 I2 F3
  have F4 : Fr l_332 0 0 g μ m1 := F0.t F3 rfl
  show ex_q (dt_fg L ρ) rc (d + 11, (332, 5, [some (eR a0), some (eI (a1)), none], []), f :: F, m1)
  refine w_t (np := 6) (l2 := [some (eR a0), some (eI (a1)), none]) (s2 := [eR a0]) rfl (s_an rfl (pos_g I2 gA0 (by decide))) rfl ?_
  refine w_cw (np := 9) (as := []) (l2 := [some (eR a0), none, none]) (rest := []) rfl rfl rfl (Nat.ble_eq.mp rfl) rfl rfl rfl (I2.kd gA0 (by decide) (n := 69) rfl) rfl ?_
  refine s_324 I2 gA0 ?_
  intro v5 b6
  show ex_q (dt_fg L ρ) rc (d + 11, (332, 9, [some (eR a0), some (eI (a1)), none], [eI (v5)]), f :: F, m1)
  refine w_t (np := 11) (l2 := [some (eR a0), some (eI (a1)), none]) (s2 := [eI (10), eI (v5)]) rfl rfl rfl ?_
  refine b_cne (t1 := 16) (t2 := 14) rfl rfl rfl (ev_w_in (by omega) (by omega)) rfl (fun g7 => ?_) (fun g7 => ?_)
  · refine w_t (np := 17) (l2 := [some (eR a0), some (eI (a1)), none]) (s2 := [eR a0]) rfl (s_an rfl (pos_g I2 gA0 (by decide))) rfl ?_
    refine w_cw (np := 20) (as := []) (l2 := [some (eR a0), none, none, none]) (rest := []) rfl rfl rfl (Nat.ble_eq.mp rfl) rfl rfl rfl (I2.kd gA0 (by decide) (n := 69) rfl) rfl ?_
    refine s_330 I2 gA0 ?_
    intro v8 b9
    show ex_q (dt_fg L ρ) rc (d + 11, (332, 20, [some (eR a0), some (eI (a1)), none], [eI (v8)]), f :: F, m1)
    refine w_t (np := 21) (l2 := [some (eR a0), some (eI (a1)), some (eI (v8))]) (s2 := []) rfl rfl rfl ?_
    refine w_t (np := 22) (l2 := [some (eR a0), some (eI (a1)), some (eI (v8))]) (s2 := [eI (v8)]) rfl rfl rfl ?_
    refine b_ine (t1 := 29) (t2 := 25) rfl rfl rfl (ev_w_in (by omega) (by omega)) (fun g10 => ?_) (fun g10 => ?_)
    · refine w_t (np := 30) (l2 := [some (eR a0), some (eI (a1)), some (eI (v8))]) (s2 := [eI (v8)]) rfl rfl rfl ?_
      refine w_t (np := 31) (l2 := [some (eR a0), some (eI (a1)), some (eI (v8))]) (s2 := [eI (1), eI (v8)]) rfl rfl rfl ?_
      refine b_cne (t1 := 38) (t2 := 34) rfl rfl rfl (ev_w_in (by omega) (by omega)) rfl (fun g11 => ?_) (fun g11 => ?_)
      · refine w_t (np := 39) (l2 := [some (eR a0), some (eI (a1)), some (eI (v8))]) (s2 := [eI (3)]) rfl rfl rfl ?_
        exact b_ri rfl rfl (K m1 (3) I2 F4 (by decide))
      · have b12 : 1 ≤ v8 ∧ v8 ≤ 1 := by omega
        refine w_t (np := 35) (l2 := [some (eR a0), some (eI (a1)), some (eI (v8))]) (s2 := [eI (1)]) rfl rfl rfl ?_
        refine w_go (t1 := 39) rfl rfl ?_
        exact b_ri rfl rfl (K m1 (1) I2 F4 (by decide))
    · have b11 : 0 ≤ v8 ∧ v8 ≤ 0 := by omega
      refine w_t (np := 26) (l2 := [some (eR a0), some (eI (a1)), some (eI (v8))]) (s2 := [eI (2)]) rfl rfl rfl ?_
      refine w_go (t1 := 39) rfl rfl ?_
      exact b_ri rfl rfl (K m1 (2) I2 F4 (by decide))
  · have b8 : 10 ≤ v5 ∧ v5 ≤ 10 := by omega
    refine w_t (np := 15) (l2 := [some (eR a0), some (eI (a1)), none]) (s2 := [eI (0)]) rfl rfl rfl ?_
    exact b_ri rfl rfl (K m1 (0) I2 F4 (by decide))
def l_333 : List Nat := [13363, 22016, 21760, 21248, 20992, 20736]
theorem s_333 {L : Nat} {ρ : Nat → Int} {rc : eQ} {d : Nat} {f : eFr} {F : List eFr} {μ : eM} {g : Nat → Nat} {a0 : Nat} {a1 : Int} (hI : SI g μ) (gA0 : g a0 = 52) (bA1 : -2147483648 ≤ a1 ∧ a1 ≤ 2147483647) (K : ∀ (μ2 : eM) (v : Int), SI g μ2 → Fr l_333 0 0 g μ μ2 → (-1 ≤ v ∧ v ≤ 95) → ex_q (dt_fg L ρ) rc (d + 13, (f.1, f.2.1, f.2.2.1, eI v :: f.2.2.2), F, μ2)) : ex_q (dt_fg L ρ) rc (d + 12, (333, 0, [some (eR a0), some (eI (a1)), none], []), f :: F, μ) := by
  have F0 : Fr l_333 0 0 g μ μ := Fr.r
  refine w_t (np := 1) (l2 := [some (eR a0), some (eI (a1)), none]) (s2 := [eR a0]) rfl (s_an rfl (pos_g hI gA0 (by decide))) rfl ?_
  refine w_cw (np := 4) (as := []) (l2 := [some (eR a0), none, none, none, none]) (rest := []) rfl rfl rfl (Nat.ble_eq.mp rfl) rfl rfl rfl (hI.kd gA0 (by decide) (n := 69) rfl) rfl ?_
  refine s_304 hI gA0 ?_
  intro m1 I2 F3
  have F4 : Fr l_333 0 0 g μ m1 := F0.t F3 rfl
  show ex_q (dt_fg L ρ) rc (d + 12, (333, 4, [some (eR a0), some (eI (a1)), none], []), f :: F, m1)
  refine w_t (np := 5) (l2 := [some (eR a0), some (eI (a1)), none]) (s2 := [eI (0)]) rfl rfl rfl ?_
  refine w_t (np := 6) (l2 := [some (eR a0), some (eI (a1)), some (eI (0))]) (s2 := []) rfl rfl rfl ?_
  have hL6 : ∀ (n5 : Nat) (m9 : eM) (i7 : Int), SI g m9 → Fr l_333 0 0 g μ m9 → (0 ≤ i7 ∧ i7 ≤ 96) → n5 = (96 - i7).toNat → ex_q (dt_fg L ρ) rc (d + 12, (333, 6, [some (eR a0), some (eI (a1)), some (eI (i7))], []), f :: F, m9) := by
    intro n5
    induction n5 using Nat.strongRecOn with
    | _ n5 ih6 =>
    intro m9 i7 I10 F11 b8 hn12
    refine w_t (np := 7) (l2 := [some (eR a0), some (eI (a1)), some (eI (i7))]) (s2 := [eI (i7)]) rfl rfl rfl ?_
    refine w_t (np := 8) (l2 := [some (eR a0), some (eI (a1)), some (eI (i7))]) (s2 := [eR a0, eI (i7)]) rfl (s_an rfl (pos_g I10 gA0 (by decide))) rfl ?_
    refine j_gi (np := 11) rfl rfl rfl I10 gA0 (by decide) (n := 69) rfl rfl (lo := 0) (hi := 96) rfl ?_
    intro v13 e14 b15
    refine b_cge (t1 := 31) (t2 := 14) rfl rfl rfl (ev_w_in (by omega) (by omega)) (ev_w_in (by omega) (by omega)) (fun g16 => ?_) (fun g16 => ?_)
    · refine w_t (np := 32) (l2 := [some (eR a0), some (eI (a1)), some (eI (i7))]) (s2 := [eI (-1)]) rfl rfl rfl ?_
      exact b_ri rfl rfl (K m9 (-1) I10 F11 (by decide))
    · have b17 : 0 ≤ i7 ∧ i7 ≤ 95 := by omega
      have b18 : 1 ≤ v13 ∧ v13 ≤ 96 := by omega
      refine w_t (np := 15) (l2 := [some (eR a0), some (eI (a1)), some (eI (i7))]) (s2 := [eR a0]) rfl (s_an rfl (pos_g I10 gA0 (by decide))) rfl ?_
      refine w_t (np := 16) (l2 := [some (eR a0), some (eI (a1)), some (eI (i7))]) (s2 := [eI (i7), eR a0]) rfl rfl rfl ?_
      refine w_cw (np := 19) (as := [eI (i7)]) (l2 := [some (eR a0), some (eI (i7)), none]) (rest := []) rfl rfl rfl (Nat.ble_eq.mp rfl) rfl rfl rfl (I10.kd gA0 (by decide) (n := 69) rfl) rfl ?_
      refine s_332 (a1 := i7) I10 gA0 (by omega) ?_
      intro m17 v20 I18 F19 b21
      have F22 : Fr l_333 0 0 g μ m17 := F11.t F19 rfl
      show ex_q (dt_fg L ρ) rc (d + 12, (333, 19, [some (eR a0), some (eI (a1)), some (eI (i7))], [eI (v20)]), f :: F, m17)
      refine w_t (np := 20) (l2 := [some (eR a0), some (eI (a1)), some (eI (i7))]) (s2 := [eI (a1), eI (v20)]) rfl rfl rfl ?_
      refine b_cne (t1 := 25) (t2 := 23) rfl rfl rfl (ev_w_in (by omega) (by omega)) (ev_w_in (by omega) (by omega)) (fun g23 => ?_) (fun g23 => ?_)
      · obtain ⟨v24, e25⟩ : ∃ zz : Int, zz = (i7) + (1) := ⟨_, rfl⟩
        have b26 : 1 ≤ v24 ∧ v24 ≤ 96 := by omega
        refine w_t (np := 28) (l2 := [some (eR a0), some (eI (a1)), some (eI (v24))]) (s2 := []) rfl (b_iinc rfl (by rw [← e25]; exact ev_w_in (by omega) (by omega)) rfl) rfl ?_
        refine w_go (t1 := 6) rfl rfl ?_
        exact ih6 (96 - (v24)).toNat (by omega) m17 (v24) I18 F22 (by omega)     rfl
      · have b24 : 0 ≤ a1 ∧ a1 ≤ 3 := by omega
        refine w_t (np := 24) (l2 := [some (eR a0), some (eI (a1)), some (eI (i7))]) (s2 := [eI (i7)]) rfl rfl rfl ?_
        exact b_ri rfl rfl (K m17 (i7) I18 F22 (by omega))
  exact hL6 _ m1 (0) I2 F4 (by decide)     rfl
def l_334 : List Nat := [13313, 13314, 13363, 22016, 21760, 21248, 20992, 20736]
theorem s_334 {L : Nat} {ρ : Nat → Int} {rc : eQ} {d : Nat} {f : eFr} {F : List eFr} {μ : eM} {g : Nat → Nat} {a0 : Nat} {a1 : Int} (hI : SI g μ) (gA0 : g a0 = 52) (bA1 : -2147483648 ≤ a1 ∧ a1 ≤ 2147483647) (K : ∀ (μ2 : eM) (v : Int), SI g μ2 → Fr l_334 0 0 g μ μ2 → (-2147483648 ≤ v ∧ v ≤ 2147483647) → ex_q (dt_fg L ρ) rc (d + 14, (f.1, f.2.1, f.2.2.1, eI v :: f.2.2.2), F, μ2)) : ex_q (dt_fg L ρ) rc (d + 13, (334, 0, [some (eR a0), some (eI (a1)), none, none], []), f :: F, μ) := by
  have F0 : Fr l_334 0 0 g μ μ := Fr.r
  refine w_t (np := 1) (l2 := [some (eR a0), some (eI (a1)), none, none]) (s2 := [eR a0]) rfl (s_an rfl (pos_g hI gA0 (by decide))) rfl ?_
  refine w_t (np := 2) (l2 := [some (eR a0), some (eI (a1)), none, none]) (s2 := [eI (a1), eR a0]) rfl rfl rfl ?_
  refine w_t (np := 3) (l2 := [some (eR a0), some (eI (a1)), none, none]) (s2 := [eI (0), eI (a1), eR a0]) rfl rfl rfl ?_
  refine w_t (np := 4) (l2 := [some (eR a0), some (eI (a1)), none, none]) (s2 := [eI (4), eI (0), eI (a1), eR a0]) rfl rfl rfl ?_
  refine w_cu (np := 7) (as := [eI (a1), eI (0), eI (4)]) (l2 := [some (eI (a1)), some (eI (0)), some (eI (4))]) (rest := [eR a0]) rfl rfl rfl (Nat.ble_eq.mp rfl) rfl rfl rfl rfl ?_
  refine w_t (np := 1) (l2 := [some (eI (a1)), some (eI (0)), some (eI (4))]) (s2 := [eI (a1)]) rfl rfl rfl ?_
  refine w_t (np := 2) (l2 := [some (eI (a1)), some (eI (0)), some (eI (4))]) (s2 := [eI (0), eI (a1)]) rfl rfl rfl ?_
  refine b_clt (t1 := 14) (t2 := 5) rfl rfl rfl (ev_w_in (by omega) (by omega)) rfl (fun g1 => ?_) (fun g1 => ?_)
  · have b2 : -2147483648 ≤ a1 ∧ a1 ≤ -1 := by omega
    refine w_t (np := 15) (l2 := [some (eI (a1)), some (eI (0)), some (eI (4))]) (s2 := [eI (0)]) rfl rfl rfl ?_
    refine b_rz rfl rfl (Or.inl rfl) ?_
    show ex_q (dt_fg L ρ) rc (d + 13, (334, 7, [some (eR a0), some (eI (a1)), none, none], [eI (0), eR a0]), f :: F, μ)
    refine b_ieq (t1 := 14) (t2 := 10) rfl rfl rfl rfl (fun g2 => ?_) (fun g2 => absurd g2 (by decide))
    refine w_t (np := 15) (l2 := [some (eR a0), some (eI (a1)), none, none]) (s2 := [eI (1), eR a0]) rfl rfl rfl ?_
    refine w_cw (np := 18) (as := [eI (1)]) (l2 := [some (eR a0), some (eI (1))]) (rest := []) rfl rfl rfl (Nat.ble_eq.mp rfl) rfl rfl rfl (hI.kd gA0 (by decide) (n := 69) rfl) rfl ?_
    refine w_t (np := 1) (l2 := [some (eR a0), some (eI (1))]) (s2 := [eR a0]) rfl (s_an rfl (pos_g hI gA0 (by decide))) rfl ?_
    refine w_t (np := 2) (l2 := [some (eR a0), some (eI (1))]) (s2 := [eI (0), eR a0]) rfl rfl rfl ?_
    refine j_pf (np := 5) (w := 0) rfl rfl hI gA0 (by decide) (n := 69) rfl rfl (hO_i (lo := -2147483648) (hi := 2147483647) rfl (by decide)) ?_
    intro m3 I4 W5
    have F6 : Fr l_334 0 0 g μ m3 := F0.w W5 gA0 rfl
    refine w_t (np := 6) (l2 := [some (eR a0), some (eI (1))]) (s2 := [eR a0]) rfl (s_an rfl (pos_g I4 gA0 (by decide))) rfl ?_
    refine w_t (np := 7) (l2 := [some (eR a0), some (eI (1))]) (s2 := [eI (1), eR a0]) rfl rfl rfl ?_
    refine j_pf (np := 10) (w := 1) rfl rfl I4 gA0 (by decide) (n := 69) rfl rfl (hO_i (lo := -2147483648) (hi := 2147483647) rfl (by decide)) ?_
    intro m7 I8 W9
    have F10 : Fr l_334 0 0 g μ m7 := F6.w W9 gA0 rfl
    refine w_t (np := 11) (l2 := [some (eR a0), some (eI (1))]) (s2 := [eI (1)]) rfl rfl rfl ?_
    refine b_ine (t1 := 18) (t2 := 14) rfl rfl rfl rfl (fun g11 => ?_) (fun g11 => absurd g11 (by decide))
    refine w_t (np := 19) (l2 := [some (eR a0), some (eI (1))]) (s2 := [eI (0)]) rfl rfl rfl ?_
    refine b_rz rfl rfl (Or.inl rfl) ?_
    show ex_q (dt_fg L ρ) rc (d + 13, (334, 18, [some (eR a0), some (eI (a1)), none, none], [eI (0)]), f :: F, m7)
    refine b_ine (t1 := 23) (t2 := 21) rfl rfl rfl rfl (fun g12 => absurd g12 (by decide)) (fun g12 => ?_)
    refine w_t (np := 22) (l2 := [some (eR a0), some (eI (a1)), none, none]) (s2 := [eI (-1)]) rfl rfl rfl ?_
    exact b_ri rfl rfl (K m7 (-1) I8 F10 (by decide))
  · have b2 : 0 ≤ a1 ∧ a1 ≤ 2147483647 := by omega
    refine w_t (np := 6) (l2 := [some (eI (a1)), some (eI (0)), some (eI (4))]) (s2 := [eI (a1)]) rfl rfl rfl ?_
    refine w_t (np := 7) (l2 := [some (eI (a1)), some (eI (0)), some (eI (4))]) (s2 := [eI (4), eI (a1)]) rfl rfl rfl ?_
    refine b_cgt (t1 := 14) (t2 := 10) rfl rfl rfl (ev_w_in (by omega) (by omega)) rfl (fun g2 => ?_) (fun g2 => ?_)
    · have b3 : 5 ≤ a1 ∧ a1 ≤ 2147483647 := by omega
      refine w_t (np := 15) (l2 := [some (eI (a1)), some (eI (0)), some (eI (4))]) (s2 := [eI (0)]) rfl rfl rfl ?_
      refine b_rz rfl rfl (Or.inl rfl) ?_
      show ex_q (dt_fg L ρ) rc (d + 13, (334, 7, [some (eR a0), some (eI (a1)), none, none], [eI (0), eR a0]), f :: F, μ)
      refine b_ieq (t1 := 14) (t2 := 10) rfl rfl rfl rfl (fun g3 => ?_) (fun g3 => absurd g3 (by decide))
      refine w_t (np := 15) (l2 := [some (eR a0), some (eI (a1)), none, none]) (s2 := [eI (1), eR a0]) rfl rfl rfl ?_
      refine w_cw (np := 18) (as := [eI (1)]) (l2 := [some (eR a0), some (eI (1))]) (rest := []) rfl rfl rfl (Nat.ble_eq.mp rfl) rfl rfl rfl (hI.kd gA0 (by decide) (n := 69) rfl) rfl ?_
      refine w_t (np := 1) (l2 := [some (eR a0), some (eI (1))]) (s2 := [eR a0]) rfl (s_an rfl (pos_g hI gA0 (by decide))) rfl ?_
      refine w_t (np := 2) (l2 := [some (eR a0), some (eI (1))]) (s2 := [eI (0), eR a0]) rfl rfl rfl ?_
      refine j_pf (np := 5) (w := 0) rfl rfl hI gA0 (by decide) (n := 69) rfl rfl (hO_i (lo := -2147483648) (hi := 2147483647) rfl (by decide)) ?_
      intro m4 I5 W6
      have F7 : Fr l_334 0 0 g μ m4 := F0.w W6 gA0 rfl
      refine w_t (np := 6) (l2 := [some (eR a0), some (eI (1))]) (s2 := [eR a0]) rfl (s_an rfl (pos_g I5 gA0 (by decide))) rfl ?_
      refine w_t (np := 7) (l2 := [some (eR a0), some (eI (1))]) (s2 := [eI (1), eR a0]) rfl rfl rfl ?_
      refine j_pf (np := 10) (w := 1) rfl rfl I5 gA0 (by decide) (n := 69) rfl rfl (hO_i (lo := -2147483648) (hi := 2147483647) rfl (by decide)) ?_
      intro m8 I9 W10
      have F11 : Fr l_334 0 0 g μ m8 := F7.w W10 gA0 rfl
      refine w_t (np := 11) (l2 := [some (eR a0), some (eI (1))]) (s2 := [eI (1)]) rfl rfl rfl ?_
      refine b_ine (t1 := 18) (t2 := 14) rfl rfl rfl rfl (fun g12 => ?_) (fun g12 => absurd g12 (by decide))
      refine w_t (np := 19) (l2 := [some (eR a0), some (eI (1))]) (s2 := [eI (0)]) rfl rfl rfl ?_
      refine b_rz rfl rfl (Or.inl rfl) ?_
      show ex_q (dt_fg L ρ) rc (d + 13, (334, 18, [some (eR a0), some (eI (a1)), none, none], [eI (0)]), f :: F, m8)
      refine b_ine (t1 := 23) (t2 := 21) rfl rfl rfl rfl (fun g13 => absurd g13 (by decide)) (fun g13 => ?_)
      refine w_t (np := 22) (l2 := [some (eR a0), some (eI (a1)), none, none]) (s2 := [eI (-1)]) rfl rfl rfl ?_
      exact b_ri rfl rfl (K m8 (-1) I9 F11 (by decide))
    · have b3 : 0 ≤ a1 ∧ a1 ≤ 4 := by omega
      refine w_t (np := 11) (l2 := [some (eI (a1)), some (eI (0)), some (eI (4))]) (s2 := [eI (1)]) rfl rfl rfl ?_
      refine w_go (t1 := 15) rfl rfl ?_
      refine b_rz rfl rfl (Or.inr rfl) ?_
      show ex_q (dt_fg L ρ) rc (d + 13, (334, 7, [some (eR a0), some (eI (a1)), none, none], [eI (1), eR a0]), f :: F, μ)
      refine b_ieq (t1 := 14) (t2 := 10) rfl rfl rfl rfl (fun g3 => absurd g3 (by decide)) (fun g3 => ?_)
      refine w_t (np := 11) (l2 := [some (eR a0), some (eI (a1)), none, none]) (s2 := [eI (0), eR a0]) rfl rfl rfl ?_
      refine w_go (t1 := 15) rfl rfl ?_
      refine w_cw (np := 18) (as := [eI (0)]) (l2 := [some (eR a0), some (eI (0))]) (rest := []) rfl rfl rfl (Nat.ble_eq.mp rfl) rfl rfl rfl (hI.kd gA0 (by decide) (n := 69) rfl) rfl ?_
      refine w_t (np := 1) (l2 := [some (eR a0), some (eI (0))]) (s2 := [eR a0]) rfl (s_an rfl (pos_g hI gA0 (by decide))) rfl ?_
      refine w_t (np := 2) (l2 := [some (eR a0), some (eI (0))]) (s2 := [eI (0), eR a0]) rfl rfl rfl ?_
      refine j_pf (np := 5) (w := 0) rfl rfl hI gA0 (by decide) (n := 69) rfl rfl (hO_i (lo := -2147483648) (hi := 2147483647) rfl (by decide)) ?_
      intro m4 I5 W6
      have F7 : Fr l_334 0 0 g μ m4 := F0.w W6 gA0 rfl
      refine w_t (np := 6) (l2 := [some (eR a0), some (eI (0))]) (s2 := [eR a0]) rfl (s_an rfl (pos_g I5 gA0 (by decide))) rfl ?_
      refine w_t (np := 7) (l2 := [some (eR a0), some (eI (0))]) (s2 := [eI (0), eR a0]) rfl rfl rfl ?_
      refine j_pf (np := 10) (w := 0) rfl rfl I5 gA0 (by decide) (n := 69) rfl rfl (hO_i (lo := -2147483648) (hi := 2147483647) rfl (by decide)) ?_
      intro m8 I9 W10
      have F11 : Fr l_334 0 0 g μ m8 := F7.w W10 gA0 rfl
      refine w_t (np := 11) (l2 := [some (eR a0), some (eI (0))]) (s2 := [eI (0)]) rfl rfl rfl ?_
      refine b_ine (t1 := 18) (t2 := 14) rfl rfl rfl rfl (fun g12 => absurd g12 (by decide)) (fun g12 => ?_)
      refine w_t (np := 15) (l2 := [some (eR a0), some (eI (0))]) (s2 := [eI (1)]) rfl rfl rfl ?_
      refine w_go (t1 := 19) rfl rfl ?_
      refine b_rz rfl rfl (Or.inr rfl) ?_
      show ex_q (dt_fg L ρ) rc (d + 13, (334, 18, [some (eR a0), some (eI (a1)), none, none], [eI (1)]), f :: F, m8)
      refine b_ine (t1 := 23) (t2 := 21) rfl rfl rfl rfl (fun g13 => ?_) (fun g13 => absurd g13 (by decide))
      refine w_t (np := 24) (l2 := [some (eR a0), some (eI (a1)), none, none]) (s2 := [eI (a1)]) rfl rfl rfl ?_
      refine w_t (np := 25) (l2 := [some (eR a0), some (eI (a1)), none, none]) (s2 := [eI (2), eI (a1)]) rfl rfl rfl ?_
      refine b_cle (t1 := 50) (t2 := 28) rfl rfl rfl (ev_w_in (by omega) (by omega)) rfl (fun g14 => ?_) (fun g14 => ?_)
      · have b15 : 0 ≤ a1 ∧ a1 ≤ 2 := by omega
        refine w_t (np := 51) (l2 := [some (eR a0), some (eI (a1)), none, none]) (s2 := [eR a0]) rfl (s_an rfl (pos_g I9 gA0 (by decide))) rfl ?_
        refine w_cw (np := 54) (as := []) (l2 := [some (eR a0), none, none, none, none]) (rest := []) rfl rfl rfl (Nat.ble_eq.mp rfl) rfl rfl rfl (I9.kd gA0 (by decide) (n := 69) rfl) rfl ?_
        refine s_304 I9 gA0 ?_
        intro m15 I16 F17
        have F18 : Fr l_334 0 0 g μ m15 := F11.t F17 rfl
        show ex_q (dt_fg L ρ) rc (d + 13, (334, 54, [some (eR a0), some (eI (a1)), none, none], []), f :: F, m15)
        refine w_t (np := 55) (l2 := [some (eR a0), some (eI (a1)), none, none]) (s2 := [eI (0)]) rfl rfl rfl ?_
        refine w_t (np := 56) (l2 := [some (eR a0), some (eI (a1)), some (eI (0)), none]) (s2 := []) rfl rfl rfl ?_
        refine w_t (np := 57) (l2 := [some (eR a0), some (eI (a1)), some (eI (0)), none]) (s2 := [eI (0)]) rfl rfl rfl ?_
        refine w_t (np := 58) (l2 := [some (eR a0), some (eI (a1)), some (eI (0)), some (eI (0))]) (s2 := []) rfl rfl rfl ?_
        have hL58 : ∀ (n19 : Nat) (m25 : eM) (i21 : Int) (i23 : Int), SI g m25 → Fr l_334 0 0 g μ m25 → (-2147483648 ≤ i21 ∧ i21 ≤ 2147483647) → (0 ≤ i23 ∧ i23 ≤ 96) → m25.1 a0 1 = 0 → m25.1 a0 0 = 0 → n19 = (96 - i23).toNat → ex_q (dt_fg L ρ) rc (d + 13, (334, 58, [some (eR a0), some (eI (a1)), some (eI (i21)), some (eI (i23))], []), f :: F, m25) := by
          intro n19
          induction n19 using Nat.strongRecOn with
          | _ n19 ih20 =>
          intro m25 i21 i23 I26 F27 b22 b24 k28 k29 hn30
          refine w_t (np := 59) (l2 := [some (eR a0), some (eI (a1)), some (eI (i21)), some (eI (i23))]) (s2 := [eI (i23)]) rfl rfl rfl ?_
          refine w_t (np := 60) (l2 := [some (eR a0), some (eI (a1)), some (eI (i21)), some (eI (i23))]) (s2 := [eR a0, eI (i23)]) rfl (s_an rfl (pos_g I26 gA0 (by decide))) rfl ?_
          refine j_gi (np := 63) rfl rfl rfl I26 gA0 (by decide) (n := 69) rfl rfl (lo := 0) (hi := 96) rfl ?_
          intro v31 e32 b33
          refine b_cge (t1 := 89) (t2 := 66) rfl rfl rfl (ev_w_in (by omega) (by omega)) (ev_w_in (by omega) (by omega)) (fun g34 => ?_) (fun g34 => ?_)
          · refine w_t (np := 90) (l2 := [some (eR a0), some (eI (a1)), some (eI (i21)), some (eI (i23))]) (s2 := [eI (i21)]) rfl rfl rfl ?_
            exact b_ri rfl rfl (K m25 (i21) I26 F27 (by omega))
          · have b35 : 0 ≤ i23 ∧ i23 ≤ 95 := by omega
            have b36 : 1 ≤ v31 ∧ v31 ≤ 96 := by omega
            refine w_t (np := 67) (l2 := [some (eR a0), some (eI (a1)), some (eI (i21)), some (eI (i23))]) (s2 := [eI (i21)]) rfl rfl rfl ?_
            refine w_t (np := 68) (l2 := [some (eR a0), some (eI (a1)), some (eI (i21)), some (eI (i23))]) (s2 := [eR a0, eI (i21)]) rfl (s_an rfl (pos_g I26 gA0 (by decide))) rfl ?_
            refine w_t (np := 69) (l2 := [some (eR a0), some (eI (a1)), some (eI (i21)), some (eI (i23))]) (s2 := [eI (i23), eR a0, eI (i21)]) rfl rfl rfl ?_
            refine w_cw (np := 72) (as := [eI (i23)]) (l2 := [some (eR a0), some (eI (i23)), none]) (rest := [eI (i21)]) rfl rfl rfl (Nat.ble_eq.mp rfl) rfl rfl rfl (I26.kd gA0 (by decide) (n := 69) rfl) rfl ?_
            refine s_332 (a1 := i23) I26 gA0 (by omega) ?_
            intro m35 v38 I36 F37 b39
            have F40 : Fr l_334 0 0 g μ m35 := F27.t F37 rfl
            show ex_q (dt_fg L ρ) rc (d + 13, (334, 72, [some (eR a0), some (eI (a1)), some (eI (i21)), some (eI (i23))], [eI (v38), eI (i21)]), f :: F, m35)
            refine w_t (np := 73) (l2 := [some (eR a0), some (eI (a1)), some (eI (i21)), some (eI (i23))]) (s2 := [eI (a1), eI (v38), eI (i21)]) rfl rfl rfl ?_
            refine b_cne (t1 := 80) (t2 := 76) rfl rfl rfl (ev_w_in (by omega) (by omega)) (ev_w_in (by omega) (by omega)) (fun g41 => ?_) (fun g41 => ?_)
            · refine w_t (np := 81) (l2 := [some (eR a0), some (eI (a1)), some (eI (i21)), some (eI (i23))]) (s2 := [eI (0), eI (i21)]) rfl rfl rfl ?_
              refine w_t (np := 82) (l2 := [some (eR a0), some (eI (a1)), some (eI (i21)), some (eI (i23))]) (s2 := [eI (i21)]) rfl (b_iadd (by rw [Int.add_zero]; exact ev_w_in (by omega) (by omega))) rfl ?_
              refine w_t (np := 83) (l2 := [some (eR a0), some (eI (a1)), some (eI (i21)), some (eI (i23))]) (s2 := []) rfl rfl rfl ?_
              obtain ⟨v42, e43⟩ : ∃ zz : Int, zz = (i23) + (1) := ⟨_, rfl⟩
              have b44 : 1 ≤ v42 ∧ v42 ≤ 96 := by omega
              refine w_t (np := 86) (l2 := [some (eR a0), some (eI (a1)), some (eI (i21)), some (eI (v42))]) (s2 := []) rfl (b_iinc rfl (by rw [← e43]; exact ev_w_in (by omega) (by omega)) rfl) rfl ?_
              refine w_go (t1 := 58) rfl rfl ?_
              exact ih20 (96 - (v42)).toNat (by omega) m35 (i21) (v42) I36 F40 (by omega) (by omega) (F37.k k28 gA0 (by decide) rfl) (F37.k k29 gA0 (by decide) rfl)    rfl
            · have b42 : 0 ≤ v38 ∧ v38 ≤ 2 := by omega
              refine w_t (np := 77) (l2 := [some (eR a0), some (eI (a1)), some (eI (i21)), some (eI (i23))]) (s2 := [eI (1), eI (i21)]) rfl rfl rfl ?_
              refine w_go (t1 := 81) rfl rfl ?_
              obtain ⟨v42, e43, b44⟩ : ∃ zz : Int, ev_w ((i21) + (1)) = zz ∧ (-2147483648 ≤ zz ∧ zz ≤ 2147483647) := ⟨_, rfl, hw_bd _⟩
              refine w_t (np := 82) (l2 := [some (eR a0), some (eI (a1)), some (eI (i21)), some (eI (i23))]) (s2 := [eI (v42)]) rfl (b_iadd e43) rfl ?_
              refine w_t (np := 83) (l2 := [some (eR a0), some (eI (a1)), some (eI (v42)), some (eI (i23))]) (s2 := []) rfl rfl rfl ?_
              obtain ⟨v45, e46⟩ : ∃ zz : Int, zz = (i23) + (1) := ⟨_, rfl⟩
              have b47 : 1 ≤ v45 ∧ v45 ≤ 96 := by omega
              refine w_t (np := 86) (l2 := [some (eR a0), some (eI (a1)), some (eI (v42)), some (eI (v45))]) (s2 := []) rfl (b_iinc rfl (by rw [← e46]; exact ev_w_in (by omega) (by omega)) rfl) rfl ?_
              refine w_go (t1 := 58) rfl rfl ?_
              exact ih20 (96 - (v45)).toNat (by omega) m35 (v42) (v45) I36 F40 (by omega) (by omega) (F37.k k28 gA0 (by decide) rfl) (F37.k k29 gA0 (by decide) rfl)    rfl
        exact hL58 _ m15 (0) (0) I16 F18 (by decide) (by decide) (F17.k (W10.slot W6.at (by decide)) gA0 (by decide) rfl) (F17.k W10.at gA0 (by decide) rfl)    rfl
      · have b15 : 3 ≤ a1 ∧ a1 ≤ 4 := by omega
        refine w_t (np := 29) (l2 := [some (eR a0), some (eI (a1)), none, none]) (s2 := [eR a0]) rfl (s_an rfl (pos_g I9 gA0 (by decide))) rfl ?_
        refine w_t (np := 30) (l2 := [some (eR a0), some (eI (a1)), none, none]) (s2 := [eI (a1), eR a0]) rfl rfl rfl ?_
        refine w_t (np := 31) (l2 := [some (eR a0), some (eI (a1)), none, none]) (s2 := [eI (2), eI (a1), eR a0]) rfl rfl rfl ?_
        obtain ⟨v15, e16⟩ : ∃ zz : Int, zz = (a1) - (2) := ⟨_, rfl⟩
        have b17 : 1 ≤ v15 ∧ v15 ≤ 2 := by omega
        refine w_t (np := 32) (l2 := [some (eR a0), some (eI (a1)), none, none]) (s2 := [eI (v15), eR a0]) rfl (b_isub (by rw [← e16]; exact ev_w_in (by omega) (by omega))) rfl ?_
        refine w_cw (np := 35) (as := [eI (v15)]) (l2 := [some (eR a0), some (eI (v15)), none]) (rest := []) rfl rfl rfl (Nat.ble_eq.mp rfl) rfl rfl rfl (I9.kd gA0 (by decide) (n := 69) rfl) rfl ?_
        refine s_333 (a1 := v15) I9 gA0 (by omega) ?_
        intro m18 v21 I19 F20 b22
        have F23 : Fr l_334 0 0 g μ m18 := F11.t F20 rfl
        show ex_q (dt_fg L ρ) rc (d + 13, (334, 35, [some (eR a0), some (eI (a1)), none, none], [eI (v21)]), f :: F, m18)
        refine w_t (np := 36) (l2 := [some (eR a0), some (eI (a1)), some (eI (v21)), none]) (s2 := []) rfl rfl rfl ?_
        refine w_t (np := 37) (l2 := [some (eR a0), some (eI (a1)), some (eI (v21)), none]) (s2 := [eI (v21)]) rfl rfl rfl ?_
        refine b_ige (t1 := 48) (t2 := 40) rfl rfl rfl (ev_w_in (by omega) (by omega)) (fun g24 => ?_) (fun g24 => ?_)
        · have b25 : 0 ≤ v21 ∧ v21 ≤ 95 := by omega
          refine w_t (np := 49) (l2 := [some (eR a0), some (eI (a1)), some (eI (v21)), none]) (s2 := [eI (v21)]) rfl rfl rfl ?_
          exact b_ri rfl rfl (K m18 (v21) I19 F23 (by omega))
        · have b25 : -1 ≤ v21 ∧ v21 ≤ -1 := by omega
          refine w_t (np := 41) (l2 := [some (eR a0), some (eI (a1)), some (eI (v21)), none]) (s2 := [eR a0]) rfl (s_an rfl (pos_g I19 gA0 (by decide))) rfl ?_
          refine w_t (np := 42) (l2 := [some (eR a0), some (eI (a1)), some (eI (v21)), none]) (s2 := [eI (5), eR a0]) rfl rfl rfl ?_
          refine w_cw (np := 45) (as := [eI (5)]) (l2 := [some (eR a0), some (eI (5))]) (rest := []) rfl rfl rfl (Nat.ble_eq.mp rfl) rfl rfl rfl (I19.kd gA0 (by decide) (n := 69) rfl) rfl ?_
          refine w_t (np := 1) (l2 := [some (eR a0), some (eI (5))]) (s2 := [eR a0]) rfl (s_an rfl (pos_g I19 gA0 (by decide))) rfl ?_
          refine w_t (np := 2) (l2 := [some (eR a0), some (eI (5))]) (s2 := [eI (5), eR a0]) rfl rfl rfl ?_
          refine j_pf (np := 5) (w := 5) rfl rfl I19 gA0 (by decide) (n := 69) rfl rfl (hO_i (lo := -2147483648) (hi := 2147483647) rfl (by decide)) ?_
          intro m25 I26 W27
          have F28 : Fr l_334 0 0 g μ m25 := F23.w W27 gA0 rfl
          refine w_t (np := 6) (l2 := [some (eR a0), some (eI (5))]) (s2 := [eI (-1)]) rfl rfl rfl ?_
          refine b_ri rfl rfl ?_
          show ex_q (dt_fg L ρ) rc (d + 13, (334, 45, [some (eR a0), some (eI (a1)), some (eI (v21)), none], [eI (-1)]), f :: F, m25)
          refine w_go (t1 := 49) rfl rfl ?_
          exact b_ri rfl rfl (K m25 (-1) I26 F28 (by decide))
