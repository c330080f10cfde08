/-! STEPS differ: the direction that is found is the one that is -/
theorem sS_inj : ∀ d, d < 10 → ∀ e, e < 10 → (sS ((d : Nat) : Int) ((0 : Nat) : Int) = sS ((e : Nat) : Int) ((0 : Nat) : Int) ∧ sS ((d : Nat) : Int) ((1 : Nat) : Int) = sS ((e : Nat) : Int) ((1 : Nat) : Int) ∧ sS ((d : Nat) : Int) ((2 : Nat) : Int) = sS ((e : Nat) : Int) ((2 : Nat) : Int) ∧ sS ((d : Nat) : Int) ((3 : Nat) : Int) = sS ((e : Nat) : Int) ((3 : Nat) : Int)) → d = e := by decide +kernel
theorem DM.u {R : Nat → Int} {a1 a2 D d : Int} (h : DM R a1 a2 D) (hd : 0 ≤ d ∧ d ≤ 9) (h0 : ev_w (R (a2.toNat + 0) - R (a1.toNat + 0)) = sS d ((0 : Nat) : Int)) (h1 : ev_w (R (a2.toNat + 1) - R (a1.toNat + 1)) = sS d ((1 : Nat) : Int)) (h2 : ev_w (R (a2.toNat + 2) - R (a1.toNat + 2)) = sS d ((2 : Nat) : Int)) (h3 : ev_w (R (a2.toNat + 3) - R (a1.toNat + 3)) = sS d ((3 : Nat) : Int)) : d = D := by
  obtain ⟨hD, hc⟩ := h
  obtain ⟨m, rfl⟩ : ∃ m : Nat, d = (m : Int) := ⟨d.toNat, by omega⟩
  obtain ⟨n, rfl⟩ : ∃ n : Nat, D = (n : Int) := ⟨D.toNat, by omega⟩
  have e := sS_inj m (by omega) n (by omega) ⟨h0.symm.trans (hc 0 (by decide)), h1.symm.trans (hc 1 (by decide)), h2.symm.trans (hc 2 (by decide)), h3.symm.trans (hc 3 (by decide))⟩
  rw [e]
theorem dm_e {R : Nat → Int} {a1 a2 d p q v s i1 i2 : Int} (c : Nat) (h1 : 0 ≤ a1) (h2 : 0 ≤ a2) (hi1 : i1 = a1 + c) (hi2 : i2 = a2 + c) (ep : R i2.toNat = p) (eq : R i1.toNat = q) (ev : ev_w (p - q) = v) (es : s = sS d c) (hvs : v = s) : ev_w (R (a2.toNat + c) - R (a1.toNat + c)) = sS d c := by
  rw [show a2.toNat + c = i2.toNat by omega, show a1.toNat + c = i1.toNat by omega, ep, eq, ev, hvs, es]
theorem s_322D {L : Nat} {ρ : Nat → Int} {rc : eQ} {d : Nat} {f : eFr} {F : List eFr} {μ : eM} {g : Nat → Nat} {D : Int} {a0 : Nat} {a1 : Int} {a2 : Int} (hI : SI g μ) (gA0 : g a0 = 83) (bA1 : 0 ≤ a1 ∧ a1 ≤ 12) (bA2 : 0 ≤ a2 ∧ a2 ≤ 12) (hD : DM (μ.1 a0) a1 a2 D) (K : ∀ (v : Int), (0 ≤ v ∧ v ≤ 9) → (v = D) → ex_q (dt_fg L ρ) rc (d + 3, (f.1, f.2.1, f.2.2.1, eI v :: f.2.2.2), F, μ)) : ex_q (dt_fg L ρ) rc (d + 2, (322, 0, [some (eR a0), some (eI (a1)), some (eI (a2)), none], []), f :: F, μ) := by
  have bD := hD.1
  refine w_t (np := 1) (l2 := [some (eR a0), some (eI (a1)), some (eI (a2)), none]) (s2 := [eI (0)]) rfl rfl rfl ?_
  refine w_t (np := 2) (l2 := [some (eR a0), some (eI (a1)), some (eI (a2)), some (eI (0))]) (s2 := []) rfl rfl rfl ?_
  have hL2 : ∀ (n1 : Nat) (i3 : Int), (0 ≤ i3 ∧ i3 ≤ 9) → i3 ≤ D → n1 = (10 - i3).toNat → ex_q (dt_fg L ρ) rc (d + 2, (322, 2, [some (eR a0), some (eI (a1)), some (eI (a2)), some (eI (i3))], []), f :: F, μ) := by
    intro n1
    induction n1 using Nat.strongRecOn with
    | _ n1 ih2 =>
    intro i3 b4 r5 hn6
    refine w_t (np := 3) (l2 := [some (eR a0), some (eI (a1)), some (eI (a2)), some (eI (i3))]) (s2 := [eR a0]) rfl (s_an rfl (pos_g hI gA0 (by decide))) rfl ?_
    refine w_t (np := 4) (l2 := [some (eR a0), some (eI (a1)), some (eI (a2)), some (eI (i3))]) (s2 := [eI (a2), eR a0]) rfl rfl rfl ?_
    refine j_al (np := 5) rfl rfl hI gA0 (by decide) (n := 16) rfl rfl (lo := -2147483648) (hi := 2147483647) (fun _ => rfl) (by omega) (by omega) ?_
    intro v7 e8 b9
    refine w_t (np := 6) (l2 := [some (eR a0), some (eI (a1)), some (eI (a2)), some (eI (i3))]) (s2 := [eR a0, eI (v7)]) rfl (s_an rfl (pos_g hI gA0 (by decide))) rfl ?_
    refine w_t (np := 7) (l2 := [some (eR a0), some (eI (a1)), some (eI (a2)), some (eI (i3))]) (s2 := [eI (a1), eR a0, eI (v7)]) rfl rfl rfl ?_
    refine j_al (np := 8) rfl rfl hI gA0 (by decide) (n := 16) rfl rfl (lo := -2147483648) (hi := 2147483647) (fun _ => rfl) (by omega) (by omega) ?_
    intro v10 e11 b12
    obtain ⟨v13, e14, b15⟩ : ∃ zz : Int, ev_w ((v7) - (v10)) = zz ∧ (-2147483648 ≤ zz ∧ zz ≤ 2147483647) := ⟨_, rfl, hw_bd _⟩
    refine w_t (np := 9) (l2 := [some (eR a0), some (eI (a1)), some (eI (a2)), some (eI (i3))]) (s2 := [eI (v13)]) rfl (b_isub e14) rfl ?_
    refine w_t (np := 10) (l2 := [some (eR a0), some (eI (a1)), some (eI (a2)), some (eI (i3))]) (s2 := [eI (i3), eI (v13)]) rfl rfl rfl ?_
    refine w_t (np := 11) (l2 := [some (eR a0), some (eI (a1)), some (eI (a2)), some (eI (i3))]) (s2 := [eI (0), eI (i3), eI (v13)]) rfl rfl rfl ?_
    refine w_cu (np := 14) (as := [eI (i3), eI (0)]) (l2 := [some (eI (i3)), some (eI (0))]) (rest := [eI (v13)]) rfl rfl rfl (Nat.ble_eq.mp rfl) rfl rfl rfl rfl ?_
    refine s_218e (a0 := i3) (a1 := 0) hI (by omega) (by decide) ?_
    intro v16 b17 h18
    show ex_q (dt_fg L ρ) rc (d + 2, (322, 14, [some (eR a0), some (eI (a1)), some (eI (a2)), some (eI (i3))], [eI (v16), eI (v13)]), f :: F, μ)
    refine b_cne (t1 := 74) (t2 := 17) rfl rfl rfl (ev_w_in (by omega) (by omega)) (ev_w_in (by omega) (by omega)) (fun g19 => ?_) (fun g19 => ?_)
    · obtain ⟨v20, e21⟩ : ∃ zz : Int, zz = (i3) + (1) := ⟨_, rfl⟩
      have b22 : 1 ≤ v20 ∧ v20 ≤ 10 := by omega
      refine w_t (np := 77) (l2 := [some (eR a0), some (eI (a1)), some (eI (a2)), some (eI (v20))]) (s2 := []) rfl (b_iinc rfl (by rw [← e21]; exact ev_w_in (by omega) (by omega)) rfl) rfl ?_
      refine w_go (t1 := 2) rfl rfl ?_
      have h23 := dm_n (i1 := a1) (i2 := a2) 0 hD (by decide) (by omega) (by omega) (by omega) (by omega) e8 e11 e14 h18 (by omega) r5
      exact ih2 (10 - (v20)).toNat (by omega) (v20) (by omega)    (by omega) rfl
    · have b20 : -1 ≤ v13 ∧ v13 ≤ 1 := by omega
      refine w_t (np := 18) (l2 := [some (eR a0), some (eI (a1)), some (eI (a2)), some (eI (i3))]) (s2 := [eR a0]) rfl (s_an rfl (pos_g hI gA0 (by decide))) rfl ?_
      refine w_t (np := 19) (l2 := [some (eR a0), some (eI (a1)), some (eI (a2)), some (eI (i3))]) (s2 := [eI (a2), eR a0]) rfl rfl rfl ?_
      refine w_t (np := 20) (l2 := [some (eR a0), some (eI (a1)), some (eI (a2)), some (eI (i3))]) (s2 := [eI (1), eI (a2), eR a0]) rfl rfl rfl ?_
      obtain ⟨v20, e21⟩ : ∃ zz : Int, zz = (a2) + (1) := ⟨_, rfl⟩
      have b22 : 1 ≤ v20 ∧ v20 ≤ 13 := by omega
      refine w_t (np := 21) (l2 := [some (eR a0), some (eI (a1)), some (eI (a2)), some (eI (i3))]) (s2 := [eI (v20), eR a0]) rfl (b_iadd (by rw [← e21]; exact ev_w_in (by omega) (by omega))) rfl ?_
      refine j_al (np := 22) rfl rfl hI gA0 (by decide) (n := 16) rfl rfl (lo := -2147483648) (hi := 2147483647) (fun _ => rfl) (by omega) (by omega) ?_
      intro v23 e24 b25
      refine w_t (np := 23) (l2 := [some (eR a0), some (eI (a1)), some (eI (a2)), some (eI (i3))]) (s2 := [eR a0, eI (v23)]) rfl (s_an rfl (pos_g hI gA0 (by decide))) rfl ?_
      refine w_t (np := 24) (l2 := [some (eR a0), some (eI (a1)), some (eI (a2)), some (eI (i3))]) (s2 := [eI (a1), eR a0, eI (v23)]) rfl rfl rfl ?_
      refine w_t (np := 25) (l2 := [some (eR a0), some (eI (a1)), some (eI (a2)), some (eI (i3))]) (s2 := [eI (1), eI (a1), eR a0, eI (v23)]) rfl rfl rfl ?_
      obtain ⟨v26, e27⟩ : ∃ zz : Int, zz = (a1) + (1) := ⟨_, rfl⟩
      have b28 : 1 ≤ v26 ∧ v26 ≤ 13 := by omega
      refine w_t (np := 26) (l2 := [some (eR a0), some (eI (a1)), some (eI (a2)), some (eI (i3))]) (s2 := [eI (v26), eR a0, eI (v23)]) rfl (b_iadd (by rw [← e27]; exact ev_w_in (by omega) (by omega))) rfl ?_
      refine j_al (np := 27) rfl rfl hI gA0 (by decide) (n := 16) rfl rfl (lo := -2147483648) (hi := 2147483647) (fun _ => rfl) (by omega) (by omega) ?_
      intro v29 e30 b31
      obtain ⟨v32, e33, b34⟩ : ∃ zz : Int, ev_w ((v23) - (v29)) = zz ∧ (-2147483648 ≤ zz ∧ zz ≤ 2147483647) := ⟨_, rfl, hw_bd _⟩
      refine w_t (np := 28) (l2 := [some (eR a0), some (eI (a1)), some (eI (a2)), some (eI (i3))]) (s2 := [eI (v32)]) rfl (b_isub e33) rfl ?_
      refine w_t (np := 29) (l2 := [some (eR a0), some (eI (a1)), some (eI (a2)), some (eI (i3))]) (s2 := [eI (i3), eI (v32)]) rfl rfl rfl ?_
      refine w_t (np := 30) (l2 := [some (eR a0), some (eI (a1)), some (eI (a2)), some (eI (i3))]) (s2 := [eI (1), eI (i3), eI (v32)]) rfl rfl rfl ?_
      refine w_cu (np := 33) (as := [eI (i3), eI (1)]) (l2 := [some (eI (i3)), some (eI (1))]) (rest := [eI (v32)]) rfl rfl rfl (Nat.ble_eq.mp rfl) rfl rfl rfl rfl ?_
      refine s_218e (a0 := i3) (a1 := 1) hI (by omega) (by decide) ?_
      intro v35 b36 h37
      show ex_q (dt_fg L ρ) rc (d + 2, (322, 33, [some (eR a0), some (eI (a1)), some (eI (a2)), some (eI (i3))], [eI (v35), eI (v32)]), f :: F, μ)
      refine b_cne (t1 := 74) (t2 := 36) rfl rfl rfl (ev_w_in (by omega) (by omega)) (ev_w_in (by omega) (by omega)) (fun g38 => ?_) (fun g38 => ?_)
      · obtain ⟨v39, e40⟩ : ∃ zz : Int, zz = (i3) + (1) := ⟨_, rfl⟩
        have b41 : 1 ≤ v39 ∧ v39 ≤ 10 := by omega
        refine w_t (np := 77) (l2 := [some (eR a0), some (eI (a1)), some (eI (a2)), some (eI (v39))]) (s2 := []) rfl (b_iinc rfl (by rw [← e40]; exact ev_w_in (by omega) (by omega)) rfl) rfl ?_
        refine w_go (t1 := 2) rfl rfl ?_
        have h42 := dm_n (i1 := v26) (i2 := v20) 1 hD (by decide) (by omega) (by omega) (by omega) (by omega) e24 e30 e33 h37 (by omega) r5
        exact ih2 (10 - (v39)).toNat (by omega) (v39) (by omega)    (by omega) rfl
      · have b39 : -1 ≤ v32 ∧ v32 ≤ 1 := by omega
        refine w_t (np := 37) (l2 := [some (eR a0), some (eI (a1)), some (eI (a2)), some (eI (i3))]) (s2 := [eR a0]) rfl (s_an rfl (pos_g hI gA0 (by decide))) rfl ?_
        refine w_t (np := 38) (l2 := [some (eR a0), some (eI (a1)), some (eI (a2)), some (eI (i3))]) (s2 := [eI (a2), eR a0]) rfl rfl rfl ?_
        refine w_t (np := 39) (l2 := [some (eR a0), some (eI (a1)), some (eI (a2)), some (eI (i3))]) (s2 := [eI (2), eI (a2), eR a0]) rfl rfl rfl ?_
        obtain ⟨v39, e40⟩ : ∃ zz : Int, zz = (a2) + (2) := ⟨_, rfl⟩
        have b41 : 2 ≤ v39 ∧ v39 ≤ 14 := by omega
        refine w_t (np := 40) (l2 := [some (eR a0), some (eI (a1)), some (eI (a2)), some (eI (i3))]) (s2 := [eI (v39), eR a0]) rfl (b_iadd (by rw [← e40]; exact ev_w_in (by omega) (by omega))) rfl ?_
        refine j_al (np := 41) rfl rfl hI gA0 (by decide) (n := 16) rfl rfl (lo := -2147483648) (hi := 2147483647) (fun _ => rfl) (by omega) (by omega) ?_
        intro v42 e43 b44
        refine w_t (np := 42) (l2 := [some (eR a0), some (eI (a1)), some (eI (a2)), some (eI (i3))]) (s2 := [eR a0, eI (v42)]) rfl (s_an rfl (pos_g hI gA0 (by decide))) rfl ?_
        refine w_t (np := 43) (l2 := [some (eR a0), some (eI (a1)), some (eI (a2)), some (eI (i3))]) (s2 := [eI (a1), eR a0, eI (v42)]) rfl rfl rfl ?_
        refine w_t (np := 44) (l2 := [some (eR a0), some (eI (a1)), some (eI (a2)), some (eI (i3))]) (s2 := [eI (2), eI (a1), eR a0, eI (v42)]) rfl rfl rfl ?_
        obtain ⟨v45, e46⟩ : ∃ zz : Int, zz = (a1) + (2) := ⟨_, rfl⟩
        have b47 : 2 ≤ v45 ∧ v45 ≤ 14 := by omega
        refine w_t (np := 45) (l2 := [some (eR a0), some (eI (a1)), some (eI (a2)), some (eI (i3))]) (s2 := [eI (v45), eR a0, eI (v42)]) rfl (b_iadd (by rw [← e46]; exact ev_w_in (by omega) (by omega))) rfl ?_
        refine j_al (np := 46) rfl rfl hI gA0 (by decide) (n := 16) rfl rfl (lo := -2147483648) (hi := 2147483647) (fun _ => rfl) (by omega) (by omega) ?_
        intro v48 e49 b50
        obtain ⟨v51, e52, b53⟩ : ∃ zz : Int, ev_w ((v42) - (v48)) = zz ∧ (-2147483648 ≤ zz ∧ zz ≤ 2147483647) := ⟨_, rfl, hw_bd _⟩
        refine w_t (np := 47) (l2 := [some (eR a0), some (eI (a1)), some (eI (a2)), some (eI (i3))]) (s2 := [eI (v51)]) rfl (b_isub e52) rfl ?_
        refine w_t (np := 48) (l2 := [some (eR a0), some (eI (a1)), some (eI (a2)), some (eI (i3))]) (s2 := [eI (i3), eI (v51)]) rfl rfl rfl ?_
        refine w_t (np := 49) (l2 := [some (eR a0), some (eI (a1)), some (eI (a2)), some (eI (i3))]) (s2 := [eI (2), eI (i3), eI (v51)]) rfl rfl rfl ?_
        refine w_cu (np := 52) (as := [eI (i3), eI (2)]) (l2 := [some (eI (i3)), some (eI (2))]) (rest := [eI (v51)]) rfl rfl rfl (Nat.ble_eq.mp rfl) rfl rfl rfl rfl ?_
        refine s_218e (a0 := i3) (a1 := 2) hI (by omega) (by decide) ?_
        intro v54 b55 h56
        show ex_q (dt_fg L ρ) rc (d + 2, (322, 52, [some (eR a0), some (eI (a1)), some (eI (a2)), some (eI (i3))], [eI (v54), eI (v51)]), f :: F, μ)
        refine b_cne (t1 := 74) (t2 := 55) rfl rfl rfl (ev_w_in (by omega) (by omega)) (ev_w_in (by omega) (by omega)) (fun g57 => ?_) (fun g57 => ?_)
        · obtain ⟨v58, e59⟩ : ∃ zz : Int, zz = (i3) + (1) := ⟨_, rfl⟩
          have b60 : 1 ≤ v58 ∧ v58 ≤ 10 := by omega
          refine w_t (np := 77) (l2 := [some (eR a0), some (eI (a1)), some (eI (a2)), some (eI (v58))]) (s2 := []) rfl (b_iinc rfl (by rw [← e59]; exact ev_w_in (by omega) (by omega)) rfl) rfl ?_
          refine w_go (t1 := 2) rfl rfl ?_
          have h61 := dm_n (i1 := v45) (i2 := v39) 2 hD (by decide) (by omega) (by omega) (by omega) (by omega) e43 e49 e52 h56 (by omega) r5
          exact ih2 (10 - (v58)).toNat (by omega) (v58) (by omega)    (by omega) rfl
        · have b58 : -1 ≤ v51 ∧ v51 ≤ 1 := by omega
          refine w_t (np := 56) (l2 := [some (eR a0), some (eI (a1)), some (eI (a2)), some (eI (i3))]) (s2 := [eR a0]) rfl (s_an rfl (pos_g hI gA0 (by decide))) rfl ?_
          refine w_t (np := 57) (l2 := [some (eR a0), some (eI (a1)), some (eI (a2)), some (eI (i3))]) (s2 := [eI (a2), eR a0]) rfl rfl rfl ?_
          refine w_t (np := 58) (l2 := [some (eR a0), some (eI (a1)), some (eI (a2)), some (eI (i3))]) (s2 := [eI (3), eI (a2), eR a0]) rfl rfl rfl ?_
          obtain ⟨v58, e59⟩ : ∃ zz : Int, zz = (a2) + (3) := ⟨_, rfl⟩
          have b60 : 3 ≤ v58 ∧ v58 ≤ 15 := by omega
          refine w_t (np := 59) (l2 := [some (eR a0), some (eI (a1)), some (eI (a2)), some (eI (i3))]) (s2 := [eI (v58), eR a0]) rfl (b_iadd (by rw [← e59]; exact ev_w_in (by omega) (by omega))) rfl ?_
          refine j_al (np := 60) rfl rfl hI gA0 (by decide) (n := 16) rfl rfl (lo := -2147483648) (hi := 2147483647) (fun _ => rfl) (by omega) (by omega) ?_
          intro v61 e62 b63
          refine w_t (np := 61) (l2 := [some (eR a0), some (eI (a1)), some (eI (a2)), some (eI (i3))]) (s2 := [eR a0, eI (v61)]) rfl (s_an rfl (pos_g hI gA0 (by decide))) rfl ?_
          refine w_t (np := 62) (l2 := [some (eR a0), some (eI (a1)), some (eI (a2)), some (eI (i3))]) (s2 := [eI (a1), eR a0, eI (v61)]) rfl rfl rfl ?_
          refine w_t (np := 63) (l2 := [some (eR a0), some (eI (a1)), some (eI (a2)), some (eI (i3))]) (s2 := [eI (3), eI (a1), eR a0, eI (v61)]) rfl rfl rfl ?_
          obtain ⟨v64, e65⟩ : ∃ zz : Int, zz = (a1) + (3) := ⟨_, rfl⟩
          have b66 : 3 ≤ v64 ∧ v64 ≤ 15 := by omega
          refine w_t (np := 64) (l2 := [some (eR a0), some (eI (a1)), some (eI (a2)), some (eI (i3))]) (s2 := [eI (v64), eR a0, eI (v61)]) rfl (b_iadd (by rw [← e65]; exact ev_w_in (by omega) (by omega))) rfl ?_
          refine j_al (np := 65) rfl rfl hI gA0 (by decide) (n := 16) rfl rfl (lo := -2147483648) (hi := 2147483647) (fun _ => rfl) (by omega) (by omega) ?_
          intro v67 e68 b69
          obtain ⟨v70, e71, b72⟩ : ∃ zz : Int, ev_w ((v61) - (v67)) = zz ∧ (-2147483648 ≤ zz ∧ zz ≤ 2147483647) := ⟨_, rfl, hw_bd _⟩
          refine w_t (np := 66) (l2 := [some (eR a0), some (eI (a1)), some (eI (a2)), some (eI (i3))]) (s2 := [eI (v70)]) rfl (b_isub e71) rfl ?_
          refine w_t (np := 67) (l2 := [some (eR a0), some (eI (a1)), some (eI (a2)), some (eI (i3))]) (s2 := [eI (i3), eI (v70)]) rfl rfl rfl ?_
          refine w_t (np := 68) (l2 := [some (eR a0), some (eI (a1)), some (eI (a2)), some (eI (i3))]) (s2 := [eI (3), eI (i3), eI (v70)]) rfl rfl rfl ?_
          refine w_cu (np := 71) (as := [eI (i3), eI (3)]) (l2 := [some (eI (i3)), some (eI (3))]) (rest := [eI (v70)]) rfl rfl rfl (Nat.ble_eq.mp rfl) rfl rfl rfl rfl ?_
          refine s_218e (a0 := i3) (a1 := 3) hI (by omega) (by decide) ?_
          intro v73 b74 h75
          show ex_q (dt_fg L ρ) rc (d + 2, (322, 71, [some (eR a0), some (eI (a1)), some (eI (a2)), some (eI (i3))], [eI (v73), eI (v70)]), f :: F, μ)
          refine b_ceq (t1 := 80) (t2 := 74) rfl rfl rfl (ev_w_in (by omega) (by omega)) (ev_w_in (by omega) (by omega)) (fun g76 => ?_) (fun g76 => ?_)
          · have b77 : -1 ≤ v70 ∧ v70 ≤ 1 := by omega
            refine w_t (np := 81) (l2 := [some (eR a0), some (eI (a1)), some (eI (a2)), some (eI (i3))]) (s2 := [eI (i3)]) rfl rfl rfl ?_
            exact b_ri rfl rfl (K (i3) (by omega) (hD.u (by omega) (dm_e (R := μ.1 a0) (a1 := a1) (a2 := a2) (d := i3) (i1 := a1) (i2 := a2) 0 (by omega) (by omega) (by omega) (by omega) e8 e11 e14 h18 (by omega)) (dm_e (R := μ.1 a0) (a1 := a1) (a2 := a2) (d := i3) (i1 := v26) (i2 := v20) 1 (by omega) (by omega) (by omega) (by omega) e24 e30 e33 h37 (by omega)) (dm_e (R := μ.1 a0) (a1 := a1) (a2 := a2) (d := i3) (i1 := v45) (i2 := v39) 2 (by omega) (by omega) (by omega) (by omega) e43 e49 e52 h56 (by omega)) (dm_e (R := μ.1 a0) (a1 := a1) (a2 := a2) (d := i3) (i1 := v64) (i2 := v58) 3 (by omega) (by omega) (by omega) (by omega) e62 e68 e71 h75 (by omega))))
          · obtain ⟨v77, e78⟩ : ∃ zz : Int, zz = (i3) + (1) := ⟨_, rfl⟩
            have b79 : 1 ≤ v77 ∧ v77 ≤ 10 := by omega
            refine w_t (np := 77) (l2 := [some (eR a0), some (eI (a1)), some (eI (a2)), some (eI (v77))]) (s2 := []) rfl (b_iinc rfl (by rw [← e78]; exact ev_w_in (by omega) (by omega)) rfl) rfl ?_
            refine w_go (t1 := 2) rfl rfl ?_
            have h80 := dm_n (i1 := v64) (i2 := v58) 3 hD (by decide) (by omega) (by omega) (by omega) (by omega) e62 e68 e71 h75 (by omega) r5
            exact ih2 (10 - (v77)).toNat (by omega) (v77) (by omega)    (by omega) rfl
  exact hL2 _ (0) (by decide)    (by omega) rfl
