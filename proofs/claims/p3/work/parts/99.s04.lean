/-! methods, walked -/
theorem s_124 {L : Nat} {ρ : Nat → Int} {rc : eQ} {d : Nat} {f : eFr} {F : List eFr} {μ : eM} {g : Nat → Nat} {a0 : Nat} {a1 : Int} (hI : SI g μ) (gA0 : g a0 = 35) (bA1 : -2147483648 ≤ a1 ∧ a1 ≤ 2147483647) (K : ∀ (v : Int), (-2147483648 ≤ v ∧ v ≤ 2147483647) → ex_q (dt_fg L ρ) rc (d + 2, (f.1, f.2.1, f.2.2.1, eI v :: f.2.2.2), F, μ)) : ex_q (dt_fg L ρ) rc (d + 1, (124, 0, [some (eR a0), some (eI (a1)), none, none, none], []), f :: F, μ) := by
  refine w_t (np := 1) (l2 := [some (eR a0), some (eI (a1)), none, none, none]) (s2 := [eI (0)]) rfl rfl rfl ?_
  refine w_t (np := 2) (l2 := [some (eR a0), some (eI (a1)), some (eI (0)), none, none]) (s2 := []) rfl rfl rfl ?_
  refine w_t (np := 3) (l2 := [some (eR a0), some (eI (a1)), some (eI (0)), none, none]) (s2 := [eI (0)]) rfl rfl rfl ?_
  refine w_t (np := 4) (l2 := [some (eR a0), some (eI (a1)), some (eI (0)), some (eI (0)), none]) (s2 := []) rfl rfl rfl ?_
  have hL4 : ∀ (n1 : Nat) (i3 : Int) (i5 : Int) (o7 : Option eV), (-2147483648 ≤ i3 ∧ i3 ≤ 2147483647) → (0 ≤ i5 ∧ i5 ≤ 890) → n1 = (890 - i5).toNat → ex_q (dt_fg L ρ) rc (d + 1, (124, 4, [some (eR a0), some (eI (a1)), some (eI (i3)), some (eI (i5)), o7], []), f :: F, μ) := by
    intro n1
    induction n1 using Nat.strongRecOn with
    | _ n1 ih2 =>
    intro i3 i5 o7 b4 b6 hn8
    refine w_t (np := 5) (l2 := [some (eR a0), some (eI (a1)), some (eI (i3)), some (eI (i5)), o7]) (s2 := [eI (i5)]) rfl rfl rfl ?_
    refine w_t (np := 6) (l2 := [some (eR a0), some (eI (a1)), some (eI (i3)), some (eI (i5)), o7]) (s2 := [eR a0, eI (i5)]) rfl (s_an rfl (pos_g hI gA0 (by decide))) rfl ?_
    refine j_gr (np := 9) rfl rfl hI gA0 (by decide) (n := 15) rfl rfl rfl ?_
    intro v9 e10 b11 z12
    rcases hor2 b11 with b11 | b11
    · refine j_gi (np := 12) rfl rfl rfl hI b11 (by decide) (n := 8) rfl rfl (lo := 0) (hi := 50) rfl ?_
      intro v13 e14 b15
      refine b_cge (t1 := 68) (t2 := 15) rfl rfl rfl (ev_w_in (by omega) (by omega)) (ev_w_in (by omega) (by omega)) (fun g16 => ?_) (fun g16 => ?_)
      · refine w_t (np := 69) (l2 := [some (eR a0), some (eI (a1)), some (eI (i3)), some (eI (i5)), o7]) (s2 := [eI (i3)]) rfl rfl rfl ?_
        exact b_ri rfl rfl (K (i3) (by omega))
      · have b17 : 0 ≤ i5 ∧ i5 ≤ 49 := by omega
        have b18 : 1 ≤ v13 ∧ v13 ≤ 50 := by omega
        refine w_t (np := 16) (l2 := [some (eR a0), some (eI (a1)), some (eI (i3)), some (eI (i5)), o7]) (s2 := [eI (0)]) rfl rfl rfl ?_
        refine w_t (np := 18) (l2 := [some (eR a0), some (eI (a1)), some (eI (i3)), some (eI (i5)), some (eI (0))]) (s2 := []) rfl rfl rfl ?_
        have hL18 : ∀ (n17 : Nat) (i19 : Int) (i21 : Int), (-2147483648 ≤ i19 ∧ i19 ≤ 2147483647) → (0 ≤ i21 ∧ i21 ≤ 2) → n17 = (2 - i21).toNat → ex_q (dt_fg L ρ) rc (d + 1, (124, 18, [some (eR a0), some (eI (a1)), some (eI (i19)), some (eI (i5)), some (eI (i21))], []), f :: F, μ) := by
          intro n17
          induction n17 using Nat.strongRecOn with
          | _ n17 ih18 =>
          intro i19 i21 b20 b22 hn23
          refine w_t (np := 20) (l2 := [some (eR a0), some (eI (a1)), some (eI (i19)), some (eI (i5)), some (eI (i21))]) (s2 := [eI (i21)]) rfl rfl rfl ?_
          refine w_t (np := 21) (l2 := [some (eR a0), some (eI (a1)), some (eI (i19)), some (eI (i5)), some (eI (i21))]) (s2 := [eI (2), eI (i21)]) rfl rfl rfl ?_
          refine b_cge (t1 := 62) (t2 := 24) rfl rfl rfl (ev_w_in (by omega) (by omega)) rfl (fun g24 => ?_) (fun g24 => ?_)
          · have b25 : 2 ≤ i21 ∧ i21 ≤ 2 := by omega
            obtain ⟨v25, e26⟩ : ∃ zz : Int, zz = (i5) + (1) := ⟨_, rfl⟩
            have b27 : 1 ≤ v25 ∧ v25 ≤ 50 := by omega
            refine w_t (np := 65) (l2 := [some (eR a0), some (eI (a1)), some (eI (i19)), some (eI (v25)), some (eI (i21))]) (s2 := []) rfl (b_iinc rfl (by rw [← e26]; exact ev_w_in (by omega) (by omega)) rfl) rfl ?_
            refine w_go (t1 := 4) rfl rfl ?_
            exact ih2 (890 - (v25)).toNat (by omega) (i19) (v25) (some (eI (i21))) (by omega) (by omega)     rfl
          · have b25 : 0 ≤ i21 ∧ i21 ≤ 1 := by omega
            refine w_t (np := 25) (l2 := [some (eR a0), some (eI (a1)), some (eI (i19)), some (eI (i5)), some (eI (i21))]) (s2 := [eR a0]) rfl (s_an rfl (pos_g hI gA0 (by decide))) rfl ?_
            refine w_t (np := 26) (l2 := [some (eR a0), some (eI (a1)), some (eI (i19)), some (eI (i5)), some (eI (i21))]) (s2 := [eI (3), eR a0]) rfl rfl rfl ?_
            refine w_t (np := 27) (l2 := [some (eR a0), some (eI (a1)), some (eI (i19)), some (eI (i5)), some (eI (i21))]) (s2 := [eI (i5), eI (3), eR a0]) rfl rfl rfl ?_
            obtain ⟨v25, e26⟩ : ∃ zz : Int, zz = (3) * (i5) := ⟨_, rfl⟩
            have b27 : 0 ≤ v25 ∧ v25 ≤ 147 := by omega
            refine w_t (np := 28) (l2 := [some (eR a0), some (eI (a1)), some (eI (i19)), some (eI (i5)), some (eI (i21))]) (s2 := [eI (v25), eR a0]) rfl (b_imul (by rw [← e26]; exact ev_w_in (by omega) (by omega))) rfl ?_
            refine w_t (np := 30) (l2 := [some (eR a0), some (eI (a1)), some (eI (i19)), some (eI (i5)), some (eI (i21))]) (s2 := [eI (i21), eI (v25), eR a0]) rfl rfl rfl ?_
            obtain ⟨v28, e29⟩ : ∃ zz : Int, zz = (v25) + (i21) := ⟨_, rfl⟩
            have b30 : 0 ≤ v28 ∧ v28 ≤ 148 := by omega
            refine w_t (np := 31) (l2 := [some (eR a0), some (eI (a1)), some (eI (i19)), some (eI (i5)), some (eI (i21))]) (s2 := [eI (v28), eR a0]) rfl (b_iadd (by rw [← e29]; exact ev_w_in (by omega) (by omega))) rfl ?_
            refine w_cw (np := 34) (as := [eI (v28)]) (l2 := [some (eR a0), some (eI (v28))]) (rest := []) rfl rfl rfl (Nat.ble_eq.mp rfl) rfl rfl rfl (hI.kd gA0 (by decide) (n := 15) rfl) rfl ?_
            refine w_t (np := 1) (l2 := [some (eR a0), some (eI (v28))]) (s2 := [eR a0]) rfl (s_an rfl (pos_g hI gA0 (by decide))) rfl ?_
            refine j_gr (np := 4) rfl rfl hI gA0 (by decide) (n := 15) rfl rfl rfl ?_
            intro v31 e32 b33 z34
            have b33 : g v31 = 36 := Nat.eq_of_beq_eq_true b33
            refine w_t (np := 5) (l2 := [some (eR a0), some (eI (v28))]) (s2 := [eI (v28), eR v31]) rfl rfl rfl ?_
            refine j_al (np := 6) rfl rfl hI b33 (by decide) (n := 2670) rfl rfl (lo := -1) (hi := 2669) (fun _ => rfl) (by omega) (by omega) ?_
            intro v35 e36 b37
            refine b_ilt (t1 := 19) (t2 := 9) rfl rfl rfl (ev_w_in (by omega) (by omega)) (fun g38 => ?_) (fun g38 => ?_)
            · have b39 : -1 ≤ v35 ∧ v35 ≤ -1 := by omega
              refine w_t (np := 20) (l2 := [some (eR a0), some (eI (v28))]) (s2 := [eI (1)]) rfl rfl rfl ?_
              refine w_go (t1 := 24) rfl rfl ?_
              refine b_rz rfl rfl (Or.inr rfl) ?_
              show ex_q (dt_fg L ρ) rc (d + 1, (124, 34, [some (eR a0), some (eI (a1)), some (eI (i19)), some (eI (i5)), some (eI (i21))], [eI (1)]), f :: F, μ)
              refine b_ieq (t1 := 56) (t2 := 37) rfl rfl rfl rfl (fun g39 => absurd g39 (by decide)) (fun g39 => ?_)
              refine w_t (np := 38) (l2 := [some (eR a0), some (eI (a1)), some (eI (i19)), some (eI (i5)), some (eI (i21))]) (s2 := [eR a0]) rfl (s_an rfl (pos_g hI gA0 (by decide))) rfl ?_
              refine w_gf (np := 41) (v := eR v9) rfl rfl (hI.kd gA0 (by decide) (n := 15) rfl) (by rw [e10]; rfl) ?_
              refine w_t (np := 42) (l2 := [some (eR a0), some (eI (a1)), some (eI (i19)), some (eI (i5)), some (eI (i21))]) (s2 := [eI (i5), eR v9]) rfl rfl rfl ?_
              refine w_t (np := 44) (l2 := [some (eR a0), some (eI (a1)), some (eI (i19)), some (eI (i5)), some (eI (i21))]) (s2 := [eI (i21), eI (i5), eR v9]) rfl rfl rfl ?_
              refine w_cw (np := 47) (as := [eI (i5), eI (i21)]) (l2 := [some (eR v9), some (eI (i5)), some (eI (i21))]) (rest := []) rfl rfl rfl (Nat.ble_eq.mp rfl) rfl rfl rfl (hI.kd b11 (by decide) (n := 8) rfl) rfl ?_
              refine s_23 (a1 := i5) (a2 := i21) hI b11 (by omega) (by omega) ?_
              intro v40 b41
              show ex_q (dt_fg L ρ) rc (d + 1, (124, 47, [some (eR a0), some (eI (a1)), some (eI (i19)), some (eI (i5)), some (eI (i21))], [eI (v40)]), f :: F, μ)
              refine w_t (np := 48) (l2 := [some (eR a0), some (eI (a1)), some (eI (i19)), some (eI (i5)), some (eI (i21))]) (s2 := [eI (5), eI (v40)]) rfl rfl rfl ?_
              obtain ⟨v42, e43, b44⟩ := h_irem (a := v40) (k := 5) (by decide) (by decide) (show (-2147483648 : Int) ≤ v40 ∧ (v40 : Int) ≤ 2147483647 by omega)
              have b45 : 0 ≤ v42 ∧ v42 ≤ 4 := by omega
              refine w_t (np := 49) (l2 := [some (eR a0), some (eI (a1)), some (eI (i19)), some (eI (i5)), some (eI (i21))]) (s2 := [eI (v42)]) rfl (e43 _ _) rfl ?_
              refine w_t (np := 50) (l2 := [some (eR a0), some (eI (a1)), some (eI (i19)), some (eI (i5)), some (eI (i21))]) (s2 := [eI (a1), eI (v42)]) rfl rfl rfl ?_
              refine b_cne (t1 := 56) (t2 := 53) rfl rfl rfl (ev_w_in (by omega) (by omega)) (ev_w_in (by omega) (by omega)) (fun g46 => ?_) (fun g46 => ?_)
              · obtain ⟨v47, e48⟩ : ∃ zz : Int, zz = (i21) + (1) := ⟨_, rfl⟩
                have b49 : 1 ≤ v47 ∧ v47 ≤ 2 := by omega
                refine w_t (np := 59) (l2 := [some (eR a0), some (eI (a1)), some (eI (i19)), some (eI (i5)), some (eI (v47))]) (s2 := []) rfl (b_iinc rfl (by rw [← e48]; exact ev_w_in (by omega) (by omega)) rfl) rfl ?_
                refine w_go (t1 := 18) rfl rfl ?_
                exact ih18 (2 - (v47)).toNat (by omega) (i19) (v47) (by omega) (by omega)     rfl
              · have b47 : 0 ≤ a1 ∧ a1 ≤ 4 := by omega
                obtain ⟨v47, e48, b49⟩ : ∃ zz : Int, ev_w ((i19) + (1)) = zz ∧ (-2147483648 ≤ zz ∧ zz ≤ 2147483647) := ⟨_, rfl, hw_bd _⟩
                refine w_t (np := 56) (l2 := [some (eR a0), some (eI (a1)), some (eI (v47)), some (eI (i5)), some (eI (i21))]) (s2 := []) rfl (b_iinc rfl e48 rfl) rfl ?_
                obtain ⟨v50, e51⟩ : ∃ zz : Int, zz = (i21) + (1) := ⟨_, rfl⟩
                have b52 : 1 ≤ v50 ∧ v50 ≤ 2 := by omega
                refine w_t (np := 59) (l2 := [some (eR a0), some (eI (a1)), some (eI (v47)), some (eI (i5)), some (eI (v50))]) (s2 := []) rfl (b_iinc rfl (by rw [← e51]; exact ev_w_in (by omega) (by omega)) rfl) rfl ?_
                refine w_go (t1 := 18) rfl rfl ?_
                exact ih18 (2 - (v50)).toNat (by omega) (v47) (v50) (by omega) (by omega)     rfl
            · have b39 : 0 ≤ v35 ∧ v35 ≤ 2669 := by omega
              refine w_t (np := 10) (l2 := [some (eR a0), some (eI (v28))]) (s2 := [eR a0]) rfl (s_an rfl (pos_g hI gA0 (by decide))) rfl ?_
              refine w_gf (np := 13) (v := eR v31) rfl rfl (hI.kd gA0 (by decide) (n := 15) rfl) (by rw [e32]; rfl) ?_
              refine w_t (np := 14) (l2 := [some (eR a0), some (eI (v28))]) (s2 := [eI (v28), eR v31]) rfl rfl rfl ?_
              refine j_al (np := 15) rfl rfl hI b33 (by decide) (n := 2670) rfl rfl (lo := -1) (hi := 2669) (fun _ => rfl) (by omega) (by omega) ?_
              intro v39 e40 b41
              have e40 := e40.symm.trans e36
              rw [e40]
              refine w_t (np := 16) (l2 := [some (eR a0), some (eI (v28))]) (s2 := [eI (v28), eI (v35)]) rfl rfl rfl ?_
              refine b_cle (t1 := 23) (t2 := 19) rfl rfl rfl (ev_w_in (by omega) (by omega)) (ev_w_in (by omega) (by omega)) (fun g42 => ?_) (fun g42 => ?_)
              · have b43 : 0 ≤ v35 ∧ v35 ≤ 148 := by omega
                refine w_t (np := 24) (l2 := [some (eR a0), some (eI (v28))]) (s2 := [eI (0)]) rfl rfl rfl ?_
                refine b_rz rfl rfl (Or.inl rfl) ?_
                show ex_q (dt_fg L ρ) rc (d + 1, (124, 34, [some (eR a0), some (eI (a1)), some (eI (i19)), some (eI (i5)), some (eI (i21))], [eI (0)]), f :: F, μ)
                refine b_ieq (t1 := 56) (t2 := 37) rfl rfl rfl rfl (fun g43 => ?_) (fun g43 => absurd g43 (by decide))
                obtain ⟨v44, e45⟩ : ∃ zz : Int, zz = (i21) + (1) := ⟨_, rfl⟩
                have b46 : 1 ≤ v44 ∧ v44 ≤ 2 := by omega
                refine w_t (np := 59) (l2 := [some (eR a0), some (eI (a1)), some (eI (i19)), some (eI (i5)), some (eI (v44))]) (s2 := []) rfl (b_iinc rfl (by rw [← e45]; exact ev_w_in (by omega) (by omega)) rfl) rfl ?_
                refine w_go (t1 := 18) rfl rfl ?_
                exact ih18 (2 - (v44)).toNat (by omega) (i19) (v44) (by omega) (by omega)     rfl
              · have b43 : 1 ≤ v35 ∧ v35 ≤ 2669 := by omega
                refine w_t (np := 20) (l2 := [some (eR a0), some (eI (v28))]) (s2 := [eI (1)]) rfl rfl rfl ?_
                refine w_go (t1 := 24) rfl rfl ?_
                refine b_rz rfl rfl (Or.inr rfl) ?_
                show ex_q (dt_fg L ρ) rc (d + 1, (124, 34, [some (eR a0), some (eI (a1)), some (eI (i19)), some (eI (i5)), some (eI (i21))], [eI (1)]), f :: F, μ)
                refine b_ieq (t1 := 56) (t2 := 37) rfl rfl rfl rfl (fun g43 => absurd g43 (by decide)) (fun g43 => ?_)
                refine w_t (np := 38) (l2 := [some (eR a0), some (eI (a1)), some (eI (i19)), some (eI (i5)), some (eI (i21))]) (s2 := [eR a0]) rfl (s_an rfl (pos_g hI gA0 (by decide))) rfl ?_
                refine w_gf (np := 41) (v := eR v9) rfl rfl (hI.kd gA0 (by decide) (n := 15) rfl) (by rw [e10]; rfl) ?_
                refine w_t (np := 42) (l2 := [some (eR a0), some (eI (a1)), some (eI (i19)), some (eI (i5)), some (eI (i21))]) (s2 := [eI (i5), eR v9]) rfl rfl rfl ?_
                refine w_t (np := 44) (l2 := [some (eR a0), some (eI (a1)), some (eI (i19)), some (eI (i5)), some (eI (i21))]) (s2 := [eI (i21), eI (i5), eR v9]) rfl rfl rfl ?_
                refine w_cw (np := 47) (as := [eI (i5), eI (i21)]) (l2 := [some (eR v9), some (eI (i5)), some (eI (i21))]) (rest := []) rfl rfl rfl (Nat.ble_eq.mp rfl) rfl rfl rfl (hI.kd b11 (by decide) (n := 8) rfl) rfl ?_
                refine s_23 (a1 := i5) (a2 := i21) hI b11 (by omega) (by omega) ?_
                intro v44 b45
                show ex_q (dt_fg L ρ) rc (d + 1, (124, 47, [some (eR a0), some (eI (a1)), some (eI (i19)), some (eI (i5)), some (eI (i21))], [eI (v44)]), f :: F, μ)
                refine w_t (np := 48) (l2 := [some (eR a0), some (eI (a1)), some (eI (i19)), some (eI (i5)), some (eI (i21))]) (s2 := [eI (5), eI (v44)]) rfl rfl rfl ?_
                obtain ⟨v46, e47, b48⟩ := h_irem (a := v44) (k := 5) (by decide) (by decide) (show (-2147483648 : Int) ≤ v44 ∧ (v44 : Int) ≤ 2147483647 by omega)
                have b49 : 0 ≤ v46 ∧ v46 ≤ 4 := by omega
                refine w_t (np := 49) (l2 := [some (eR a0), some (eI (a1)), some (eI (i19)), some (eI (i5)), some (eI (i21))]) (s2 := [eI (v46)]) rfl (e47 _ _) rfl ?_
                refine w_t (np := 50) (l2 := [some (eR a0), some (eI (a1)), some (eI (i19)), some (eI (i5)), some (eI (i21))]) (s2 := [eI (a1), eI (v46)]) rfl rfl rfl ?_
                refine b_cne (t1 := 56) (t2 := 53) rfl rfl rfl (ev_w_in (by omega) (by omega)) (ev_w_in (by omega) (by omega)) (fun g50 => ?_) (fun g50 => ?_)
                · obtain ⟨v51, e52⟩ : ∃ zz : Int, zz = (i21) + (1) := ⟨_, rfl⟩
                  have b53 : 1 ≤ v51 ∧ v51 ≤ 2 := by omega
                  refine w_t (np := 59) (l2 := [some (eR a0), some (eI (a1)), some (eI (i19)), some (eI (i5)), some (eI (v51))]) (s2 := []) rfl (b_iinc rfl (by rw [← e52]; exact ev_w_in (by omega) (by omega)) rfl) rfl ?_
                  refine w_go (t1 := 18) rfl rfl ?_
                  exact ih18 (2 - (v51)).toNat (by omega) (i19) (v51) (by omega) (by omega)     rfl
                · have b51 : 0 ≤ a1 ∧ a1 ≤ 4 := by omega
                  obtain ⟨v51, e52, b53⟩ : ∃ zz : Int, ev_w ((i19) + (1)) = zz ∧ (-2147483648 ≤ zz ∧ zz ≤ 2147483647) := ⟨_, rfl, hw_bd _⟩
                  refine w_t (np := 56) (l2 := [some (eR a0), some (eI (a1)), some (eI (v51)), some (eI (i5)), some (eI (i21))]) (s2 := []) rfl (b_iinc rfl e52 rfl) rfl ?_
                  obtain ⟨v54, e55⟩ : ∃ zz : Int, zz = (i21) + (1) := ⟨_, rfl⟩
                  have b56 : 1 ≤ v54 ∧ v54 ≤ 2 := by omega
                  refine w_t (np := 59) (l2 := [some (eR a0), some (eI (a1)), some (eI (v51)), some (eI (i5)), some (eI (v54))]) (s2 := []) rfl (b_iinc rfl (by rw [← e55]; exact ev_w_in (by omega) (by omega)) rfl) rfl ?_
                  refine w_go (t1 := 18) rfl rfl ?_
                  exact ih18 (2 - (v54)).toNat (by omega) (v51) (v54) (by omega) (by omega)     rfl
        exact hL18 _ (i3) (0) (by omega) (by decide)     rfl
    · refine j_gi (np := 12) rfl rfl rfl hI b11 (by decide) (n := 8) rfl rfl (lo := 0) (hi := 890) rfl ?_
      intro v13 e14 b15
      refine b_cge (t1 := 68) (t2 := 15) rfl rfl rfl (ev_w_in (by omega) (by omega)) (ev_w_in (by omega) (by omega)) (fun g16 => ?_) (fun g16 => ?_)
      · refine w_t (np := 69) (l2 := [some (eR a0), some (eI (a1)), some (eI (i3)), some (eI (i5)), o7]) (s2 := [eI (i3)]) rfl rfl rfl ?_
        exact b_ri rfl rfl (K (i3) (by omega))
      · have b17 : 0 ≤ i5 ∧ i5 ≤ 889 := by omega
        have b18 : 1 ≤ v13 ∧ v13 ≤ 890 := by omega
        refine w_t (np := 16) (l2 := [some (eR a0), some (eI (a1)), some (eI (i3)), some (eI (i5)), o7]) (s2 := [eI (0)]) rfl rfl rfl ?_
        refine w_t (np := 18) (l2 := [some (eR a0), some (eI (a1)), some (eI (i3)), some (eI (i5)), some (eI (0))]) (s2 := []) rfl rfl rfl ?_
        have hL18 : ∀ (n17 : Nat) (i19 : Int) (i21 : Int), (-2147483648 ≤ i19 ∧ i19 ≤ 2147483647) → (0 ≤ i21 ∧ i21 ≤ 2) → n17 = (2 - i21).toNat → ex_q (dt_fg L ρ) rc (d + 1, (124, 18, [some (eR a0), some (eI (a1)), some (eI (i19)), some (eI (i5)), some (eI (i21))], []), f :: F, μ) := by
          intro n17
          induction n17 using Nat.strongRecOn with
          | _ n17 ih18 =>
          intro i19 i21 b20 b22 hn23
          refine w_t (np := 20) (l2 := [some (eR a0), some (eI (a1)), some (eI (i19)), some (eI (i5)), some (eI (i21))]) (s2 := [eI (i21)]) rfl rfl rfl ?_
          refine w_t (np := 21) (l2 := [some (eR a0), some (eI (a1)), some (eI (i19)), some (eI (i5)), some (eI (i21))]) (s2 := [eI (2), eI (i21)]) rfl rfl rfl ?_
          refine b_cge (t1 := 62) (t2 := 24) rfl rfl rfl (ev_w_in (by omega) (by omega)) rfl (fun g24 => ?_) (fun g24 => ?_)
          · have b25 : 2 ≤ i21 ∧ i21 ≤ 2 := by omega
            obtain ⟨v25, e26⟩ : ∃ zz : Int, zz = (i5) + (1) := ⟨_, rfl⟩
            have b27 : 1 ≤ v25 ∧ v25 ≤ 890 := by omega
            refine w_t (np := 65) (l2 := [some (eR a0), some (eI (a1)), some (eI (i19)), some (eI (v25)), some (eI (i21))]) (s2 := []) rfl (b_iinc rfl (by rw [← e26]; exact ev_w_in (by omega) (by omega)) rfl) rfl ?_
            refine w_go (t1 := 4) rfl rfl ?_
            exact ih2 (890 - (v25)).toNat (by omega) (i19) (v25) (some (eI (i21))) (by omega) (by omega)     rfl
          · have b25 : 0 ≤ i21 ∧ i21 ≤ 1 := by omega
            refine w_t (np := 25) (l2 := [some (eR a0), some (eI (a1)), some (eI (i19)), some (eI (i5)), some (eI (i21))]) (s2 := [eR a0]) rfl (s_an rfl (pos_g hI gA0 (by decide))) rfl ?_
            refine w_t (np := 26) (l2 := [some (eR a0), some (eI (a1)), some (eI (i19)), some (eI (i5)), some (eI (i21))]) (s2 := [eI (3), eR a0]) rfl rfl rfl ?_
            refine w_t (np := 27) (l2 := [some (eR a0), some (eI (a1)), some (eI (i19)), some (eI (i5)), some (eI (i21))]) (s2 := [eI (i5), eI (3), eR a0]) rfl rfl rfl ?_
            obtain ⟨v25, e26⟩ : ∃ zz : Int, zz = (3) * (i5) := ⟨_, rfl⟩
            have b27 : 0 ≤ v25 ∧ v25 ≤ 2667 := by omega
            refine w_t (np := 28) (l2 := [some (eR a0), some (eI (a1)), some (eI (i19)), some (eI (i5)), some (eI (i21))]) (s2 := [eI (v25), eR a0]) rfl (b_imul (by rw [← e26]; exact ev_w_in (by omega) (by omega))) rfl ?_
            refine w_t (np := 30) (l2 := [some (eR a0), some (eI (a1)), some (eI (i19)), some (eI (i5)), some (eI (i21))]) (s2 := [eI (i21), eI (v25), eR a0]) rfl rfl rfl ?_
            obtain ⟨v28, e29⟩ : ∃ zz : Int, zz = (v25) + (i21) := ⟨_, rfl⟩
            have b30 : 0 ≤ v28 ∧ v28 ≤ 2668 := by omega
            refine w_t (np := 31) (l2 := [some (eR a0), some (eI (a1)), some (eI (i19)), some (eI (i5)), some (eI (i21))]) (s2 := [eI (v28), eR a0]) rfl (b_iadd (by rw [← e29]; exact ev_w_in (by omega) (by omega))) rfl ?_
            refine w_cw (np := 34) (as := [eI (v28)]) (l2 := [some (eR a0), some (eI (v28))]) (rest := []) rfl rfl rfl (Nat.ble_eq.mp rfl) rfl rfl rfl (hI.kd gA0 (by decide) (n := 15) rfl) rfl ?_
            refine w_t (np := 1) (l2 := [some (eR a0), some (eI (v28))]) (s2 := [eR a0]) rfl (s_an rfl (pos_g hI gA0 (by decide))) rfl ?_
            refine j_gr (np := 4) rfl rfl hI gA0 (by decide) (n := 15) rfl rfl rfl ?_
            intro v31 e32 b33 z34
            have b33 : g v31 = 36 := Nat.eq_of_beq_eq_true b33
            refine w_t (np := 5) (l2 := [some (eR a0), some (eI (v28))]) (s2 := [eI (v28), eR v31]) rfl rfl rfl ?_
            refine j_al (np := 6) rfl rfl hI b33 (by decide) (n := 2670) rfl rfl (lo := -1) (hi := 2669) (fun _ => rfl) (by omega) (by omega) ?_
            intro v35 e36 b37
            refine b_ilt (t1 := 19) (t2 := 9) rfl rfl rfl (ev_w_in (by omega) (by omega)) (fun g38 => ?_) (fun g38 => ?_)
            · have b39 : -1 ≤ v35 ∧ v35 ≤ -1 := by omega
              refine w_t (np := 20) (l2 := [some (eR a0), some (eI (v28))]) (s2 := [eI (1)]) rfl rfl rfl ?_
              refine w_go (t1 := 24) rfl rfl ?_
              refine b_rz rfl rfl (Or.inr rfl) ?_
              show ex_q (dt_fg L ρ) rc (d + 1, (124, 34, [some (eR a0), some (eI (a1)), some (eI (i19)), some (eI (i5)), some (eI (i21))], [eI (1)]), f :: F, μ)
              refine b_ieq (t1 := 56) (t2 := 37) rfl rfl rfl rfl (fun g39 => absurd g39 (by decide)) (fun g39 => ?_)
              refine w_t (np := 38) (l2 := [some (eR a0), some (eI (a1)), some (eI (i19)), some (eI (i5)), some (eI (i21))]) (s2 := [eR a0]) rfl (s_an rfl (pos_g hI gA0 (by decide))) rfl ?_
              refine w_gf (np := 41) (v := eR v9) rfl rfl (hI.kd gA0 (by decide) (n := 15) rfl) (by rw [e10]; rfl) ?_
              refine w_t (np := 42) (l2 := [some (eR a0), some (eI (a1)), some (eI (i19)), some (eI (i5)), some (eI (i21))]) (s2 := [eI (i5), eR v9]) rfl rfl rfl ?_
              refine w_t (np := 44) (l2 := [some (eR a0), some (eI (a1)), some (eI (i19)), some (eI (i5)), some (eI (i21))]) (s2 := [eI (i21), eI (i5), eR v9]) rfl rfl rfl ?_
              refine w_cw (np := 47) (as := [eI (i5), eI (i21)]) (l2 := [some (eR v9), some (eI (i5)), some (eI (i21))]) (rest := []) rfl rfl rfl (Nat.ble_eq.mp rfl) rfl rfl rfl (hI.kd b11 (by decide) (n := 8) rfl) rfl ?_
              refine s_23_2 (a1 := i5) (a2 := i21) hI b11 (by omega) (by omega) ?_
              intro v40 b41
              show ex_q (dt_fg L ρ) rc (d + 1, (124, 47, [some (eR a0), some (eI (a1)), some (eI (i19)), some (eI (i5)), some (eI (i21))], [eI (v40)]), f :: F, μ)
              refine w_t (np := 48) (l2 := [some (eR a0), some (eI (a1)), some (eI (i19)), some (eI (i5)), some (eI (i21))]) (s2 := [eI (5), eI (v40)]) rfl rfl rfl ?_
              obtain ⟨v42, e43, b44⟩ := h_irem (a := v40) (k := 5) (by decide) (by decide) (show (-2147483648 : Int) ≤ v40 ∧ (v40 : Int) ≤ 2147483647 by omega)
              have b45 : 0 ≤ v42 ∧ v42 ≤ 4 := by omega
              refine w_t (np := 49) (l2 := [some (eR a0), some (eI (a1)), some (eI (i19)), some (eI (i5)), some (eI (i21))]) (s2 := [eI (v42)]) rfl (e43 _ _) rfl ?_
              refine w_t (np := 50) (l2 := [some (eR a0), some (eI (a1)), some (eI (i19)), some (eI (i5)), some (eI (i21))]) (s2 := [eI (a1), eI (v42)]) rfl rfl rfl ?_
              refine b_cne (t1 := 56) (t2 := 53) rfl rfl rfl (ev_w_in (by omega) (by omega)) (ev_w_in (by omega) (by omega)) (fun g46 => ?_) (fun g46 => ?_)
              · obtain ⟨v47, e48⟩ : ∃ zz : Int, zz = (i21) + (1) := ⟨_, rfl⟩
                have b49 : 1 ≤ v47 ∧ v47 ≤ 2 := by omega
                refine w_t (np := 59) (l2 := [some (eR a0), some (eI (a1)), some (eI (i19)), some (eI (i5)), some (eI (v47))]) (s2 := []) rfl (b_iinc rfl (by rw [← e48]; exact ev_w_in (by omega) (by omega)) rfl) rfl ?_
                refine w_go (t1 := 18) rfl rfl ?_
                exact ih18 (2 - (v47)).toNat (by omega) (i19) (v47) (by omega) (by omega)     rfl
              · have b47 : 0 ≤ a1 ∧ a1 ≤ 4 := by omega
                obtain ⟨v47, e48, b49⟩ : ∃ zz : Int, ev_w ((i19) + (1)) = zz ∧ (-2147483648 ≤ zz ∧ zz ≤ 2147483647) := ⟨_, rfl, hw_bd _⟩
                refine w_t (np := 56) (l2 := [some (eR a0), some (eI (a1)), some (eI (v47)), some (eI (i5)), some (eI (i21))]) (s2 := []) rfl (b_iinc rfl e48 rfl) rfl ?_
                obtain ⟨v50, e51⟩ : ∃ zz : Int, zz = (i21) + (1) := ⟨_, rfl⟩
                have b52 : 1 ≤ v50 ∧ v50 ≤ 2 := by omega
                refine w_t (np := 59) (l2 := [some (eR a0), some (eI (a1)), some (eI (v47)), some (eI (i5)), some (eI (v50))]) (s2 := []) rfl (b_iinc rfl (by rw [← e51]; exact ev_w_in (by omega) (by omega)) rfl) rfl ?_
                refine w_go (t1 := 18) rfl rfl ?_
                exact ih18 (2 - (v50)).toNat (by omega) (v47) (v50) (by omega) (by omega)     rfl
            · have b39 : 0 ≤ v35 ∧ v35 ≤ 2669 := by omega
              refine w_t (np := 10) (l2 := [some (eR a0), some (eI (v28))]) (s2 := [eR a0]) rfl (s_an rfl (pos_g hI gA0 (by decide))) rfl ?_
              refine w_gf (np := 13) (v := eR v31) rfl rfl (hI.kd gA0 (by decide) (n := 15) rfl) (by rw [e32]; rfl) ?_
              refine w_t (np := 14) (l2 := [some (eR a0), some (eI (v28))]) (s2 := [eI (v28), eR v31]) rfl rfl rfl ?_
              refine j_al (np := 15) rfl rfl hI b33 (by decide) (n := 2670) rfl rfl (lo := -1) (hi := 2669) (fun _ => rfl) (by omega) (by omega) ?_
              intro v39 e40 b41
              have e40 := e40.symm.trans e36
              rw [e40]
              refine w_t (np := 16) (l2 := [some (eR a0), some (eI (v28))]) (s2 := [eI (v28), eI (v35)]) rfl rfl rfl ?_
              refine b_cle (t1 := 23) (t2 := 19) rfl rfl rfl (ev_w_in (by omega) (by omega)) (ev_w_in (by omega) (by omega)) (fun g42 => ?_) (fun g42 => ?_)
              · have b43 : 0 ≤ v35 ∧ v35 ≤ 2668 := by omega
                refine w_t (np := 24) (l2 := [some (eR a0), some (eI (v28))]) (s2 := [eI (0)]) rfl rfl rfl ?_
                refine b_rz rfl rfl (Or.inl rfl) ?_
                show ex_q (dt_fg L ρ) rc (d + 1, (124, 34, [some (eR a0), some (eI (a1)), some (eI (i19)), some (eI (i5)), some (eI (i21))], [eI (0)]), f :: F, μ)
                refine b_ieq (t1 := 56) (t2 := 37) rfl rfl rfl rfl (fun g43 => ?_) (fun g43 => absurd g43 (by decide))
                obtain ⟨v44, e45⟩ : ∃ zz : Int, zz = (i21) + (1) := ⟨_, rfl⟩
                have b46 : 1 ≤ v44 ∧ v44 ≤ 2 := by omega
                refine w_t (np := 59) (l2 := [some (eR a0), some (eI (a1)), some (eI (i19)), some (eI (i5)), some (eI (v44))]) (s2 := []) rfl (b_iinc rfl (by rw [← e45]; exact ev_w_in (by omega) (by omega)) rfl) rfl ?_
                refine w_go (t1 := 18) rfl rfl ?_
                exact ih18 (2 - (v44)).toNat (by omega) (i19) (v44) (by omega) (by omega)     rfl
              · have b43 : 1 ≤ v35 ∧ v35 ≤ 2669 := by omega
                refine w_t (np := 20) (l2 := [some (eR a0), some (eI (v28))]) (s2 := [eI (1)]) rfl rfl rfl ?_
                refine w_go (t1 := 24) rfl rfl ?_
                refine b_rz rfl rfl (Or.inr rfl) ?_
                show ex_q (dt_fg L ρ) rc (d + 1, (124, 34, [some (eR a0), some (eI (a1)), some (eI (i19)), some (eI (i5)), some (eI (i21))], [eI (1)]), f :: F, μ)
                refine b_ieq (t1 := 56) (t2 := 37) rfl rfl rfl rfl (fun g43 => absurd g43 (by decide)) (fun g43 => ?_)
                refine w_t (np := 38) (l2 := [some (eR a0), some (eI (a1)), some (eI (i19)), some (eI (i5)), some (eI (i21))]) (s2 := [eR a0]) rfl (s_an rfl (pos_g hI gA0 (by decide))) rfl ?_
                refine w_gf (np := 41) (v := eR v9) rfl rfl (hI.kd gA0 (by decide) (n := 15) rfl) (by rw [e10]; rfl) ?_
                refine w_t (np := 42) (l2 := [some (eR a0), some (eI (a1)), some (eI (i19)), some (eI (i5)), some (eI (i21))]) (s2 := [eI (i5), eR v9]) rfl rfl rfl ?_
                refine w_t (np := 44) (l2 := [some (eR a0), some (eI (a1)), some (eI (i19)), some (eI (i5)), some (eI (i21))]) (s2 := [eI (i21), eI (i5), eR v9]) rfl rfl rfl ?_
                refine w_cw (np := 47) (as := [eI (i5), eI (i21)]) (l2 := [some (eR v9), some (eI (i5)), some (eI (i21))]) (rest := []) rfl rfl rfl (Nat.ble_eq.mp rfl) rfl rfl rfl (hI.kd b11 (by decide) (n := 8) rfl) rfl ?_
                refine s_23_2 (a1 := i5) (a2 := i21) hI b11 (by omega) (by omega) ?_
                intro v44 b45
                show ex_q (dt_fg L ρ) rc (d + 1, (124, 47, [some (eR a0), some (eI (a1)), some (eI (i19)), some (eI (i5)), some (eI (i21))], [eI (v44)]), f :: F, μ)
                refine w_t (np := 48) (l2 := [some (eR a0), some (eI (a1)), some (eI (i19)), some (eI (i5)), some (eI (i21))]) (s2 := [eI (5), eI (v44)]) rfl rfl rfl ?_
                obtain ⟨v46, e47, b48⟩ := h_irem (a := v44) (k := 5) (by decide) (by decide) (show (-2147483648 : Int) ≤ v44 ∧ (v44 : Int) ≤ 2147483647 by omega)
                have b49 : 0 ≤ v46 ∧ v46 ≤ 4 := by omega
                refine w_t (np := 49) (l2 := [some (eR a0), some (eI (a1)), some (eI (i19)), some (eI (i5)), some (eI (i21))]) (s2 := [eI (v46)]) rfl (e47 _ _) rfl ?_
                refine w_t (np := 50) (l2 := [some (eR a0), some (eI (a1)), some (eI (i19)), some (eI (i5)), some (eI (i21))]) (s2 := [eI (a1), eI (v46)]) rfl rfl rfl ?_
                refine b_cne (t1 := 56) (t2 := 53) rfl rfl rfl (ev_w_in (by omega) (by omega)) (ev_w_in (by omega) (by omega)) (fun g50 => ?_) (fun g50 => ?_)
                · obtain ⟨v51, e52⟩ : ∃ zz : Int, zz = (i21) + (1) := ⟨_, rfl⟩
                  have b53 : 1 ≤ v51 ∧ v51 ≤ 2 := by omega
                  refine w_t (np := 59) (l2 := [some (eR a0), some (eI (a1)), some (eI (i19)), some (eI (i5)), some (eI (v51))]) (s2 := []) rfl (b_iinc rfl (by rw [← e52]; exact ev_w_in (by omega) (by omega)) rfl) rfl ?_
                  refine w_go (t1 := 18) rfl rfl ?_
                  exact ih18 (2 - (v51)).toNat (by omega) (i19) (v51) (by omega) (by omega)     rfl
                · have b51 : 0 ≤ a1 ∧ a1 ≤ 4 := by omega
                  obtain ⟨v51, e52, b53⟩ : ∃ zz : Int, ev_w ((i19) + (1)) = zz ∧ (-2147483648 ≤ zz ∧ zz ≤ 2147483647) := ⟨_, rfl, hw_bd _⟩
                  refine w_t (np := 56) (l2 := [some (eR a0), some (eI (a1)), some (eI (v51)), some (eI (i5)), some (eI (i21))]) (s2 := []) rfl (b_iinc rfl e52 rfl) rfl ?_
                  obtain ⟨v54, e55⟩ : ∃ zz : Int, zz = (i21) + (1) := ⟨_, rfl⟩
                  have b56 : 1 ≤ v54 ∧ v54 ≤ 2 := by omega
                  refine w_t (np := 59) (l2 := [some (eR a0), some (eI (a1)), some (eI (v51)), some (eI (i5)), some (eI (v54))]) (s2 := []) rfl (b_iinc rfl (by rw [← e55]; exact ev_w_in (by omega) (by omega)) rfl) rfl ?_
                  refine w_go (t1 := 18) rfl rfl ?_
                  exact ih18 (2 - (v54)).toNat (by omega) (v51) (v54) (by omega) (by omega)     rfl
        exact hL18 _ (i3) (0) (by omega) (by decide)     rfl
  exact hL4 _ (0) (0) (none) (by decide) (by decide)     rfl
theorem s_128 {L : Nat} {ρ : Nat → Int} {rc : eQ} {d : Nat} {f : eFr} {F : List eFr} {μ : eM} {g : Nat → Nat} {a0 : Nat} {a1 : Int} (hI : SI g μ) (gA0 : g a0 = 29) (bA1 : -2147483648 ≤ a1 ∧ a1 ≤ 2147483647) (K : ∀ (v : Int), (0 ≤ v ∧ v ≤ 1) → ex_q (dt_fg L ρ) rc (d + 2, (f.1, f.2.1, f.2.2.1, eI v :: f.2.2.2), F, μ)) : ex_q (dt_fg L ρ) rc (d + 1, (128, 0, [some (eR a0), some (eI (a1))], []), f :: F, μ) := by
  refine w_t (np := 1) (l2 := [some (eR a0), some (eI (a1))]) (s2 := [eR a0]) rfl (s_an rfl (pos_g hI gA0 (by decide))) rfl ?_
  refine w_t (np := 2) (l2 := [some (eR a0), some (eI (a1))]) (s2 := [eI (a1), eR a0]) rfl rfl rfl ?_
  refine w_cw (np := 5) (as := [eI (a1)]) (l2 := [some (eR a0), some (eI (a1))]) (rest := []) rfl rfl rfl (Nat.ble_eq.mp rfl) rfl rfl rfl (hI.kd gA0 (by decide) (n := 7) rfl) rfl ?_
  refine w_t (np := 1) (l2 := [some (eR a0), some (eI (a1))]) (s2 := [eI (a1)]) rfl rfl rfl ?_
  refine b_ilt (t1 := 12) (t2 := 4) rfl rfl rfl (ev_w_in (by omega) (by omega)) (fun g1 => ?_) (fun g1 => ?_)
  · have b2 : -2147483648 ≤ a1 ∧ a1 ≤ -1 := by omega
    refine w_t (np := 13) (l2 := [some (eR a0), some (eI (a1))]) (s2 := [eI (1)]) rfl rfl rfl ?_
    refine w_go (t1 := 17) rfl rfl ?_
    refine b_rz rfl rfl (Or.inr rfl) ?_
    show ex_q (dt_fg L ρ) rc (d + 1, (128, 5, [some (eR a0), some (eI (a1))], [eI (1)]), f :: F, μ)
    refine b_ieq (t1 := 12) (t2 := 8) rfl rfl rfl rfl (fun g2 => absurd g2 (by decide)) (fun g2 => ?_)
    refine w_t (np := 9) (l2 := [some (eR a0), some (eI (a1))]) (s2 := [eI (0)]) rfl rfl rfl ?_
    refine w_go (t1 := 18) rfl rfl ?_
    exact b_ri rfl rfl (K (0) (by decide))
  · have b2 : 0 ≤ a1 ∧ a1 ≤ 2147483647 := by omega
    refine w_t (np := 5) (l2 := [some (eR a0), some (eI (a1))]) (s2 := [eI (a1)]) rfl rfl rfl ?_
    refine w_t (np := 6) (l2 := [some (eR a0), some (eI (a1))]) (s2 := [eR a0, eI (a1)]) rfl (s_an rfl (pos_g hI gA0 (by decide))) rfl ?_
    refine j_gi (np := 9) rfl rfl rfl hI gA0 (by decide) (n := 7) rfl rfl (lo := 0) (hi := 24) rfl ?_
    intro v2 e3 b4
    refine b_clt (t1 := 16) (t2 := 12) rfl rfl rfl (ev_w_in (by omega) (by omega)) (ev_w_in (by omega) (by omega)) (fun g5 => ?_) (fun g5 => ?_)
    · have b6 : 0 ≤ a1 ∧ a1 ≤ 23 := by omega
      have b7 : 1 ≤ v2 ∧ v2 ≤ 24 := by omega
      refine w_t (np := 17) (l2 := [some (eR a0), some (eI (a1))]) (s2 := [eI (0)]) rfl rfl rfl ?_
      refine b_rz rfl rfl (Or.inl rfl) ?_
      show ex_q (dt_fg L ρ) rc (d + 1, (128, 5, [some (eR a0), some (eI (a1))], [eI (0)]), f :: F, μ)
      refine b_ieq (t1 := 12) (t2 := 8) rfl rfl rfl rfl (fun g6 => ?_) (fun g6 => absurd g6 (by decide))
      refine w_t (np := 13) (l2 := [some (eR a0), some (eI (a1))]) (s2 := [eR a0]) rfl (s_an rfl (pos_g hI gA0 (by decide))) rfl ?_
      refine j_gr (np := 16) rfl rfl hI gA0 (by decide) (n := 7) rfl rfl rfl ?_
      intro v7 e8 b9 z10
      have b9 : g v7 = 30 := Nat.eq_of_beq_eq_true b9
      refine w_t (np := 17) (l2 := [some (eR a0), some (eI (a1))]) (s2 := [eI (a1), eR v7]) rfl rfl rfl ?_
      refine j_al (np := 18) rfl rfl hI b9 (by decide) (n := 24) rfl rfl (lo := 0) (hi := 1) (fun _ => rfl) (by omega) (by omega) ?_
      intro v11 e12 b13
      exact b_ri rfl rfl (K (v11) (by omega))
    · refine w_t (np := 13) (l2 := [some (eR a0), some (eI (a1))]) (s2 := [eI (1)]) rfl rfl rfl ?_
      refine w_go (t1 := 17) rfl rfl ?_
      refine b_rz rfl rfl (Or.inr rfl) ?_
      show ex_q (dt_fg L ρ) rc (d + 1, (128, 5, [some (eR a0), some (eI (a1))], [eI (1)]), f :: F, μ)
      refine b_ieq (t1 := 12) (t2 := 8) rfl rfl rfl rfl (fun g6 => absurd g6 (by decide)) (fun g6 => ?_)
      refine w_t (np := 9) (l2 := [some (eR a0), some (eI (a1))]) (s2 := [eI (0)]) rfl rfl rfl ?_
      refine w_go (t1 := 18) rfl rfl ?_
      exact b_ri rfl rfl (K (0) (by decide))
theorem s_129 {L : Nat} {ρ : Nat → Int} {rc : eQ} {d : Nat} {f : eFr} {F : List eFr} {μ : eM} {g : Nat → Nat} {a0 : Nat} {a1 : Int} (hI : SI g μ) (gA0 : g a0 = 29) (bA1 : -2147483648 ≤ a1 ∧ a1 ≤ 2147483647) (K : ∀ (v : Int), (0 ≤ v ∧ v ≤ 9) → ex_q (dt_fg L ρ) rc (d + 2, (f.1, f.2.1, f.2.2.1, eI v :: f.2.2.2), F, μ)) : ex_q (dt_fg L ρ) rc (d + 1, (129, 0, [some (eR a0), some (eI (a1))], []), f :: F, μ) := by
  refine w_t (np := 1) (l2 := [some (eR a0), some (eI (a1))]) (s2 := [eR a0]) rfl (s_an rfl (pos_g hI gA0 (by decide))) rfl ?_
  refine w_t (np := 2) (l2 := [some (eR a0), some (eI (a1))]) (s2 := [eI (a1), eR a0]) rfl rfl rfl ?_
  refine w_cw (np := 5) (as := [eI (a1)]) (l2 := [some (eR a0), some (eI (a1))]) (rest := []) rfl rfl rfl (Nat.ble_eq.mp rfl) rfl rfl rfl (hI.kd gA0 (by decide) (n := 7) rfl) rfl ?_
  refine w_t (np := 1) (l2 := [some (eR a0), some (eI (a1))]) (s2 := [eI (a1)]) rfl rfl rfl ?_
  refine b_ilt (t1 := 12) (t2 := 4) rfl rfl rfl (ev_w_in (by omega) (by omega)) (fun g1 => ?_) (fun g1 => ?_)
  · have b2 : -2147483648 ≤ a1 ∧ a1 ≤ -1 := by omega
    refine w_t (np := 13) (l2 := [some (eR a0), some (eI (a1))]) (s2 := [eI (1)]) rfl rfl rfl ?_
    refine w_go (t1 := 17) rfl rfl ?_
    refine b_rz rfl rfl (Or.inr rfl) ?_
    show ex_q (dt_fg L ρ) rc (d + 1, (129, 5, [some (eR a0), some (eI (a1))], [eI (1)]), f :: F, μ)
    refine b_ieq (t1 := 12) (t2 := 8) rfl rfl rfl rfl (fun g2 => absurd g2 (by decide)) (fun g2 => ?_)
    refine w_t (np := 9) (l2 := [some (eR a0), some (eI (a1))]) (s2 := [eI (0)]) rfl rfl rfl ?_
    refine w_go (t1 := 18) rfl rfl ?_
    exact b_ri rfl rfl (K (0) (by decide))
  · have b2 : 0 ≤ a1 ∧ a1 ≤ 2147483647 := by omega
    refine w_t (np := 5) (l2 := [some (eR a0), some (eI (a1))]) (s2 := [eI (a1)]) rfl rfl rfl ?_
    refine w_t (np := 6) (l2 := [some (eR a0), some (eI (a1))]) (s2 := [eR a0, eI (a1)]) rfl (s_an rfl (pos_g hI gA0 (by decide))) rfl ?_
    refine j_gi (np := 9) rfl rfl rfl hI gA0 (by decide) (n := 7) rfl rfl (lo := 0) (hi := 24) rfl ?_
    intro v2 e3 b4
    refine b_clt (t1 := 16) (t2 := 12) rfl rfl rfl (ev_w_in (by omega) (by omega)) (ev_w_in (by omega) (by omega)) (fun g5 => ?_) (fun g5 => ?_)
    · have b6 : 0 ≤ a1 ∧ a1 ≤ 23 := by omega
      have b7 : 1 ≤ v2 ∧ v2 ≤ 24 := by omega
      refine w_t (np := 17) (l2 := [some (eR a0), some (eI (a1))]) (s2 := [eI (0)]) rfl rfl rfl ?_
      refine b_rz rfl rfl (Or.inl rfl) ?_
      show ex_q (dt_fg L ρ) rc (d + 1, (129, 5, [some (eR a0), some (eI (a1))], [eI (0)]), f :: F, μ)
      refine b_ieq (t1 := 12) (t2 := 8) rfl rfl rfl rfl (fun g6 => ?_) (fun g6 => absurd g6 (by decide))
      refine w_t (np := 13) (l2 := [some (eR a0), some (eI (a1))]) (s2 := [eR a0]) rfl (s_an rfl (pos_g hI gA0 (by decide))) rfl ?_
      refine j_gr (np := 16) rfl rfl hI gA0 (by decide) (n := 7) rfl rfl rfl ?_
      intro v7 e8 b9 z10
      have b9 : g v7 = 31 := Nat.eq_of_beq_eq_true b9
      refine w_t (np := 17) (l2 := [some (eR a0), some (eI (a1))]) (s2 := [eI (a1), eR v7]) rfl rfl rfl ?_
      refine j_al (np := 18) rfl rfl hI b9 (by decide) (n := 24) rfl rfl (lo := 0) (hi := 9) (fun _ => rfl) (by omega) (by omega) ?_
      intro v11 e12 b13
      exact b_ri rfl rfl (K (v11) (by omega))
    · refine w_t (np := 13) (l2 := [some (eR a0), some (eI (a1))]) (s2 := [eI (1)]) rfl rfl rfl ?_
      refine w_go (t1 := 17) rfl rfl ?_
      refine b_rz rfl rfl (Or.inr rfl) ?_
      show ex_q (dt_fg L ρ) rc (d + 1, (129, 5, [some (eR a0), some (eI (a1))], [eI (1)]), f :: F, μ)
      refine b_ieq (t1 := 12) (t2 := 8) rfl rfl rfl rfl (fun g6 => absurd g6 (by decide)) (fun g6 => ?_)
      refine w_t (np := 9) (l2 := [some (eR a0), some (eI (a1))]) (s2 := [eI (0)]) rfl rfl rfl ?_
      refine w_go (t1 := 18) rfl rfl ?_
      exact b_ri rfl rfl (K (0) (by decide))
theorem s_130 {L : Nat} {ρ : Nat → Int} {rc : eQ} {d : Nat} {f : eFr} {F : List eFr} {μ : eM} {g : Nat → Nat} {a0 : Nat} {a1 : Int} (hI : SI g μ) (gA0 : g a0 = 29) (bA1 : -2147483648 ≤ a1 ∧ a1 ≤ 2147483647) (K : ∀ (v : Int), (0 ≤ v ∧ v ≤ 1) → ex_q (dt_fg L ρ) rc (d + 2, (f.1, f.2.1, f.2.2.1, eI v :: f.2.2.2), F, μ)) : ex_q (dt_fg L ρ) rc (d + 1, (130, 0, [some (eR a0), some (eI (a1))], []), f :: F, μ) := by
  refine w_t (np := 1) (l2 := [some (eR a0), some (eI (a1))]) (s2 := [eR a0]) rfl (s_an rfl (pos_g hI gA0 (by decide))) rfl ?_
  refine w_t (np := 2) (l2 := [some (eR a0), some (eI (a1))]) (s2 := [eI (a1), eR a0]) rfl rfl rfl ?_
  refine w_cw (np := 5) (as := [eI (a1)]) (l2 := [some (eR a0), some (eI (a1))]) (rest := []) rfl rfl rfl (Nat.ble_eq.mp rfl) rfl rfl rfl (hI.kd gA0 (by decide) (n := 7) rfl) rfl ?_
  refine w_t (np := 1) (l2 := [some (eR a0), some (eI (a1))]) (s2 := [eI (a1)]) rfl rfl rfl ?_
  refine b_ilt (t1 := 12) (t2 := 4) rfl rfl rfl (ev_w_in (by omega) (by omega)) (fun g1 => ?_) (fun g1 => ?_)
  · have b2 : -2147483648 ≤ a1 ∧ a1 ≤ -1 := by omega
    refine w_t (np := 13) (l2 := [some (eR a0), some (eI (a1))]) (s2 := [eI (1)]) rfl rfl rfl ?_
    refine w_go (t1 := 17) rfl rfl ?_
    refine b_rz rfl rfl (Or.inr rfl) ?_
    show ex_q (dt_fg L ρ) rc (d + 1, (130, 5, [some (eR a0), some (eI (a1))], [eI (1)]), f :: F, μ)
    refine b_ieq (t1 := 12) (t2 := 8) rfl rfl rfl rfl (fun g2 => absurd g2 (by decide)) (fun g2 => ?_)
    refine w_t (np := 9) (l2 := [some (eR a0), some (eI (a1))]) (s2 := [eI (0)]) rfl rfl rfl ?_
    refine w_go (t1 := 18) rfl rfl ?_
    exact b_ri rfl rfl (K (0) (by decide))
  · have b2 : 0 ≤ a1 ∧ a1 ≤ 2147483647 := by omega
    refine w_t (np := 5) (l2 := [some (eR a0), some (eI (a1))]) (s2 := [eI (a1)]) rfl rfl rfl ?_
    refine w_t (np := 6) (l2 := [some (eR a0), some (eI (a1))]) (s2 := [eR a0, eI (a1)]) rfl (s_an rfl (pos_g hI gA0 (by decide))) rfl ?_
    refine j_gi (np := 9) rfl rfl rfl hI gA0 (by decide) (n := 7) rfl rfl (lo := 0) (hi := 24) rfl ?_
    intro v2 e3 b4
    refine b_clt (t1 := 16) (t2 := 12) rfl rfl rfl (ev_w_in (by omega) (by omega)) (ev_w_in (by omega) (by omega)) (fun g5 => ?_) (fun g5 => ?_)
    · have b6 : 0 ≤ a1 ∧ a1 ≤ 23 := by omega
      have b7 : 1 ≤ v2 ∧ v2 ≤ 24 := by omega
      refine w_t (np := 17) (l2 := [some (eR a0), some (eI (a1))]) (s2 := [eI (0)]) rfl rfl rfl ?_
      refine b_rz rfl rfl (Or.inl rfl) ?_
      show ex_q (dt_fg L ρ) rc (d + 1, (130, 5, [some (eR a0), some (eI (a1))], [eI (0)]), f :: F, μ)
      refine b_ieq (t1 := 12) (t2 := 8) rfl rfl rfl rfl (fun g6 => ?_) (fun g6 => absurd g6 (by decide))
      refine w_t (np := 13) (l2 := [some (eR a0), some (eI (a1))]) (s2 := [eR a0]) rfl (s_an rfl (pos_g hI gA0 (by decide))) rfl ?_
      refine j_gr (np := 16) rfl rfl hI gA0 (by decide) (n := 7) rfl rfl rfl ?_
      intro v7 e8 b9 z10
      have b9 : g v7 = 32 := Nat.eq_of_beq_eq_true b9
      refine w_t (np := 17) (l2 := [some (eR a0), some (eI (a1))]) (s2 := [eI (a1), eR v7]) rfl rfl rfl ?_
      refine j_al (np := 18) rfl rfl hI b9 (by decide) (n := 24) rfl rfl (lo := 0) (hi := 1) (fun _ => rfl) (by omega) (by omega) ?_
      intro v11 e12 b13
      exact b_ri rfl rfl (K (v11) (by omega))
    · refine w_t (np := 13) (l2 := [some (eR a0), some (eI (a1))]) (s2 := [eI (1)]) rfl rfl rfl ?_
      refine w_go (t1 := 17) rfl rfl ?_
      refine b_rz rfl rfl (Or.inr rfl) ?_
      show ex_q (dt_fg L ρ) rc (d + 1, (130, 5, [some (eR a0), some (eI (a1))], [eI (1)]), f :: F, μ)
      refine b_ieq (t1 := 12) (t2 := 8) rfl rfl rfl rfl (fun g6 => absurd g6 (by decide)) (fun g6 => ?_)
      refine w_t (np := 9) (l2 := [some (eR a0), some (eI (a1))]) (s2 := [eI (0)]) rfl rfl rfl ?_
      refine w_go (t1 := 18) rfl rfl ?_
      exact b_ri rfl rfl (K (0) (by decide))
theorem s_131 {L : Nat} {ρ : Nat → Int} {rc : eQ} {d : Nat} {f : eFr} {F : List eFr} {μ : eM} {g : Nat → Nat} {a0 : Nat} {a1 : Int} {a2 : Int} (hI : SI g μ) (gA0 : g a0 = 29) (bA1 : -2147483648 ≤ a1 ∧ a1 ≤ 2147483647) (bA2 : -2147483648 ≤ a2 ∧ a2 ≤ 2147483647) (K : ∀ (v : Int), (-9223372036854775808 ≤ v ∧ v ≤ 9223372036854775807) → ex_q (dt_fg L ρ) rc (d + 2, (f.1, f.2.1, f.2.2.1, eJ v :: f.2.2.2), F, μ)) : ex_q (dt_fg L ρ) rc (d + 1, (131, 0, [some (eR a0), some (eI (a1)), some (eI (a2))], []), f :: F, μ) := by
  refine w_t (np := 1) (l2 := [some (eR a0), some (eI (a1)), some (eI (a2))]) (s2 := [eR a0]) rfl (s_an rfl (pos_g hI gA0 (by decide))) rfl ?_
  refine w_t (np := 2) (l2 := [some (eR a0), some (eI (a1)), some (eI (a2))]) (s2 := [eI (a1), eR a0]) rfl rfl rfl ?_
  refine w_cw (np := 5) (as := [eI (a1)]) (l2 := [some (eR a0), some (eI (a1))]) (rest := []) rfl rfl rfl (Nat.ble_eq.mp rfl) rfl rfl rfl (hI.kd gA0 (by decide) (n := 7) rfl) rfl ?_
  refine w_t (np := 1) (l2 := [some (eR a0), some (eI (a1))]) (s2 := [eI (a1)]) rfl rfl rfl ?_
  refine b_ilt (t1 := 12) (t2 := 4) rfl rfl rfl (ev_w_in (by omega) (by omega)) (fun g1 => ?_) (fun g1 => ?_)
  · have b2 : -2147483648 ≤ a1 ∧ a1 ≤ -1 := by omega
    refine w_t (np := 13) (l2 := [some (eR a0), some (eI (a1))]) (s2 := [eI (1)]) rfl rfl rfl ?_
    refine w_go (t1 := 17) rfl rfl ?_
    refine b_rz rfl rfl (Or.inr rfl) ?_
    show ex_q (dt_fg L ρ) rc (d + 1, (131, 5, [some (eR a0), some (eI (a1)), some (eI (a2))], [eI (1)]), f :: F, μ)
    refine b_ine (t1 := 17) (t2 := 8) rfl rfl rfl rfl (fun g2 => ?_) (fun g2 => absurd g2 (by decide))
    refine w_t (np := 18) (l2 := [some (eR a0), some (eI (a1)), some (eI (a2))]) (s2 := [eJ (0)]) rfl rfl rfl ?_
    refine w_go (t1 := 31) rfl rfl ?_
    exact b_rl rfl rfl (K (0) (by decide))
  · have b2 : 0 ≤ a1 ∧ a1 ≤ 2147483647 := by omega
    refine w_t (np := 5) (l2 := [some (eR a0), some (eI (a1))]) (s2 := [eI (a1)]) rfl rfl rfl ?_
    refine w_t (np := 6) (l2 := [some (eR a0), some (eI (a1))]) (s2 := [eR a0, eI (a1)]) rfl (s_an rfl (pos_g hI gA0 (by decide))) rfl ?_
    refine j_gi (np := 9) rfl rfl rfl hI gA0 (by decide) (n := 7) rfl rfl (lo := 0) (hi := 24) rfl ?_
    intro v2 e3 b4
    refine b_clt (t1 := 16) (t2 := 12) rfl rfl rfl (ev_w_in (by omega) (by omega)) (ev_w_in (by omega) (by omega)) (fun g5 => ?_) (fun g5 => ?_)
    · have b6 : 0 ≤ a1 ∧ a1 ≤ 23 := by omega
      have b7 : 1 ≤ v2 ∧ v2 ≤ 24 := by omega
      refine w_t (np := 17) (l2 := [some (eR a0), some (eI (a1))]) (s2 := [eI (0)]) rfl rfl rfl ?_
      refine b_rz rfl rfl (Or.inl rfl) ?_
      show ex_q (dt_fg L ρ) rc (d + 1, (131, 5, [some (eR a0), some (eI (a1)), some (eI (a2))], [eI (0)]), f :: F, μ)
      refine b_ine (t1 := 17) (t2 := 8) rfl rfl rfl rfl (fun g6 => absurd g6 (by decide)) (fun g6 => ?_)
      refine w_t (np := 9) (l2 := [some (eR a0), some (eI (a1)), some (eI (a2))]) (s2 := [eI (a2)]) rfl rfl rfl ?_
      refine b_ilt (t1 := 17) (t2 := 12) rfl rfl rfl (ev_w_in (by omega) (by omega)) (fun g7 => ?_) (fun g7 => ?_)
      · have b8 : -2147483648 ≤ a2 ∧ a2 ≤ -1 := by omega
        refine w_t (np := 18) (l2 := [some (eR a0), some (eI (a1)), some (eI (a2))]) (s2 := [eJ (0)]) rfl rfl rfl ?_
        refine w_go (t1 := 31) rfl rfl ?_
        exact b_rl rfl rfl (K (0) (by decide))
      · have b8 : 0 ≤ a2 ∧ a2 ≤ 2147483647 := by omega
        refine w_t (np := 13) (l2 := [some (eR a0), some (eI (a1)), some (eI (a2))]) (s2 := [eI (a2)]) rfl rfl rfl ?_
        refine w_t (np := 14) (l2 := [some (eR a0), some (eI (a1)), some (eI (a2))]) (s2 := [eI (3), eI (a2)]) rfl rfl rfl ?_
        refine b_cle (t1 := 21) (t2 := 17) rfl rfl rfl (ev_w_in (by omega) (by omega)) rfl (fun g8 => ?_) (fun g8 => ?_)
        · have b9 : 0 ≤ a2 ∧ a2 ≤ 3 := by omega
          refine w_t (np := 22) (l2 := [some (eR a0), some (eI (a1)), some (eI (a2))]) (s2 := [eR a0]) rfl (s_an rfl (pos_g hI gA0 (by decide))) rfl ?_
          refine j_gr (np := 25) rfl rfl hI gA0 (by decide) (n := 7) rfl rfl rfl ?_
          intro v9 e10 b11 z12
          have b11 : g v9 = 33 := Nat.eq_of_beq_eq_true b11
          refine w_t (np := 26) (l2 := [some (eR a0), some (eI (a1)), some (eI (a2))]) (s2 := [eI (4), eR v9]) rfl rfl rfl ?_
          refine w_t (np := 27) (l2 := [some (eR a0), some (eI (a1)), some (eI (a2))]) (s2 := [eI (a1), eI (4), eR v9]) rfl rfl rfl ?_
          obtain ⟨v13, e14⟩ : ∃ zz : Int, zz = (4) * (a1) := ⟨_, rfl⟩
          have b15 : 0 ≤ v13 ∧ v13 ≤ 92 := by omega
          refine w_t (np := 28) (l2 := [some (eR a0), some (eI (a1)), some (eI (a2))]) (s2 := [eI (v13), eR v9]) rfl (b_imul (by rw [← e14]; exact ev_w_in (by omega) (by omega))) rfl ?_
          refine w_t (np := 29) (l2 := [some (eR a0), some (eI (a1)), some (eI (a2))]) (s2 := [eI (a2), eI (v13), eR v9]) rfl rfl rfl ?_
          obtain ⟨v16, e17⟩ : ∃ zz : Int, zz = (v13) + (a2) := ⟨_, rfl⟩
          have b18 : 0 ≤ v16 ∧ v16 ≤ 95 := by omega
          refine w_t (np := 30) (l2 := [some (eR a0), some (eI (a1)), some (eI (a2))]) (s2 := [eI (v16), eR v9]) rfl (b_iadd (by rw [← e17]; exact ev_w_in (by omega) (by omega))) rfl ?_
          refine j_ll (np := 31) rfl rfl hI b11 (by decide) (n := 96) rfl rfl (lo := -9223372036854775808) (hi := 9223372036854775807) (fun _ => rfl) (by omega) (by omega) ?_
          intro v19 e20 b21
          exact b_rl rfl rfl (K (v19) (by omega))
        · have b9 : 4 ≤ a2 ∧ a2 ≤ 2147483647 := by omega
          refine w_t (np := 18) (l2 := [some (eR a0), some (eI (a1)), some (eI (a2))]) (s2 := [eJ (0)]) rfl rfl rfl ?_
          refine w_go (t1 := 31) rfl rfl ?_
          exact b_rl rfl rfl (K (0) (by decide))
    · refine w_t (np := 13) (l2 := [some (eR a0), some (eI (a1))]) (s2 := [eI (1)]) rfl rfl rfl ?_
      refine w_go (t1 := 17) rfl rfl ?_
      refine b_rz rfl rfl (Or.inr rfl) ?_
      show ex_q (dt_fg L ρ) rc (d + 1, (131, 5, [some (eR a0), some (eI (a1)), some (eI (a2))], [eI (1)]), f :: F, μ)
      refine b_ine (t1 := 17) (t2 := 8) rfl rfl rfl rfl (fun g6 => ?_) (fun g6 => absurd g6 (by decide))
      refine w_t (np := 18) (l2 := [some (eR a0), some (eI (a1)), some (eI (a2))]) (s2 := [eJ (0)]) rfl rfl rfl ?_
      refine w_go (t1 := 31) rfl rfl ?_
      exact b_rl rfl rfl (K (0) (by decide))
theorem s_132 {L : Nat} {ρ : Nat → Int} {rc : eQ} {d : Nat} {f : eFr} {F : List eFr} {μ : eM} {g : Nat → Nat} {a0 : Nat} {a1 : Int} (hI : SI g μ) (gA0 : g a0 = 29) (bA1 : -2147483648 ≤ a1 ∧ a1 ≤ 2147483647) (K : ∀ (v : Int), (-9223372036854775808 ≤ v ∧ v ≤ 9223372036854775807) → ex_q (dt_fg L ρ) rc (d + 2, (f.1, f.2.1, f.2.2.1, eJ v :: f.2.2.2), F, μ)) : ex_q (dt_fg L ρ) rc (d + 1, (132, 0, [some (eR a0), some (eI (a1))], []), f :: F, μ) := by
  refine w_t (np := 1) (l2 := [some (eR a0), some (eI (a1))]) (s2 := [eR a0]) rfl (s_an rfl (pos_g hI gA0 (by decide))) rfl ?_
  refine w_t (np := 2) (l2 := [some (eR a0), some (eI (a1))]) (s2 := [eI (a1), eR a0]) rfl rfl rfl ?_
  refine w_cw (np := 5) (as := [eI (a1)]) (l2 := [some (eR a0), some (eI (a1))]) (rest := []) rfl rfl rfl (Nat.ble_eq.mp rfl) rfl rfl rfl (hI.kd gA0 (by decide) (n := 7) rfl) rfl ?_
  refine w_t (np := 1) (l2 := [some (eR a0), some (eI (a1))]) (s2 := [eI (a1)]) rfl rfl rfl ?_
  refine b_ilt (t1 := 12) (t2 := 4) rfl rfl rfl (ev_w_in (by omega) (by omega)) (fun g1 => ?_) (fun g1 => ?_)
  · have b2 : -2147483648 ≤ a1 ∧ a1 ≤ -1 := by omega
    refine w_t (np := 13) (l2 := [some (eR a0), some (eI (a1))]) (s2 := [eI (1)]) rfl rfl rfl ?_
    refine w_go (t1 := 17) rfl rfl ?_
    refine b_rz rfl rfl (Or.inr rfl) ?_
    show ex_q (dt_fg L ρ) rc (d + 1, (132, 5, [some (eR a0), some (eI (a1))], [eI (1)]), f :: F, μ)
    refine b_ieq (t1 := 12) (t2 := 8) rfl rfl rfl rfl (fun g2 => absurd g2 (by decide)) (fun g2 => ?_)
    refine w_t (np := 9) (l2 := [some (eR a0), some (eI (a1))]) (s2 := [eJ (0)]) rfl rfl rfl ?_
    refine w_go (t1 := 18) rfl rfl ?_
    exact b_rl rfl rfl (K (0) (by decide))
  · have b2 : 0 ≤ a1 ∧ a1 ≤ 2147483647 := by omega
    refine w_t (np := 5) (l2 := [some (eR a0), some (eI (a1))]) (s2 := [eI (a1)]) rfl rfl rfl ?_
    refine w_t (np := 6) (l2 := [some (eR a0), some (eI (a1))]) (s2 := [eR a0, eI (a1)]) rfl (s_an rfl (pos_g hI gA0 (by decide))) rfl ?_
    refine j_gi (np := 9) rfl rfl rfl hI gA0 (by decide) (n := 7) rfl rfl (lo := 0) (hi := 96) rfl ?_
    intro v2 e3 b4
    refine b_clt (t1 := 16) (t2 := 12) rfl rfl rfl (ev_w_in (by omega) (by omega)) (ev_w_in (by omega) (by omega)) (fun g5 => ?_) (fun g5 => ?_)
    · have b6 : 0 ≤ a1 ∧ a1 ≤ 95 := by omega
      have b7 : 1 ≤ v2 ∧ v2 ≤ 96 := by omega
      refine w_t (np := 17) (l2 := [some (eR a0), some (eI (a1))]) (s2 := [eI (0)]) rfl rfl rfl ?_
      refine b_rz rfl rfl (Or.inl rfl) ?_
      show ex_q (dt_fg L ρ) rc (d + 1, (132, 5, [some (eR a0), some (eI (a1))], [eI (0)]), f :: F, μ)
      refine b_ieq (t1 := 12) (t2 := 8) rfl rfl rfl rfl (fun g6 => ?_) (fun g6 => absurd g6 (by decide))
      refine w_t (np := 13) (l2 := [some (eR a0), some (eI (a1))]) (s2 := [eR a0]) rfl (s_an rfl (pos_g hI gA0 (by decide))) rfl ?_
      refine j_gr (np := 16) rfl rfl hI gA0 (by decide) (n := 7) rfl rfl rfl ?_
      intro v7 e8 b9 z10
      have b9 : g v7 = 34 := Nat.eq_of_beq_eq_true b9
      refine w_t (np := 17) (l2 := [some (eR a0), some (eI (a1))]) (s2 := [eI (a1), eR v7]) rfl rfl rfl ?_
      refine j_ll (np := 18) rfl rfl hI b9 (by decide) (n := 96) rfl rfl (lo := -9223372036854775808) (hi := 9223372036854775807) (fun _ => rfl) (by omega) (by omega) ?_
      intro v11 e12 b13
      exact b_rl rfl rfl (K (v11) (by omega))
    · refine w_t (np := 13) (l2 := [some (eR a0), some (eI (a1))]) (s2 := [eI (1)]) rfl rfl rfl ?_
      refine w_go (t1 := 17) rfl rfl ?_
      refine b_rz rfl rfl (Or.inr rfl) ?_
      show ex_q (dt_fg L ρ) rc (d + 1, (132, 5, [some (eR a0), some (eI (a1))], [eI (1)]), f :: F, μ)
      refine b_ieq (t1 := 12) (t2 := 8) rfl rfl rfl rfl (fun g6 => absurd g6 (by decide)) (fun g6 => ?_)
      refine w_t (np := 9) (l2 := [some (eR a0), some (eI (a1))]) (s2 := [eJ (0)]) rfl rfl rfl ?_
      refine w_go (t1 := 18) rfl rfl ?_
      exact b_rl rfl rfl (K (0) (by decide))
theorem s_133 {L : Nat} {ρ : Nat → Int} {rc : eQ} {d : Nat} {f : eFr} {F : List eFr} {μ : eM} {g : Nat → Nat} {a0 : Nat} {a1 : Int} (hI : SI g μ) (gA0 : g a0 = 29) (bA1 : -9223372036854775808 ≤ a1 ∧ a1 ≤ 9223372036854775807) (K : ∀ (v : Int), (-2147483648 ≤ v ∧ v ≤ 2147483647) → ex_q (dt_fg L ρ) rc (d + 1, (f.1, f.2.1, f.2.2.1, eI v :: f.2.2.2), F, μ)) : ex_q (dt_fg L ρ) rc (d, (133, 0, [some (eR a0), some (eJ (a1)), none, none], []), f :: F, μ) := by
  refine w_t (np := 1) (l2 := [some (eR a0), some (eJ (a1)), none, none]) (s2 := [eI (0)]) rfl rfl rfl ?_
  refine w_t (np := 2) (l2 := [some (eR a0), some (eJ (a1)), none, some (eI (0))]) (s2 := []) rfl rfl rfl ?_
  have hL2 : ∀ (n1 : Nat) (i3 : Int), (0 ≤ i3 ∧ i3 ≤ 96) → n1 = (96 - i3).toNat → ex_q (dt_fg L ρ) rc (d, (133, 2, [some (eR a0), some (eJ (a1)), none, some (eI (i3))], []), f :: F, μ) := by
    intro n1
    induction n1 using Nat.strongRecOn with
    | _ n1 ih2 =>
    intro i3 b4 hn5
    refine w_t (np := 3) (l2 := [some (eR a0), some (eJ (a1)), none, some (eI (i3))]) (s2 := [eI (i3)]) rfl rfl rfl ?_
    refine w_t (np := 4) (l2 := [some (eR a0), some (eJ (a1)), none, some (eI (i3))]) (s2 := [eR a0, eI (i3)]) rfl (s_an rfl (pos_g hI gA0 (by decide))) rfl ?_
    refine j_gi (np := 7) rfl rfl rfl hI gA0 (by decide) (n := 7) rfl rfl (lo := 0) (hi := 96) rfl ?_
    intro v6 e7 b8
    refine b_cge (t1 := 29) (t2 := 10) rfl rfl rfl (ev_w_in (by omega) (by omega)) (ev_w_in (by omega) (by omega)) (fun g9 => ?_) (fun g9 => ?_)
    · refine w_t (np := 30) (l2 := [some (eR a0), some (eJ (a1)), none, some (eI (i3))]) (s2 := [eI (-1)]) rfl rfl rfl ?_
      exact b_ri rfl rfl (K (-1) (by decide))
    · have b10 : 0 ≤ i3 ∧ i3 ≤ 95 := by omega
      have b11 : 1 ≤ v6 ∧ v6 ≤ 96 := by omega
      refine w_t (np := 11) (l2 := [some (eR a0), some (eJ (a1)), none, some (eI (i3))]) (s2 := [eR a0]) rfl (s_an rfl (pos_g hI gA0 (by decide))) rfl ?_
      refine j_gr (np := 14) rfl rfl hI gA0 (by decide) (n := 7) rfl rfl rfl ?_
      intro v10 e11 b12 z13
      have b12 : g v10 = 34 := Nat.eq_of_beq_eq_true b12
      refine w_t (np := 15) (l2 := [some (eR a0), some (eJ (a1)), none, some (eI (i3))]) (s2 := [eI (i3), eR v10]) rfl rfl rfl ?_
      refine j_ll (np := 16) rfl rfl hI b12 (by decide) (n := 96) rfl rfl (lo := -9223372036854775808) (hi := 9223372036854775807) (fun _ => rfl) (by omega) (by omega) ?_
      intro v14 e15 b16
      refine w_t (np := 17) (l2 := [some (eR a0), some (eJ (a1)), none, some (eI (i3))]) (s2 := [eJ (a1), eJ (v14)]) rfl rfl rfl ?_
      obtain ⟨v17, e18, b19⟩ := h_lcmp (v14) (a1)
      refine w_t (np := 18) (l2 := [some (eR a0), some (eJ (a1)), none, some (eI (i3))]) (s2 := [eI (v17)]) rfl (e18 _ _) rfl ?_
      refine b_ine (t1 := 23) (t2 := 21) rfl rfl rfl (ev_w_in (by omega) (by omega)) (fun g20 => ?_) (fun g20 => ?_)
      · obtain ⟨v21, e22⟩ : ∃ zz : Int, zz = (i3) + (1) := ⟨_, rfl⟩
        have b23 : 1 ≤ v21 ∧ v21 ≤ 96 := by omega
        refine w_t (np := 26) (l2 := [some (eR a0), some (eJ (a1)), none, some (eI (v21))]) (s2 := []) rfl (b_iinc rfl (by rw [← e22]; exact ev_w_in (by omega) (by omega)) rfl) rfl ?_
        refine w_go (t1 := 2) rfl rfl ?_
        exact ih2 (96 - (v21)).toNat (by omega) (v21) (by omega)     rfl
      · have b21 : 0 ≤ v17 ∧ v17 ≤ 0 := by omega
        refine w_t (np := 22) (l2 := [some (eR a0), some (eJ (a1)), none, some (eI (i3))]) (s2 := [eI (i3)]) rfl rfl rfl ?_
        exact b_ri rfl rfl (K (i3) (by omega))
  exact hL2 _ (0) (by decide)     rfl
theorem s_134 {L : Nat} {ρ : Nat → Int} {rc : eQ} {d : Nat} {f : eFr} {F : List eFr} {μ : eM} {g : Nat → Nat} {a0 : Nat} {a1 : Int} (hI : SI g μ) (gA0 : g a0 = 29) (bA1 : -2147483648 ≤ a1 ∧ a1 ≤ 2147483647) (K : ∀ (v : Int), (-2147483648 ≤ v ∧ v ≤ 2147483647) → ex_q (dt_fg L ρ) rc (d + 1, (f.1, f.2.1, f.2.2.1, eI v :: f.2.2.2), F, μ)) : ex_q (dt_fg L ρ) rc (d, (134, 0, [some (eR a0), some (eI (a1)), none, none], []), f :: F, μ) := by
  refine w_t (np := 1) (l2 := [some (eR a0), some (eI (a1)), none, none]) (s2 := [eI (0)]) rfl rfl rfl ?_
  refine w_t (np := 2) (l2 := [some (eR a0), some (eI (a1)), some (eI (0)), none]) (s2 := []) rfl rfl rfl ?_
  refine w_t (np := 3) (l2 := [some (eR a0), some (eI (a1)), some (eI (0)), none]) (s2 := [eI (0)]) rfl rfl rfl ?_
  refine w_t (np := 4) (l2 := [some (eR a0), some (eI (a1)), some (eI (0)), some (eI (0))]) (s2 := []) rfl rfl rfl ?_
  have hL4 : ∀ (n1 : Nat) (i3 : Int) (i5 : Int), (-2147483648 ≤ i3 ∧ i3 ≤ 2147483647) → (0 ≤ i5 ∧ i5 ≤ 24) → n1 = (24 - i5).toNat → ex_q (dt_fg L ρ) rc (d, (134, 4, [some (eR a0), some (eI (a1)), some (eI (i3)), some (eI (i5))], []), f :: F, μ) := by
    intro n1
    induction n1 using Nat.strongRecOn with
    | _ n1 ih2 =>
    intro i3 i5 b4 b6 hn7
    refine w_t (np := 5) (l2 := [some (eR a0), some (eI (a1)), some (eI (i3)), some (eI (i5))]) (s2 := [eI (i5)]) rfl rfl rfl ?_
    refine w_t (np := 6) (l2 := [some (eR a0), some (eI (a1)), some (eI (i3)), some (eI (i5))]) (s2 := [eR a0, eI (i5)]) rfl (s_an rfl (pos_g hI gA0 (by decide))) rfl ?_
    refine j_gi (np := 9) rfl rfl rfl hI gA0 (by decide) (n := 7) rfl rfl (lo := 0) (hi := 24) rfl ?_
    intro v8 e9 b10
    refine b_cge (t1 := 31) (t2 := 12) rfl rfl rfl (ev_w_in (by omega) (by omega)) (ev_w_in (by omega) (by omega)) (fun g11 => ?_) (fun g11 => ?_)
    · refine w_t (np := 32) (l2 := [some (eR a0), some (eI (a1)), some (eI (i3)), some (eI (i5))]) (s2 := [eI (i3)]) rfl rfl rfl ?_
      exact b_ri rfl rfl (K (i3) (by omega))
    · have b12 : 0 ≤ i5 ∧ i5 ≤ 23 := by omega
      have b13 : 1 ≤ v8 ∧ v8 ≤ 24 := by omega
      refine w_t (np := 13) (l2 := [some (eR a0), some (eI (a1)), some (eI (i3)), some (eI (i5))]) (s2 := [eR a0]) rfl (s_an rfl (pos_g hI gA0 (by decide))) rfl ?_
      refine j_gr (np := 16) rfl rfl hI gA0 (by decide) (n := 7) rfl rfl rfl ?_
      intro v12 e13 b14 z15
      have b14 : g v12 = 30 := Nat.eq_of_beq_eq_true b14
      refine w_t (np := 17) (l2 := [some (eR a0), some (eI (a1)), some (eI (i3)), some (eI (i5))]) (s2 := [eI (i5), eR v12]) rfl rfl rfl ?_
      refine j_al (np := 18) rfl rfl hI b14 (by decide) (n := 24) rfl rfl (lo := 0) (hi := 1) (fun _ => rfl) (by omega) (by omega) ?_
      intro v16 e17 b18
      refine w_t (np := 19) (l2 := [some (eR a0), some (eI (a1)), some (eI (i3)), some (eI (i5))]) (s2 := [eI (a1), eI (v16)]) rfl rfl rfl ?_
      refine b_cne (t1 := 25) (t2 := 22) rfl rfl rfl (ev_w_in (by omega) (by omega)) (ev_w_in (by omega) (by omega)) (fun g19 => ?_) (fun g19 => ?_)
      · obtain ⟨v20, e21⟩ : ∃ zz : Int, zz = (i5) + (1) := ⟨_, rfl⟩
        have b22 : 1 ≤ v20 ∧ v20 ≤ 24 := by omega
        refine w_t (np := 28) (l2 := [some (eR a0), some (eI (a1)), some (eI (i3)), some (eI (v20))]) (s2 := []) rfl (b_iinc rfl (by rw [← e21]; exact ev_w_in (by omega) (by omega)) rfl) rfl ?_
        refine w_go (t1 := 4) rfl rfl ?_
        exact ih2 (24 - (v20)).toNat (by omega) (i3) (v20) (by omega) (by omega)     rfl
      · have b20 : 0 ≤ a1 ∧ a1 ≤ 1 := by omega
        obtain ⟨v20, e21, b22⟩ : ∃ zz : Int, ev_w ((i3) + (1)) = zz ∧ (-2147483648 ≤ zz ∧ zz ≤ 2147483647) := ⟨_, rfl, hw_bd _⟩
        refine w_t (np := 25) (l2 := [some (eR a0), some (eI (a1)), some (eI (v20)), some (eI (i5))]) (s2 := []) rfl (b_iinc rfl e21 rfl) rfl ?_
        obtain ⟨v23, e24⟩ : ∃ zz : Int, zz = (i5) + (1) := ⟨_, rfl⟩
        have b25 : 1 ≤ v23 ∧ v23 ≤ 24 := by omega
        refine w_t (np := 28) (l2 := [some (eR a0), some (eI (a1)), some (eI (v20)), some (eI (v23))]) (s2 := []) rfl (b_iinc rfl (by rw [← e24]; exact ev_w_in (by omega) (by omega)) rfl) rfl ?_
        refine w_go (t1 := 4) rfl rfl ?_
        exact ih2 (24 - (v23)).toNat (by omega) (v20) (v23) (by omega) (by omega)     rfl
  exact hL4 _ (0) (0) (by decide) (by decide)     rfl
def l_135 : List Nat := [7430, 7431]
theorem s_135 {L : Nat} {ρ : Nat → Int} {rc : eQ} {d : Nat} {f : eFr} {F : List eFr} {μ : eM} {g : Nat → Nat} {a0 : Nat} (hI : SI g μ) (gA0 : g a0 = 29) (K : ∀ (μ2 : eM), SI g μ2 → Fr l_135 0 0 g μ μ2 → ex_q (dt_fg L ρ) rc (d + 1, (f.1, f.2.1, f.2.2.1, f.2.2.2), F, μ2)) : ex_q (dt_fg L ρ) rc (d, (135, 0, [some (eR a0)], []), f :: F, μ) := by
  have F0 : Fr l_135 0 0 g μ μ := Fr.r
  refine w_t (np := 1) (l2 := [some (eR a0)]) (s2 := [eR a0]) rfl (s_an rfl (pos_g hI gA0 (by decide))) rfl ?_
  refine w_t (np := 2) (l2 := [some (eR a0)]) (s2 := [eI (0), eR a0]) rfl rfl rfl ?_
  refine j_pf (np := 5) (w := 0) rfl rfl hI gA0 (by decide) (n := 7) rfl rfl (hO_i (lo := 0) (hi := 24) rfl (by decide)) ?_
  intro m1 I2 W3
  have F4 : Fr l_135 0 0 g μ m1 := F0.w W3 gA0 rfl
  refine w_t (np := 6) (l2 := [some (eR a0)]) (s2 := [eR a0]) rfl (s_an rfl (pos_g I2 gA0 (by decide))) rfl ?_
  refine w_t (np := 7) (l2 := [some (eR a0)]) (s2 := [eI (0), eR a0]) rfl rfl rfl ?_
  refine j_pf (np := 10) (w := 0) rfl rfl I2 gA0 (by decide) (n := 7) rfl rfl (hO_i (lo := 0) (hi := 96) rfl (by decide)) ?_
  intro m5 I6 W7
  have F8 : Fr l_135 0 0 g μ m5 := F4.w W7 gA0 rfl
  exact v_rv rfl rfl (K m5 I6 F8)
def l_137 : List Nat := [7431, 8704]
theorem s_137 {L : Nat} {ρ : Nat → Int} {rc : eQ} {d : Nat} {f : eFr} {F : List eFr} {μ : eM} {g : Nat → Nat} {a0 : Nat} {a1 : Int} (hI : SI g μ) (gA0 : g a0 = 29) (bA1 : 0 ≤ a1 ∧ a1 ≤ 23) (K : ∀ (μ2 : eM), SI g μ2 → Fr l_137 0 0 g μ μ2 → ex_q (dt_fg L ρ) rc (d + 2, (f.1, f.2.1, f.2.2.1, f.2.2.2), F, μ2)) : ex_q (dt_fg L ρ) rc (d + 1, (137, 0, [some (eR a0), some (eI (a1)), none, none, none], []), f :: F, μ) := by
  have F0 : Fr l_137 0 0 g μ μ := Fr.r
  refine w_t (np := 1) (l2 := [some (eR a0), some (eI (a1)), none, none, none]) (s2 := [eI (0)]) rfl rfl rfl ?_
  refine w_t (np := 2) (l2 := [some (eR a0), some (eI (a1)), some (eI (0)), none, none]) (s2 := []) rfl rfl rfl ?_
  have hL2 : ∀ (n1 : Nat) (m6 : eM) (i3 : Int) (o5 : Option eV), SI g m6 → Fr l_137 0 0 g μ m6 → (0 ≤ i3 ∧ i3 ≤ 4) → n1 = (4 - i3).toNat → ex_q (dt_fg L ρ) rc (d + 1, (137, 2, [some (eR a0), some (eI (a1)), some (eI (i3)), o5, none], []), f :: F, m6) := by
    intro n1
    induction n1 using Nat.strongRecOn with
    | _ n1 ih2 =>
    intro m6 i3 o5 I7 F8 b4 hn9
    refine w_t (np := 3) (l2 := [some (eR a0), some (eI (a1)), some (eI (i3)), o5, none]) (s2 := [eI (i3)]) rfl rfl rfl ?_
    refine w_t (np := 4) (l2 := [some (eR a0), some (eI (a1)), some (eI (i3)), o5, none]) (s2 := [eI (4), eI (i3)]) rfl rfl rfl ?_
    refine b_cge (t1 := 64) (t2 := 7) rfl rfl rfl (ev_w_in (by omega) (by omega)) rfl (fun g10 => ?_) (fun g10 => ?_)
    · have b11 : 4 ≤ i3 ∧ i3 ≤ 4 := by omega
      exact v_rv rfl rfl (K m6 I7 F8)
    · have b11 : 0 ≤ i3 ∧ i3 ≤ 3 := by omega
      refine w_t (np := 8) (l2 := [some (eR a0), some (eI (a1)), some (eI (i3)), o5, none]) (s2 := [eR a0]) rfl (s_an rfl (pos_g I7 gA0 (by decide))) rfl ?_
      refine j_gr (np := 11) rfl rfl I7 gA0 (by decide) (n := 7) rfl rfl rfl ?_
      intro v11 e12 b13 z14
      have b13 : g v11 = 33 := Nat.eq_of_beq_eq_true b13
      refine w_t (np := 12) (l2 := [some (eR a0), some (eI (a1)), some (eI (i3)), o5, none]) (s2 := [eI (4), eR v11]) rfl rfl rfl ?_
      refine w_t (np := 13) (l2 := [some (eR a0), some (eI (a1)), some (eI (i3)), o5, none]) (s2 := [eI (a1), eI (4), eR v11]) rfl rfl rfl ?_
      obtain ⟨v15, e16⟩ : ∃ zz : Int, zz = (4) * (a1) := ⟨_, rfl⟩
      have b17 : 0 ≤ v15 ∧ v15 ≤ 92 := by omega
      refine w_t (np := 14) (l2 := [some (eR a0), some (eI (a1)), some (eI (i3)), o5, none]) (s2 := [eI (v15), eR v11]) rfl (b_imul (by rw [← e16]; exact ev_w_in (by omega) (by omega))) rfl ?_
      refine w_t (np := 15) (l2 := [some (eR a0), some (eI (a1)), some (eI (i3)), o5, none]) (s2 := [eI (i3), eI (v15), eR v11]) rfl rfl rfl ?_
      obtain ⟨v18, e19⟩ : ∃ zz : Int, zz = (v15) + (i3) := ⟨_, rfl⟩
      have b20 : 0 ≤ v18 ∧ v18 ≤ 95 := by omega
      refine w_t (np := 16) (l2 := [some (eR a0), some (eI (a1)), some (eI (i3)), o5, none]) (s2 := [eI (v18), eR v11]) rfl (b_iadd (by rw [← e19]; exact ev_w_in (by omega) (by omega))) rfl ?_
      refine j_ll (np := 17) rfl rfl I7 b13 (by decide) (n := 96) rfl rfl (lo := -9223372036854775808) (hi := 9223372036854775807) (fun _ => rfl) (by omega) (by omega) ?_
      intro v21 e22 b23
      refine w_t (np := 18) (l2 := [some (eR a0), some (eI (a1)), some (eI (i3)), some (eJ (v21)), none]) (s2 := []) rfl rfl rfl ?_
      refine w_t (np := 19) (l2 := [some (eR a0), some (eI (a1)), some (eI (i3)), some (eJ (v21)), none]) (s2 := [eR a0]) rfl (s_an rfl (pos_g I7 gA0 (by decide))) rfl ?_
      refine w_t (np := 20) (l2 := [some (eR a0), some (eI (a1)), some (eI (i3)), some (eJ (v21)), none]) (s2 := [eJ (v21), eR a0]) rfl rfl rfl ?_
      refine w_cw (np := 23) (as := [eJ (v21)]) (l2 := [some (eR a0), some (eJ (v21)), none, none]) (rest := []) rfl rfl rfl (Nat.ble_eq.mp rfl) rfl rfl rfl (I7.kd gA0 (by decide) (n := 7) rfl) rfl ?_
      refine s_133 I7 gA0 b23 ?_
      intro v24 b25
      show ex_q (dt_fg L ρ) rc (d + 1, (137, 23, [some (eR a0), some (eI (a1)), some (eI (i3)), some (eJ (v21)), none], [eI (v24)]), f :: F, m6)
      refine b_ige (t1 := 58) (t2 := 26) rfl rfl rfl (ev_w_in (by omega) (by omega)) (fun g26 => ?_) (fun g26 => ?_)
      · have b27 : 0 ≤ v24 ∧ v24 ≤ 2147483647 := by omega
        obtain ⟨v27, e28⟩ : ∃ zz : Int, zz = (i3) + (1) := ⟨_, rfl⟩
        have b29 : 1 ≤ v27 ∧ v27 ≤ 4 := by omega
        refine w_t (np := 61) (l2 := [some (eR a0), some (eI (a1)), some (eI (v27)), some (eJ (v21)), none]) (s2 := []) rfl (b_iinc rfl (by rw [← e28]; exact ev_w_in (by omega) (by omega)) rfl) rfl ?_
        refine w_go (t1 := 2) rfl rfl ?_
        exact ih2 (4 - (v27)).toNat (by omega) m6 (v27) (some (eJ (v21))) I7 F8 (by omega)     rfl
      · have b27 : -2147483648 ≤ v24 ∧ v24 ≤ -1 := by omega
        refine w_t (np := 27) (l2 := [some (eR a0), some (eI (a1)), some (eI (i3)), some (eJ (v21)), none]) (s2 := [eR a0]) rfl (s_an rfl (pos_g I7 gA0 (by decide))) rfl ?_
        refine j_gi (np := 30) rfl rfl rfl I7 gA0 (by decide) (n := 7) rfl rfl (lo := 0) (hi := 96) rfl ?_
        intro v27 e28 b29
        refine w_t (np := 31) (l2 := [some (eR a0), some (eI (a1)), some (eI (i3)), some (eJ (v21)), none]) (s2 := [eR a0, eI (v27)]) rfl (s_an rfl (pos_g I7 gA0 (by decide))) rfl ?_
        refine j_gr (np := 34) rfl rfl I7 gA0 (by decide) (n := 7) rfl rfl rfl ?_
        intro v30 e31 b32 z33
        have b32 : g v30 = 34 := Nat.eq_of_beq_eq_true b32
        refine j_len (np := 35) rfl rfl I7 b32 (by decide) (c := 101) (n := 96) rfl rfl rfl ?_
        rw [show ((96 : Nat) : Int) = 96 from rfl]
        refine b_cge (t1 := 58) (t2 := 38) rfl rfl rfl (ev_w_in (by omega) (by omega)) rfl (fun g34 => ?_) (fun g34 => ?_)
        · have b35 : 96 ≤ v27 ∧ v27 ≤ 96 := by omega
          obtain ⟨v35, e36⟩ : ∃ zz : Int, zz = (i3) + (1) := ⟨_, rfl⟩
          have b37 : 1 ≤ v35 ∧ v35 ≤ 4 := by omega
          refine w_t (np := 61) (l2 := [some (eR a0), some (eI (a1)), some (eI (v35)), some (eJ (v21)), none]) (s2 := []) rfl (b_iinc rfl (by rw [← e36]; exact ev_w_in (by omega) (by omega)) rfl) rfl ?_
          refine w_go (t1 := 2) rfl rfl ?_
          exact ih2 (4 - (v35)).toNat (by omega) m6 (v35) (some (eJ (v21))) I7 F8 (by omega)     rfl
        · have b35 : 0 ≤ v27 ∧ v27 ≤ 95 := by omega
          refine w_t (np := 39) (l2 := [some (eR a0), some (eI (a1)), some (eI (i3)), some (eJ (v21)), none]) (s2 := [eR a0]) rfl (s_an rfl (pos_g I7 gA0 (by decide))) rfl ?_
          refine w_gf (np := 42) (v := eR v30) rfl rfl (I7.kd gA0 (by decide) (n := 7) rfl) (by rw [e31]; rfl) ?_
          refine w_t (np := 43) (l2 := [some (eR a0), some (eI (a1)), some (eI (i3)), some (eJ (v21)), none]) (s2 := [eR a0, eR v30]) rfl (s_an rfl (pos_g I7 gA0 (by decide))) rfl ?_
          refine w_gf (np := 46) (v := eI (v27)) rfl rfl (I7.kd gA0 (by decide) (n := 7) rfl) (by rw [e28]; rfl) ?_
          refine w_t (np := 47) (l2 := [some (eR a0), some (eI (a1)), some (eI (i3)), some (eJ (v21)), none]) (s2 := [eJ (v21), eI (v27), eR v30]) rfl rfl rfl ?_
          refine j_sl (np := 48) rfl rfl I7 b32 (by decide) (n := 96) rfl rfl (lo := -9223372036854775808) (hi := 9223372036854775807) (fun _ => rfl) (by omega) (by omega) (by omega) ?_
          intro m35 I36 W37
          have F38 : Fr l_137 0 0 g μ m35 := F8.v W37 b32 rfl rfl
          refine w_t (np := 49) (l2 := [some (eR a0), some (eI (a1)), some (eI (i3)), some (eJ (v21)), none]) (s2 := [eR a0]) rfl (s_an rfl (pos_g I36 gA0 (by decide))) rfl ?_
          refine w_t (np := 50) (l2 := [some (eR a0), some (eI (a1)), some (eI (i3)), some (eJ (v21)), none]) (s2 := [eR a0, eR a0]) rfl rfl rfl ?_
          refine w_gf (np := 53) (v := eI (v27)) rfl rfl (I36.kd gA0 (by decide) (n := 7) rfl) (by rw [(W37.addr e28 b32 gA0 (by decide))]; rfl) ?_
          refine w_t (np := 54) (l2 := [some (eR a0), some (eI (a1)), some (eI (i3)), some (eJ (v21)), none]) (s2 := [eI (1), eI (v27), eR a0]) rfl rfl rfl ?_
          obtain ⟨v39, e40⟩ : ∃ zz : Int, zz = (v27) + (1) := ⟨_, rfl⟩
          have b41 : 1 ≤ v39 ∧ v39 ≤ 96 := by omega
          refine w_t (np := 55) (l2 := [some (eR a0), some (eI (a1)), some (eI (i3)), some (eJ (v21)), none]) (s2 := [eI (v39), eR a0]) rfl (b_iadd (by rw [← e40]; exact ev_w_in (by omega) (by omega))) rfl ?_
          refine j_pf (np := 58) (w := v39) rfl rfl I36 gA0 (by decide) (n := 7) rfl rfl (hO_i (lo := 0) (hi := 96) rfl (by omega)) ?_
          intro m42 I43 W44
          have F45 : Fr l_137 0 0 g μ m42 := F38.w W44 gA0 rfl
          obtain ⟨v46, e47⟩ : ∃ zz : Int, zz = (i3) + (1) := ⟨_, rfl⟩
          have b48 : 1 ≤ v46 ∧ v46 ≤ 4 := by omega
          refine w_t (np := 61) (l2 := [some (eR a0), some (eI (a1)), some (eI (v46)), some (eJ (v21)), none]) (s2 := []) rfl (b_iinc rfl (by rw [← e47]; exact ev_w_in (by omega) (by omega)) rfl) rfl ?_
          refine w_go (t1 := 2) rfl rfl ?_
          exact ih2 (4 - (v46)).toNat (by omega) m42 (v46) (some (eJ (v21))) I43 F45 (by omega)     rfl
  exact hL2 _ μ (0) (none) hI F0 (by decide)     rfl
theorem s_140 {L : Nat} {ρ : Nat → Int} {rc : eQ} {d : Nat} {f : eFr} {F : List eFr} {μ : eM} {g : Nat → Nat} {a0 : Int} (hI : SI g μ) (bA0 : -9223372036854775808 ≤ a0 ∧ a0 ≤ 9223372036854775807) (K : ∀ (v : Int), (0 ≤ v ∧ v ≤ 1) → ex_q (dt_fg L ρ) rc (d + 2, (f.1, f.2.1, f.2.2.1, eI v :: f.2.2.2), F, μ)) : ex_q (dt_fg L ρ) rc (d + 1, (140, 0, [some (eJ (a0)), none], []), f :: F, μ) := by
  refine w_t (np := 1) (l2 := [some (eJ (a0)), none]) (s2 := [eJ (a0)]) rfl rfl rfl ?_
  refine w_t (np := 2) (l2 := [some (eJ (a0)), none]) (s2 := [eI (0), eJ (a0)]) rfl rfl rfl ?_
  refine w_cu (np := 5) (as := [eJ (a0), eI (0)]) (l2 := [some (eJ (a0)), none, some (eI (0))]) (rest := []) rfl rfl rfl (Nat.ble_eq.mp rfl) rfl rfl rfl rfl ?_
  refine s_73 (a2 := 0) hI bA0 (by decide) ?_
  intro v1 b2
  show ex_q (dt_fg L ρ) rc (d + 1, (140, 5, [some (eJ (a0)), none], [eI (v1)]), f :: F, μ)
  refine w_t (np := 6) (l2 := [some (eJ (a0)), none]) (s2 := [eJ (a0), eI (v1)]) rfl rfl rfl ?_
  refine w_t (np := 7) (l2 := [some (eJ (a0)), none]) (s2 := [eI (1), eJ (a0), eI (v1)]) rfl rfl rfl ?_
  refine w_cu (np := 10) (as := [eJ (a0), eI (1)]) (l2 := [some (eJ (a0)), none, some (eI (1))]) (rest := [eI (v1)]) rfl rfl rfl (Nat.ble_eq.mp rfl) rfl rfl rfl rfl ?_
  refine s_73 (a2 := 1) hI bA0 (by decide) ?_
  intro v3 b4
  show ex_q (dt_fg L ρ) rc (d + 1, (140, 10, [some (eJ (a0)), none], [eI (v3), eI (v1)]), f :: F, μ)
  refine w_t (np := 11) (l2 := [some (eJ (a0)), none]) (s2 := [eJ (a0), eI (v3), eI (v1)]) rfl rfl rfl ?_
  refine w_t (np := 12) (l2 := [some (eJ (a0)), none]) (s2 := [eI (2), eJ (a0), eI (v3), eI (v1)]) rfl rfl rfl ?_
  refine w_cu (np := 15) (as := [eJ (a0), eI (2)]) (l2 := [some (eJ (a0)), none, some (eI (2))]) (rest := [eI (v3), eI (v1)]) rfl rfl rfl (Nat.ble_eq.mp rfl) rfl rfl rfl rfl ?_
  refine s_73 (a2 := 2) hI bA0 (by decide) ?_
  intro v5 b6
  show ex_q (dt_fg L ρ) rc (d + 1, (140, 15, [some (eJ (a0)), none], [eI (v5), eI (v3), eI (v1)]), f :: F, μ)
  refine w_t (np := 16) (l2 := [some (eJ (a0)), none]) (s2 := [eJ (a0), eI (v5), eI (v3), eI (v1)]) rfl rfl rfl ?_
  refine w_t (np := 17) (l2 := [some (eJ (a0)), none]) (s2 := [eI (3), eJ (a0), eI (v5), eI (v3), eI (v1)]) rfl rfl rfl ?_
  refine w_cu (np := 20) (as := [eJ (a0), eI (3)]) (l2 := [some (eJ (a0)), none, some (eI (3))]) (rest := [eI (v5), eI (v3), eI (v1)]) rfl rfl rfl (Nat.ble_eq.mp rfl) rfl rfl rfl rfl ?_
  refine s_73 (a2 := 3) hI bA0 (by decide) ?_
  intro v7 b8
  show ex_q (dt_fg L ρ) rc (d + 1, (140, 20, [some (eJ (a0)), none], [eI (v7), eI (v5), eI (v3), eI (v1)]), f :: F, μ)
  refine w_t (np := 23) (l2 := [some (eJ (a0)), none]) (s2 := [eI (999), eI (v7), eI (v5), eI (v3), eI (v1)]) rfl rfl rfl ?_
  refine w_cu (np := 26) (as := [eI (v1), eI (v3), eI (v5), eI (v7), eI (999)]) (l2 := [some (eI (v1)), some (eI (v3)), some (eI (v5)), some (eI (v7)), some (eI (999))]) (rest := []) rfl rfl rfl (Nat.ble_eq.mp rfl) rfl rfl rfl rfl ?_
  refine s_72 (a0 := v1) (a1 := v3) (a2 := v5) (a3 := v7) (a4 := 999) hI (by omega) (by omega) (by omega) (by omega) (by decide) ?_
  intro v9 b10
  show ex_q (dt_fg L ρ) rc (d + 1, (140, 26, [some (eJ (a0)), none], [eI (v9)]), f :: F, μ)
  exact b_rz rfl rfl (z01 (by omega)) (K (v9) (by omega))
theorem s_145 {L : Nat} {ρ : Nat → Int} {rc : eQ} {d : Nat} {f : eFr} {F : List eFr} {μ : eM} {g : Nat → Nat} {a0 : Nat} {a1 : Int} {a2 : Int} {a3 : Int} (hI : SI g μ) (gA0 : g a0 = 29) (bA1 : 0 ≤ a1 ∧ a1 ≤ 23) (bA2 : 0 ≤ a2 ∧ a2 ≤ 3) (bA3 : 0 ≤ a3 ∧ a3 ≤ 23) (K : ∀ (v : Int), (-1 ≤ v ∧ v ≤ 3) → ex_q (dt_fg L ρ) rc (d + 1, (f.1, f.2.1, f.2.2.1, eI v :: f.2.2.2), F, μ)) : ex_q (dt_fg L ρ) rc (d, (145, 0, [some (eR a0), some (eI (a1)), some (eI (a2)), some (eI (a3)), none, none, none, none, none, none, none, none, none], []), f :: F, μ) := by
  refine w_t (np := 1) (l2 := [some (eR a0), some (eI (a1)), some (eI (a2)), some (eI (a3)), none, none, none, none, none, none, none, none, none]) (s2 := [eR a0]) rfl (s_an rfl (pos_g hI gA0 (by decide))) rfl ?_
  refine j_gr (np := 4) rfl rfl hI gA0 (by decide) (n := 7) rfl rfl rfl ?_
  intro v1 e2 b3 z4
  have b3 : g v1 = 33 := Nat.eq_of_beq_eq_true b3
  refine w_t (np := 5) (l2 := [some (eR a0), some (eI (a1)), some (eI (a2)), some (eI (a3)), none, none, none, none, none, none, none, none, none]) (s2 := [eI (4), eR v1]) rfl rfl rfl ?_
  refine w_t (np := 6) (l2 := [some (eR a0), some (eI (a1)), some (eI (a2)), some (eI (a3)), none, none, none, none, none, none, none, none, none]) (s2 := [eI (a1), eI (4), eR v1]) rfl rfl rfl ?_
  obtain ⟨v5, e6⟩ : ∃ zz : Int, zz = (4) * (a1) := ⟨_, rfl⟩
  have b7 : 0 ≤ v5 ∧ v5 ≤ 92 := by omega
  refine w_t (np := 7) (l2 := [some (eR a0), some (eI (a1)), some (eI (a2)), some (eI (a3)), none, none, none, none, none, none, none, none, none]) (s2 := [eI (v5), eR v1]) rfl (b_imul (by rw [← e6]; exact ev_w_in (by omega) (by omega))) rfl ?_
  refine w_t (np := 8) (l2 := [some (eR a0), some (eI (a1)), some (eI (a2)), some (eI (a3)), none, none, none, none, none, none, none, none, none]) (s2 := [eI (a2), eI (v5), eR v1]) rfl rfl rfl ?_
  obtain ⟨v8, e9⟩ : ∃ zz : Int, zz = (v5) + (a2) := ⟨_, rfl⟩
  have b10 : 0 ≤ v8 ∧ v8 ≤ 95 := by omega
  refine w_t (np := 9) (l2 := [some (eR a0), some (eI (a1)), some (eI (a2)), some (eI (a3)), none, none, none, none, none, none, none, none, none]) (s2 := [eI (v8), eR v1]) rfl (b_iadd (by rw [← e9]; exact ev_w_in (by omega) (by omega))) rfl ?_
  refine j_ll (np := 10) rfl rfl hI b3 (by decide) (n := 96) rfl rfl (lo := -9223372036854775808) (hi := 9223372036854775807) (fun _ => rfl) (by omega) (by omega) ?_
  intro v11 e12 b13
  refine w_t (np := 12) (l2 := [some (eR a0), some (eI (a1)), some (eI (a2)), some (eI (a3)), some (eJ (v11)), none, none, none, none, none, none, none, none]) (s2 := []) rfl rfl rfl ?_
  refine w_t (np := 13) (l2 := [some (eR a0), some (eI (a1)), some (eI (a2)), some (eI (a3)), some (eJ (v11)), none, none, none, none, none, none, none, none]) (s2 := [eR a0]) rfl (s_an rfl (pos_g hI gA0 (by decide))) rfl ?_
  refine w_gf (np := 16) (v := eR v1) rfl rfl (hI.kd gA0 (by decide) (n := 7) rfl) (by rw [e2]; rfl) ?_
  refine w_t (np := 17) (l2 := [some (eR a0), some (eI (a1)), some (eI (a2)), some (eI (a3)), some (eJ (v11)), none, none, none, none, none, none, none, none]) (s2 := [eI (4), eR v1]) rfl rfl rfl ?_
  refine w_t (np := 18) (l2 := [some (eR a0), some (eI (a1)), some (eI (a2)), some (eI (a3)), some (eJ (v11)), none, none, none, none, none, none, none, none]) (s2 := [eI (a1), eI (4), eR v1]) rfl rfl rfl ?_
  obtain ⟨v14, e15⟩ : ∃ zz : Int, zz = (4) * (a1) := ⟨_, rfl⟩
  have b16 : 0 ≤ v14 ∧ v14 ≤ 92 := by omega
  refine w_t (np := 19) (l2 := [some (eR a0), some (eI (a1)), some (eI (a2)), some (eI (a3)), some (eJ (v11)), none, none, none, none, none, none, none, none]) (s2 := [eI (v14), eR v1]) rfl (b_imul (by rw [← e15]; exact ev_w_in (by omega) (by omega))) rfl ?_
  refine w_t (np := 20) (l2 := [some (eR a0), some (eI (a1)), some (eI (a2)), some (eI (a3)), some (eJ (v11)), none, none, none, none, none, none, none, none]) (s2 := [eI (a2), eI (v14), eR v1]) rfl rfl rfl ?_
  refine w_t (np := 21) (l2 := [some (eR a0), some (eI (a1)), some (eI (a2)), some (eI (a3)), some (eJ (v11)), none, none, none, none, none, none, none, none]) (s2 := [eI (1), eI (a2), eI (v14), eR v1]) rfl rfl rfl ?_
  obtain ⟨v17, e18⟩ : ∃ zz : Int, zz = (a2) + (1) := ⟨_, rfl⟩
  have b19 : 1 ≤ v17 ∧ v17 ≤ 4 := by omega
  refine w_t (np := 22) (l2 := [some (eR a0), some (eI (a1)), some (eI (a2)), some (eI (a3)), some (eJ (v11)), none, none, none, none, none, none, none, none]) (s2 := [eI (v17), eI (v14), eR v1]) rfl (b_iadd (by rw [← e18]; exact ev_w_in (by omega) (by omega))) rfl ?_
  refine w_t (np := 23) (l2 := [some (eR a0), some (eI (a1)), some (eI (a2)), some (eI (a3)), some (eJ (v11)), none, none, none, none, none, none, none, none]) (s2 := [eI (4), eI (v17), eI (v14), eR v1]) rfl rfl rfl ?_
  obtain ⟨v20, e21, b22⟩ := h_irem (a := v17) (k := 4) (by decide) (by decide) (show (-2147483648 : Int) ≤ v17 ∧ (v17 : Int) ≤ 2147483647 by omega)
  have b23 : 0 ≤ v20 ∧ v20 ≤ 3 := by omega
  refine w_t (np := 24) (l2 := [some (eR a0), some (eI (a1)), some (eI (a2)), some (eI (a3)), some (eJ (v11)), none, none, none, none, none, none, none, none]) (s2 := [eI (v20), eI (v14), eR v1]) rfl (e21 _ _) rfl ?_
  obtain ⟨v24, e25⟩ : ∃ zz : Int, zz = (v14) + (v20) := ⟨_, rfl⟩
  have b26 : 0 ≤ v24 ∧ v24 ≤ 95 := by omega
  refine w_t (np := 25) (l2 := [some (eR a0), some (eI (a1)), some (eI (a2)), some (eI (a3)), some (eJ (v11)), none, none, none, none, none, none, none, none]) (s2 := [eI (v24), eR v1]) rfl (b_iadd (by rw [← e25]; exact ev_w_in (by omega) (by omega))) rfl ?_
  refine j_ll (np := 26) rfl rfl hI b3 (by decide) (n := 96) rfl rfl (lo := -9223372036854775808) (hi := 9223372036854775807) (fun _ => rfl) (by omega) (by omega) ?_
  intro v27 e28 b29
  refine w_t (np := 28) (l2 := [some (eR a0), some (eI (a1)), some (eI (a2)), some (eI (a3)), some (eJ (v11)), none, some (eJ (v27)), none, none, none, none, none, none]) (s2 := []) rfl rfl rfl ?_
  refine w_t (np := 29) (l2 := [some (eR a0), some (eI (a1)), some (eI (a2)), some (eI (a3)), some (eJ (v11)), none, some (eJ (v27)), none, none, none, none, none, none]) (s2 := [eI (0)]) rfl rfl rfl ?_
  refine w_t (np := 31) (l2 := [some (eR a0), some (eI (a1)), some (eI (a2)), some (eI (a3)), some (eJ (v11)), none, some (eJ (v27)), none, some (eI (0)), none, none, none, none]) (s2 := []) rfl rfl rfl ?_
  have hL31 : ∀ (n30 : Nat) (i32 : Int) (o34 : Option eV) (o35 : Option eV), (0 ≤ i32 ∧ i32 ≤ 4) → n30 = (4 - i32).toNat → ex_q (dt_fg L ρ) rc (d, (145, 31, [some (eR a0), some (eI (a1)), some (eI (a2)), some (eI (a3)), some (eJ (v11)), none, some (eJ (v27)), none, some (eI (i32)), o34, none, o35, none], []), f :: F, μ) := by
    intro n30
    induction n30 using Nat.strongRecOn with
    | _ n30 ih31 =>
    intro i32 o34 o35 b33 hn36
    refine w_t (np := 33) (l2 := [some (eR a0), some (eI (a1)), some (eI (a2)), some (eI (a3)), some (eJ (v11)), none, some (eJ (v27)), none, some (eI (i32)), o34, none, o35, none]) (s2 := [eI (i32)]) rfl rfl rfl ?_
    refine w_t (np := 34) (l2 := [some (eR a0), some (eI (a1)), some (eI (a2)), some (eI (a3)), some (eJ (v11)), none, some (eJ (v27)), none, some (eI (i32)), o34, none, o35, none]) (s2 := [eI (4), eI (i32)]) rfl rfl rfl ?_
    refine b_cge (t1 := 108) (t2 := 37) rfl rfl rfl (ev_w_in (by omega) (by omega)) rfl (fun g37 => ?_) (fun g37 => ?_)
    · have b38 : 4 ≤ i32 ∧ i32 ≤ 4 := by omega
      refine w_t (np := 109) (l2 := [some (eR a0), some (eI (a1)), some (eI (a2)), some (eI (a3)), some (eJ (v11)), none, some (eJ (v27)), none, some (eI (i32)), o34, none, o35, none]) (s2 := [eI (-1)]) rfl rfl rfl ?_
      exact b_ri rfl rfl (K (-1) (by decide))
    · have b38 : 0 ≤ i32 ∧ i32 ≤ 3 := by omega
      refine w_t (np := 38) (l2 := [some (eR a0), some (eI (a1)), some (eI (a2)), some (eI (a3)), some (eJ (v11)), none, some (eJ (v27)), none, some (eI (i32)), o34, none, o35, none]) (s2 := [eR a0]) rfl (s_an rfl (pos_g hI gA0 (by decide))) rfl ?_
      refine w_gf (np := 41) (v := eR v1) rfl rfl (hI.kd gA0 (by decide) (n := 7) rfl) (by rw [e2]; rfl) ?_
      refine w_t (np := 42) (l2 := [some (eR a0), some (eI (a1)), some (eI (a2)), some (eI (a3)), some (eJ (v11)), none, some (eJ (v27)), none, some (eI (i32)), o34, none, o35, none]) (s2 := [eI (4), eR v1]) rfl rfl rfl ?_
      refine w_t (np := 43) (l2 := [some (eR a0), some (eI (a1)), some (eI (a2)), some (eI (a3)), some (eJ (v11)), none, some (eJ (v27)), none, some (eI (i32)), o34, none, o35, none]) (s2 := [eI (a3), eI (4), eR v1]) rfl rfl rfl ?_
      obtain ⟨v38, e39⟩ : ∃ zz : Int, zz = (4) * (a3) := ⟨_, rfl⟩
      have b40 : 0 ≤ v38 ∧ v38 ≤ 92 := by omega
      refine w_t (np := 44) (l2 := [some (eR a0), some (eI (a1)), some (eI (a2)), some (eI (a3)), some (eJ (v11)), none, some (eJ (v27)), none, some (eI (i32)), o34, none, o35, none]) (s2 := [eI (v38), eR v1]) rfl (b_imul (by rw [← e39]; exact ev_w_in (by omega) (by omega))) rfl ?_
      refine w_t (np := 46) (l2 := [some (eR a0), some (eI (a1)), some (eI (a2)), some (eI (a3)), some (eJ (v11)), none, some (eJ (v27)), none, some (eI (i32)), o34, none, o35, none]) (s2 := [eI (i32), eI (v38), eR v1]) rfl rfl rfl ?_
      obtain ⟨v41, e42⟩ : ∃ zz : Int, zz = (v38) + (i32) := ⟨_, rfl⟩
      have b43 : 0 ≤ v41 ∧ v41 ≤ 95 := by omega
      refine w_t (np := 47) (l2 := [some (eR a0), some (eI (a1)), some (eI (a2)), some (eI (a3)), some (eJ (v11)), none, some (eJ (v27)), none, some (eI (i32)), o34, none, o35, none]) (s2 := [eI (v41), eR v1]) rfl (b_iadd (by rw [← e42]; exact ev_w_in (by omega) (by omega))) rfl ?_
      refine j_ll (np := 48) rfl rfl hI b3 (by decide) (n := 96) rfl rfl (lo := -9223372036854775808) (hi := 9223372036854775807) (fun _ => rfl) (by omega) (by omega) ?_
      intro v44 e45 b46
      refine w_t (np := 50) (l2 := [some (eR a0), some (eI (a1)), some (eI (a2)), some (eI (a3)), some (eJ (v11)), none, some (eJ (v27)), none, some (eI (i32)), some (eJ (v44)), none, o35, none]) (s2 := []) rfl rfl rfl ?_
      refine w_t (np := 51) (l2 := [some (eR a0), some (eI (a1)), some (eI (a2)), some (eI (a3)), some (eJ (v11)), none, some (eJ (v27)), none, some (eI (i32)), some (eJ (v44)), none, o35, none]) (s2 := [eR a0]) rfl (s_an rfl (pos_g hI gA0 (by decide))) rfl ?_
      refine w_gf (np := 54) (v := eR v1) rfl rfl (hI.kd gA0 (by decide) (n := 7) rfl) (by rw [e2]; rfl) ?_
      refine w_t (np := 55) (l2 := [some (eR a0), some (eI (a1)), some (eI (a2)), some (eI (a3)), some (eJ (v11)), none, some (eJ (v27)), none, some (eI (i32)), some (eJ (v44)), none, o35, none]) (s2 := [eI (4), eR v1]) rfl rfl rfl ?_
      refine w_t (np := 56) (l2 := [some (eR a0), some (eI (a1)), some (eI (a2)), some (eI (a3)), some (eJ (v11)), none, some (eJ (v27)), none, some (eI (i32)), some (eJ (v44)), none, o35, none]) (s2 := [eI (a3), eI (4), eR v1]) rfl rfl rfl ?_
      obtain ⟨v47, e48⟩ : ∃ zz : Int, zz = (4) * (a3) := ⟨_, rfl⟩
      have b49 : 0 ≤ v47 ∧ v47 ≤ 92 := by omega
      refine w_t (np := 57) (l2 := [some (eR a0), some (eI (a1)), some (eI (a2)), some (eI (a3)), some (eJ (v11)), none, some (eJ (v27)), none, some (eI (i32)), some (eJ (v44)), none, o35, none]) (s2 := [eI (v47), eR v1]) rfl (b_imul (by rw [← e48]; exact ev_w_in (by omega) (by omega))) rfl ?_
      refine w_t (np := 59) (l2 := [some (eR a0), some (eI (a1)), some (eI (a2)), some (eI (a3)), some (eJ (v11)), none, some (eJ (v27)), none, some (eI (i32)), some (eJ (v44)), none, o35, none]) (s2 := [eI (i32), eI (v47), eR v1]) rfl rfl rfl ?_
      refine w_t (np := 60) (l2 := [some (eR a0), some (eI (a1)), some (eI (a2)), some (eI (a3)), some (eJ (v11)), none, some (eJ (v27)), none, some (eI (i32)), some (eJ (v44)), none, o35, none]) (s2 := [eI (1), eI (i32), eI (v47), eR v1]) rfl rfl rfl ?_
      obtain ⟨v50, e51⟩ : ∃ zz : Int, zz = (i32) + (1) := ⟨_, rfl⟩
      have b52 : 1 ≤ v50 ∧ v50 ≤ 4 := by omega
      refine w_t (np := 61) (l2 := [some (eR a0), some (eI (a1)), some (eI (a2)), some (eI (a3)), some (eJ (v11)), none, some (eJ (v27)), none, some (eI (i32)), some (eJ (v44)), none, o35, none]) (s2 := [eI (v50), eI (v47), eR v1]) rfl (b_iadd (by rw [← e51]; exact ev_w_in (by omega) (by omega))) rfl ?_
      refine w_t (np := 62) (l2 := [some (eR a0), some (eI (a1)), some (eI (a2)), some (eI (a3)), some (eJ (v11)), none, some (eJ (v27)), none, some (eI (i32)), some (eJ (v44)), none, o35, none]) (s2 := [eI (4), eI (v50), eI (v47), eR v1]) rfl rfl rfl ?_
      obtain ⟨v53, e54, b55⟩ := h_irem (a := v50) (k := 4) (by decide) (by decide) (show (-2147483648 : Int) ≤ v50 ∧ (v50 : Int) ≤ 2147483647 by omega)
      have b56 : 0 ≤ v53 ∧ v53 ≤ 3 := by omega
      refine w_t (np := 63) (l2 := [some (eR a0), some (eI (a1)), some (eI (a2)), some (eI (a3)), some (eJ (v11)), none, some (eJ (v27)), none, some (eI (i32)), some (eJ (v44)), none, o35, none]) (s2 := [eI (v53), eI (v47), eR v1]) rfl (e54 _ _) rfl ?_
      obtain ⟨v57, e58⟩ : ∃ zz : Int, zz = (v47) + (v53) := ⟨_, rfl⟩
      have b59 : 0 ≤ v57 ∧ v57 ≤ 95 := by omega
      refine w_t (np := 64) (l2 := [some (eR a0), some (eI (a1)), some (eI (a2)), some (eI (a3)), some (eJ (v11)), none, some (eJ (v27)), none, some (eI (i32)), some (eJ (v44)), none, o35, none]) (s2 := [eI (v57), eR v1]) rfl (b_iadd (by rw [← e58]; exact ev_w_in (by omega) (by omega))) rfl ?_
      refine j_ll (np := 65) rfl rfl hI b3 (by decide) (n := 96) rfl rfl (lo := -9223372036854775808) (hi := 9223372036854775807) (fun _ => rfl) (by omega) (by omega) ?_
      intro v60 e61 b62
      refine w_t (np := 67) (l2 := [some (eR a0), some (eI (a1)), some (eI (a2)), some (eI (a3)), some (eJ (v11)), none, some (eJ (v27)), none, some (eI (i32)), some (eJ (v44)), none, some (eJ (v60)), none]) (s2 := []) rfl rfl rfl ?_
      refine w_t (np := 69) (l2 := [some (eR a0), some (eI (a1)), some (eI (a2)), some (eI (a3)), some (eJ (v11)), none, some (eJ (v27)), none, some (eI (i32)), some (eJ (v44)), none, some (eJ (v60)), none]) (s2 := [eJ (v44)]) rfl rfl rfl ?_
      refine w_t (np := 71) (l2 := [some (eR a0), some (eI (a1)), some (eI (a2)), some (eI (a3)), some (eJ (v11)), none, some (eJ (v27)), none, some (eI (i32)), some (eJ (v44)), none, some (eJ (v60)), none]) (s2 := [eJ (v11), eJ (v44)]) rfl rfl rfl ?_
      obtain ⟨v63, e64, b65⟩ := h_lcmp (v44) (v11)
      refine w_t (np := 72) (l2 := [some (eR a0), some (eI (a1)), some (eI (a2)), some (eI (a3)), some (eJ (v11)), none, some (eJ (v27)), none, some (eI (i32)), some (eJ (v44)), none, some (eJ (v60)), none]) (s2 := [eI (v63)]) rfl (e64 _ _) rfl ?_
      refine b_ine (t1 := 83) (t2 := 75) rfl rfl rfl (ev_w_in (by omega) (by omega)) (fun g66 => ?_) (fun g66 => ?_)
      · refine w_t (np := 85) (l2 := [some (eR a0), some (eI (a1)), some (eI (a2)), some (eI (a3)), some (eJ (v11)), none, some (eJ (v27)), none, some (eI (i32)), some (eJ (v44)), none, some (eJ (v60)), none]) (s2 := [eJ (v44)]) rfl rfl rfl ?_
        refine w_t (np := 87) (l2 := [some (eR a0), some (eI (a1)), some (eI (a2)), some (eI (a3)), some (eJ (v11)), none, some (eJ (v27)), none, some (eI (i32)), some (eJ (v44)), none, some (eJ (v60)), none]) (s2 := [eJ (v27), eJ (v44)]) rfl rfl rfl ?_
        obtain ⟨v67, e68, b69⟩ := h_lcmp (v44) (v27)
        refine w_t (np := 88) (l2 := [some (eR a0), some (eI (a1)), some (eI (a2)), some (eI (a3)), some (eJ (v11)), none, some (eJ (v27)), none, some (eI (i32)), some (eJ (v44)), none, some (eJ (v60)), none]) (s2 := [eI (v67)]) rfl (e68 _ _) rfl ?_
        refine b_ine (t1 := 102) (t2 := 91) rfl rfl rfl (ev_w_in (by omega) (by omega)) (fun g70 => ?_) (fun g70 => ?_)
        · obtain ⟨v71, e72⟩ : ∃ zz : Int, zz = (i32) + (1) := ⟨_, rfl⟩
          have b73 : 1 ≤ v71 ∧ v71 ≤ 4 := by omega
          refine w_t (np := 105) (l2 := [some (eR a0), some (eI (a1)), some (eI (a2)), some (eI (a3)), some (eJ (v11)), none, some (eJ (v27)), none, some (eI (v71)), some (eJ (v44)), none, some (eJ (v60)), none]) (s2 := []) rfl (b_iinc rfl (by rw [← e72]; exact ev_w_in (by omega) (by omega)) rfl) rfl ?_
          refine w_go (t1 := 31) rfl rfl ?_
          exact ih31 (4 - (v71)).toNat (by omega) (v71) (some (eJ (v44))) (some (eJ (v60))) (by omega)     rfl
        · have b71 : 0 ≤ v67 ∧ v67 ≤ 0 := by omega
          refine w_t (np := 93) (l2 := [some (eR a0), some (eI (a1)), some (eI (a2)), some (eI (a3)), some (eJ (v11)), none, some (eJ (v27)), none, some (eI (i32)), some (eJ (v44)), none, some (eJ (v60)), none]) (s2 := [eJ (v60)]) rfl rfl rfl ?_
          refine w_t (np := 95) (l2 := [some (eR a0), some (eI (a1)), some (eI (a2)), some (eI (a3)), some (eJ (v11)), none, some (eJ (v27)), none, some (eI (i32)), some (eJ (v44)), none, some (eJ (v60)), none]) (s2 := [eJ (v11), eJ (v60)]) rfl rfl rfl ?_
          obtain ⟨v71, e72, b73⟩ := h_lcmp (v60) (v11)
          refine w_t (np := 96) (l2 := [some (eR a0), some (eI (a1)), some (eI (a2)), some (eI (a3)), some (eJ (v11)), none, some (eJ (v27)), none, some (eI (i32)), some (eJ (v44)), none, some (eJ (v60)), none]) (s2 := [eI (v71)]) rfl (e72 _ _) rfl ?_
          refine b_ine (t1 := 102) (t2 := 99) rfl rfl rfl (ev_w_in (by omega) (by omega)) (fun g74 => ?_) (fun g74 => ?_)
          · obtain ⟨v75, e76⟩ : ∃ zz : Int, zz = (i32) + (1) := ⟨_, rfl⟩
            have b77 : 1 ≤ v75 ∧ v75 ≤ 4 := by omega
            refine w_t (np := 105) (l2 := [some (eR a0), some (eI (a1)), some (eI (a2)), some (eI (a3)), some (eJ (v11)), none, some (eJ (v27)), none, some (eI (v75)), some (eJ (v44)), none, some (eJ (v60)), none]) (s2 := []) rfl (b_iinc rfl (by rw [← e76]; exact ev_w_in (by omega) (by omega)) rfl) rfl ?_
            refine w_go (t1 := 31) rfl rfl ?_
            exact ih31 (4 - (v75)).toNat (by omega) (v75) (some (eJ (v44))) (some (eJ (v60))) (by omega)     rfl
          · have b75 : 0 ≤ v71 ∧ v71 ≤ 0 := by omega
            refine w_t (np := 101) (l2 := [some (eR a0), some (eI (a1)), some (eI (a2)), some (eI (a3)), some (eJ (v11)), none, some (eJ (v27)), none, some (eI (i32)), some (eJ (v44)), none, some (eJ (v60)), none]) (s2 := [eI (i32)]) rfl rfl rfl ?_
            exact b_ri rfl rfl (K (i32) (by omega))
      · have b67 : 0 ≤ v63 ∧ v63 ≤ 0 := by omega
        refine w_t (np := 77) (l2 := [some (eR a0), some (eI (a1)), some (eI (a2)), some (eI (a3)), some (eJ (v11)), none, some (eJ (v27)), none, some (eI (i32)), some (eJ (v44)), none, some (eJ (v60)), none]) (s2 := [eJ (v60)]) rfl rfl rfl ?_
        refine w_t (np := 79) (l2 := [some (eR a0), some (eI (a1)), some (eI (a2)), some (eI (a3)), some (eJ (v11)), none, some (eJ (v27)), none, some (eI (i32)), some (eJ (v44)), none, some (eJ (v60)), none]) (s2 := [eJ (v27), eJ (v60)]) rfl rfl rfl ?_
        obtain ⟨v67, e68, b69⟩ := h_lcmp (v60) (v27)
        refine w_t (np := 80) (l2 := [some (eR a0), some (eI (a1)), some (eI (a2)), some (eI (a3)), some (eJ (v11)), none, some (eJ (v27)), none, some (eI (i32)), some (eJ (v44)), none, some (eJ (v60)), none]) (s2 := [eI (v67)]) rfl (e68 _ _) rfl ?_
        refine b_ieq (t1 := 99) (t2 := 83) rfl rfl rfl (ev_w_in (by omega) (by omega)) (fun g70 => ?_) (fun g70 => ?_)
        · have b71 : 0 ≤ v67 ∧ v67 ≤ 0 := by omega
          refine w_t (np := 101) (l2 := [some (eR a0), some (eI (a1)), some (eI (a2)), some (eI (a3)), some (eJ (v11)), none, some (eJ (v27)), none, some (eI (i32)), some (eJ (v44)), none, some (eJ (v60)), none]) (s2 := [eI (i32)]) rfl rfl rfl ?_
          exact b_ri rfl rfl (K (i32) (by omega))
        · refine w_t (np := 85) (l2 := [some (eR a0), some (eI (a1)), some (eI (a2)), some (eI (a3)), some (eJ (v11)), none, some (eJ (v27)), none, some (eI (i32)), some (eJ (v44)), none, some (eJ (v60)), none]) (s2 := [eJ (v44)]) rfl rfl rfl ?_
          refine w_t (np := 87) (l2 := [some (eR a0), some (eI (a1)), some (eI (a2)), some (eI (a3)), some (eJ (v11)), none, some (eJ (v27)), none, some (eI (i32)), some (eJ (v44)), none, some (eJ (v60)), none]) (s2 := [eJ (v27), eJ (v44)]) rfl rfl rfl ?_
          obtain ⟨v71, e72, b73⟩ := h_lcmp (v44) (v27)
          refine w_t (np := 88) (l2 := [some (eR a0), some (eI (a1)), some (eI (a2)), some (eI (a3)), some (eJ (v11)), none, some (eJ (v27)), none, some (eI (i32)), some (eJ (v44)), none, some (eJ (v60)), none]) (s2 := [eI (v71)]) rfl (e72 _ _) rfl ?_
          refine b_ine (t1 := 102) (t2 := 91) rfl rfl rfl (ev_w_in (by omega) (by omega)) (fun g74 => ?_) (fun g74 => ?_)
          · obtain ⟨v75, e76⟩ : ∃ zz : Int, zz = (i32) + (1) := ⟨_, rfl⟩
            have b77 : 1 ≤ v75 ∧ v75 ≤ 4 := by omega
            refine w_t (np := 105) (l2 := [some (eR a0), some (eI (a1)), some (eI (a2)), some (eI (a3)), some (eJ (v11)), none, some (eJ (v27)), none, some (eI (v75)), some (eJ (v44)), none, some (eJ (v60)), none]) (s2 := []) rfl (b_iinc rfl (by rw [← e76]; exact ev_w_in (by omega) (by omega)) rfl) rfl ?_
            refine w_go (t1 := 31) rfl rfl ?_
            exact ih31 (4 - (v75)).toNat (by omega) (v75) (some (eJ (v44))) (some (eJ (v60))) (by omega)     rfl
          · have b75 : 0 ≤ v71 ∧ v71 ≤ 0 := by omega
            refine w_t (np := 93) (l2 := [some (eR a0), some (eI (a1)), some (eI (a2)), some (eI (a3)), some (eJ (v11)), none, some (eJ (v27)), none, some (eI (i32)), some (eJ (v44)), none, some (eJ (v60)), none]) (s2 := [eJ (v60)]) rfl rfl rfl ?_
            refine w_t (np := 95) (l2 := [some (eR a0), some (eI (a1)), some (eI (a2)), some (eI (a3)), some (eJ (v11)), none, some (eJ (v27)), none, some (eI (i32)), some (eJ (v44)), none, some (eJ (v60)), none]) (s2 := [eJ (v11), eJ (v60)]) rfl rfl rfl ?_
            obtain ⟨v75, e76, b77⟩ := h_lcmp (v60) (v11)
            refine w_t (np := 96) (l2 := [some (eR a0), some (eI (a1)), some (eI (a2)), some (eI (a3)), some (eJ (v11)), none, some (eJ (v27)), none, some (eI (i32)), some (eJ (v44)), none, some (eJ (v60)), none]) (s2 := [eI (v75)]) rfl (e76 _ _) rfl ?_
            refine b_ine (t1 := 102) (t2 := 99) rfl rfl rfl (ev_w_in (by omega) (by omega)) (fun g78 => ?_) (fun g78 => ?_)
            · obtain ⟨v79, e80⟩ : ∃ zz : Int, zz = (i32) + (1) := ⟨_, rfl⟩
              have b81 : 1 ≤ v79 ∧ v79 ≤ 4 := by omega
              refine w_t (np := 105) (l2 := [some (eR a0), some (eI (a1)), some (eI (a2)), some (eI (a3)), some (eJ (v11)), none, some (eJ (v27)), none, some (eI (v79)), some (eJ (v44)), none, some (eJ (v60)), none]) (s2 := []) rfl (b_iinc rfl (by rw [← e80]; exact ev_w_in (by omega) (by omega)) rfl) rfl ?_
              refine w_go (t1 := 31) rfl rfl ?_
              exact ih31 (4 - (v79)).toNat (by omega) (v79) (some (eJ (v44))) (some (eJ (v60))) (by omega)     rfl
            · have b79 : 0 ≤ v75 ∧ v75 ≤ 0 := by omega
              refine w_t (np := 101) (l2 := [some (eR a0), some (eI (a1)), some (eI (a2)), some (eI (a3)), some (eJ (v11)), none, some (eJ (v27)), none, some (eI (i32)), some (eJ (v44)), none, some (eJ (v60)), none]) (s2 := [eI (i32)]) rfl rfl rfl ?_
              exact b_ri rfl rfl (K (i32) (by omega))
  exact hL31 _ (0) (none) (none) (by decide)     rfl
theorem s_146 {L : Nat} {ρ : Nat → Int} {rc : eQ} {d : Nat} {f : eFr} {F : List eFr} {μ : eM} {g : Nat → Nat} {a0 : Nat} {a1 : Int} (hI : SI g μ) (gA0 : g a0 = 29) (bA1 : -2147483648 ≤ a1 ∧ a1 ≤ 2147483647) (K : ∀ (v : Int), (-2147483648 ≤ v ∧ v ≤ 2147483647) → ex_q (dt_fg L ρ) rc (d + 2, (f.1, f.2.1, f.2.2.1, eI v :: f.2.2.2), F, μ)) : ex_q (dt_fg L ρ) rc (d + 1, (146, 0, [some (eR a0), some (eI (a1)), none, none, none, none], []), f :: F, μ) := by
  refine w_t (np := 1) (l2 := [some (eR a0), some (eI (a1)), none, none, none, none]) (s2 := [eI (0)]) rfl rfl rfl ?_
  refine w_t (np := 2) (l2 := [some (eR a0), some (eI (a1)), some (eI (0)), none, none, none]) (s2 := []) rfl rfl rfl ?_
  refine w_t (np := 3) (l2 := [some (eR a0), some (eI (a1)), some (eI (0)), none, none, none]) (s2 := [eI (0)]) rfl rfl rfl ?_
  refine w_t (np := 4) (l2 := [some (eR a0), some (eI (a1)), some (eI (0)), some (eI (0)), none, none]) (s2 := []) rfl rfl rfl ?_
  have hL4 : ∀ (n1 : Nat) (i3 : Int) (i5 : Int) (o7 : Option eV) (o8 : Option eV), (-2147483648 ≤ i3 ∧ i3 ≤ 2147483647) → (0 ≤ i5 ∧ i5 ≤ 4) → n1 = (4 - i5).toNat → ex_q (dt_fg L ρ) rc (d + 1, (146, 4, [some (eR a0), some (eI (a1)), some (eI (i3)), some (eI (i5)), o7, o8], []), f :: F, μ) := by
    intro n1
    induction n1 using Nat.strongRecOn with
    | _ n1 ih2 =>
    intro i3 i5 o7 o8 b4 b6 hn9
    refine w_t (np := 5) (l2 := [some (eR a0), some (eI (a1)), some (eI (i3)), some (eI (i5)), o7, o8]) (s2 := [eI (i5)]) rfl rfl rfl ?_
    refine w_t (np := 6) (l2 := [some (eR a0), some (eI (a1)), some (eI (i3)), some (eI (i5)), o7, o8]) (s2 := [eI (4), eI (i5)]) rfl rfl rfl ?_
    refine b_cge (t1 := 86) (t2 := 9) rfl rfl rfl (ev_w_in (by omega) (by omega)) rfl (fun g10 => ?_) (fun g10 => ?_)
    · have b11 : 4 ≤ i5 ∧ i5 ≤ 4 := by omega
      refine w_t (np := 87) (l2 := [some (eR a0), some (eI (a1)), some (eI (i3)), some (eI (i5)), o7, o8]) (s2 := [eI (i3)]) rfl rfl rfl ?_
      exact b_ri rfl rfl (K (i3) (by omega))
    · have b11 : 0 ≤ i5 ∧ i5 ≤ 3 := by omega
      refine w_t (np := 10) (l2 := [some (eR a0), some (eI (a1)), some (eI (i3)), some (eI (i5)), o7, o8]) (s2 := [eR a0]) rfl (s_an rfl (pos_g hI gA0 (by decide))) rfl ?_
      refine w_t (np := 11) (l2 := [some (eR a0), some (eI (a1)), some (eI (i3)), some (eI (i5)), o7, o8]) (s2 := [eI (a1), eR a0]) rfl rfl rfl ?_
      refine w_cw (np := 14) (as := [eI (a1)]) (l2 := [some (eR a0), some (eI (a1))]) (rest := []) rfl rfl rfl (Nat.ble_eq.mp rfl) rfl rfl rfl (hI.kd gA0 (by decide) (n := 7) rfl) rfl ?_
      refine w_t (np := 1) (l2 := [some (eR a0), some (eI (a1))]) (s2 := [eI (a1)]) rfl rfl rfl ?_
      refine b_ilt (t1 := 12) (t2 := 4) rfl rfl rfl (ev_w_in (by omega) (by omega)) (fun g11 => ?_) (fun g11 => ?_)
      · have b12 : -2147483648 ≤ a1 ∧ a1 ≤ -1 := by omega
        refine w_t (np := 13) (l2 := [some (eR a0), some (eI (a1))]) (s2 := [eI (1)]) rfl rfl rfl ?_
        refine w_go (t1 := 17) rfl rfl ?_
        refine b_rz rfl rfl (Or.inr rfl) ?_
        show ex_q (dt_fg L ρ) rc (d + 1, (146, 14, [some (eR a0), some (eI (a1)), some (eI (i3)), some (eI (i5)), o7, o8], [eI (1)]), f :: F, μ)
        refine b_ine (t1 := 86) (t2 := 17) rfl rfl rfl rfl (fun g12 => ?_) (fun g12 => absurd g12 (by decide))
        refine w_t (np := 87) (l2 := [some (eR a0), some (eI (a1)), some (eI (i3)), some (eI (i5)), o7, o8]) (s2 := [eI (i3)]) rfl rfl rfl ?_
        exact b_ri rfl rfl (K (i3) (by omega))
      · have b12 : 0 ≤ a1 ∧ a1 ≤ 2147483647 := by omega
        refine w_t (np := 5) (l2 := [some (eR a0), some (eI (a1))]) (s2 := [eI (a1)]) rfl rfl rfl ?_
        refine w_t (np := 6) (l2 := [some (eR a0), some (eI (a1))]) (s2 := [eR a0, eI (a1)]) rfl (s_an rfl (pos_g hI gA0 (by decide))) rfl ?_
        refine j_gi (np := 9) rfl rfl rfl hI gA0 (by decide) (n := 7) rfl rfl (lo := 0) (hi := 24) rfl ?_
        intro v12 e13 b14
        refine b_clt (t1 := 16) (t2 := 12) rfl rfl rfl (ev_w_in (by omega) (by omega)) (ev_w_in (by omega) (by omega)) (fun g15 => ?_) (fun g15 => ?_)
        · have b16 : 0 ≤ a1 ∧ a1 ≤ 23 := by omega
          have b17 : 1 ≤ v12 ∧ v12 ≤ 24 := by omega
          refine w_t (np := 17) (l2 := [some (eR a0), some (eI (a1))]) (s2 := [eI (0)]) rfl rfl rfl ?_
          refine b_rz rfl rfl (Or.inl rfl) ?_
          show ex_q (dt_fg L ρ) rc (d + 1, (146, 14, [some (eR a0), some (eI (a1)), some (eI (i3)), some (eI (i5)), o7, o8], [eI (0)]), f :: F, μ)
          refine b_ine (t1 := 86) (t2 := 17) rfl rfl rfl rfl (fun g16 => absurd g16 (by decide)) (fun g16 => ?_)
          refine w_t (np := 18) (l2 := [some (eR a0), some (eI (a1)), some (eI (i3)), some (eI (i5)), o7, o8]) (s2 := [eI (0)]) rfl rfl rfl ?_
          refine w_t (np := 20) (l2 := [some (eR a0), some (eI (a1)), some (eI (i3)), some (eI (i5)), some (eI (0)), o8]) (s2 := []) rfl rfl rfl ?_
          refine w_t (np := 21) (l2 := [some (eR a0), some (eI (a1)), some (eI (i3)), some (eI (i5)), some (eI (0)), o8]) (s2 := [eI (0)]) rfl rfl rfl ?_
          refine w_t (np := 23) (l2 := [some (eR a0), some (eI (a1)), some (eI (i3)), some (eI (i5)), some (eI (0)), some (eI (0))]) (s2 := []) rfl rfl rfl ?_
          have hL23 : ∀ (n17 : Nat) (i19 : Int) (i21 : Int), (0 ≤ i19 ∧ i19 ≤ 1) → (0 ≤ i21 ∧ i21 ≤ 24) → n17 = (24 - i21).toNat → ex_q (dt_fg L ρ) rc (d + 1, (146, 23, [some (eR a0), some (eI (a1)), some (eI (i3)), some (eI (i5)), some (eI (i19)), some (eI (i21))], []), f :: F, μ) := by
            intro n17
            induction n17 using Nat.strongRecOn with
            | _ n17 ih18 =>
            intro i19 i21 b20 b22 hn23
            refine w_t (np := 25) (l2 := [some (eR a0), some (eI (a1)), some (eI (i3)), some (eI (i5)), some (eI (i19)), some (eI (i21))]) (s2 := [eI (i21)]) rfl rfl rfl ?_
            refine w_t (np := 26) (l2 := [some (eR a0), some (eI (a1)), some (eI (i3)), some (eI (i5)), some (eI (i19)), some (eI (i21))]) (s2 := [eR a0, eI (i21)]) rfl (s_an rfl (pos_g hI gA0 (by decide))) rfl ?_
            refine w_gf (np := 29) (v := eI (v12)) rfl rfl (hI.kd gA0 (by decide) (n := 7) rfl) (by rw [e13]; rfl) ?_
            refine b_cge (t1 := 67) (t2 := 32) rfl rfl rfl (ev_w_in (by omega) (by omega)) (ev_w_in (by omega) (by omega)) (fun g24 => ?_) (fun g24 => ?_)
            · have b25 : 1 ≤ i21 ∧ i21 ≤ 24 := by omega
              refine w_t (np := 68) (l2 := [some (eR a0), some (eI (a1)), some (eI (i3)), some (eI (i5)), some (eI (i19)), some (eI (i21))]) (s2 := [eI (i3)]) rfl rfl rfl ?_
              refine w_t (np := 70) (l2 := [some (eR a0), some (eI (a1)), some (eI (i3)), some (eI (i5)), some (eI (i19)), some (eI (i21))]) (s2 := [eI (i19), eI (i3)]) rfl rfl rfl ?_
              refine b_ieq (t1 := 77) (t2 := 73) rfl rfl rfl (ev_w_in (by omega) (by omega)) (fun g25 => ?_) (fun g25 => ?_)
              · have b26 : 0 ≤ i19 ∧ i19 ≤ 0 := by omega
                refine w_t (np := 78) (l2 := [some (eR a0), some (eI (a1)), some (eI (i3)), some (eI (i5)), some (eI (i19)), some (eI (i21))]) (s2 := [eI (0), eI (i3)]) rfl rfl rfl ?_
                refine w_t (np := 79) (l2 := [some (eR a0), some (eI (a1)), some (eI (i3)), some (eI (i5)), some (eI (i19)), some (eI (i21))]) (s2 := [eI (i3)]) rfl (b_iadd (by rw [Int.add_zero]; exact ev_w_in (by omega) (by omega))) rfl ?_
                refine w_t (np := 80) (l2 := [some (eR a0), some (eI (a1)), some (eI (i3)), some (eI (i5)), some (eI (i19)), some (eI (i21))]) (s2 := []) rfl rfl rfl ?_
                obtain ⟨v26, e27⟩ : ∃ zz : Int, zz = (i5) + (1) := ⟨_, rfl⟩
                have b28 : 1 ≤ v26 ∧ v26 ≤ 4 := by omega
                refine w_t (np := 83) (l2 := [some (eR a0), some (eI (a1)), some (eI (i3)), some (eI (v26)), some (eI (i19)), some (eI (i21))]) (s2 := []) rfl (b_iinc rfl (by rw [← e27]; exact ev_w_in (by omega) (by omega)) rfl) rfl ?_
                refine w_go (t1 := 4) rfl rfl ?_
                exact ih2 (4 - (v26)).toNat (by omega) (i3) (v26) (some (eI (i19))) (some (eI (i21))) (by omega) (by omega)     rfl
              · have b26 : 1 ≤ i19 ∧ i19 ≤ 1 := by omega
                refine w_t (np := 74) (l2 := [some (eR a0), some (eI (a1)), some (eI (i3)), some (eI (i5)), some (eI (i19)), some (eI (i21))]) (s2 := [eI (1), eI (i3)]) rfl rfl rfl ?_
                refine w_go (t1 := 78) rfl rfl ?_
                obtain ⟨v26, e27, b28⟩ : ∃ zz : Int, ev_w ((i3) + (1)) = zz ∧ (-2147483648 ≤ zz ∧ zz ≤ 2147483647) := ⟨_, rfl, hw_bd _⟩
                refine w_t (np := 79) (l2 := [some (eR a0), some (eI (a1)), some (eI (i3)), some (eI (i5)), some (eI (i19)), some (eI (i21))]) (s2 := [eI (v26)]) rfl (b_iadd e27) rfl ?_
                refine w_t (np := 80) (l2 := [some (eR a0), some (eI (a1)), some (eI (v26)), some (eI (i5)), some (eI (i19)), some (eI (i21))]) (s2 := []) rfl rfl rfl ?_
                obtain ⟨v29, e30⟩ : ∃ zz : Int, zz = (i5) + (1) := ⟨_, rfl⟩
                have b31 : 1 ≤ v29 ∧ v29 ≤ 4 := by omega
                refine w_t (np := 83) (l2 := [some (eR a0), some (eI (a1)), some (eI (v26)), some (eI (v29)), some (eI (i19)), some (eI (i21))]) (s2 := []) rfl (b_iinc rfl (by rw [← e30]; exact ev_w_in (by omega) (by omega)) rfl) rfl ?_
                refine w_go (t1 := 4) rfl rfl ?_
                exact ih2 (4 - (v29)).toNat (by omega) (v26) (v29) (some (eI (i19))) (some (eI (i21))) (by omega) (by omega)     rfl
            · have b25 : 0 ≤ i21 ∧ i21 ≤ 23 := by omega
              refine w_t (np := 34) (l2 := [some (eR a0), some (eI (a1)), some (eI (i3)), some (eI (i5)), some (eI (i19)), some (eI (i21))]) (s2 := [eI (i19)]) rfl rfl rfl ?_
              refine b_ine (t1 := 67) (t2 := 37) rfl rfl rfl (ev_w_in (by omega) (by omega)) (fun g25 => ?_) (fun g25 => ?_)
              · have b26 : 1 ≤ i19 ∧ i19 ≤ 1 := by omega
                refine w_t (np := 68) (l2 := [some (eR a0), some (eI (a1)), some (eI (i3)), some (eI (i5)), some (eI (i19)), some (eI (i21))]) (s2 := [eI (i3)]) rfl rfl rfl ?_
                refine w_t (np := 70) (l2 := [some (eR a0), some (eI (a1)), some (eI (i3)), some (eI (i5)), some (eI (i19)), some (eI (i21))]) (s2 := [eI (i19), eI (i3)]) rfl rfl rfl ?_
                refine b_ieq (t1 := 77) (t2 := 73) rfl rfl rfl (ev_w_in (by omega) (by omega)) (fun g26 => False.elim (by omega)) (fun g26 => ?_)
                refine w_t (np := 74) (l2 := [some (eR a0), some (eI (a1)), some (eI (i3)), some (eI (i5)), some (eI (i19)), some (eI (i21))]) (s2 := [eI (1), eI (i3)]) rfl rfl rfl ?_
                refine w_go (t1 := 78) rfl rfl ?_
                obtain ⟨v27, e28, b29⟩ : ∃ zz : Int, ev_w ((i3) + (1)) = zz ∧ (-2147483648 ≤ zz ∧ zz ≤ 2147483647) := ⟨_, rfl, hw_bd _⟩
                refine w_t (np := 79) (l2 := [some (eR a0), some (eI (a1)), some (eI (i3)), some (eI (i5)), some (eI (i19)), some (eI (i21))]) (s2 := [eI (v27)]) rfl (b_iadd e28) rfl ?_
                refine w_t (np := 80) (l2 := [some (eR a0), some (eI (a1)), some (eI (v27)), some (eI (i5)), some (eI (i19)), some (eI (i21))]) (s2 := []) rfl rfl rfl ?_
                obtain ⟨v30, e31⟩ : ∃ zz : Int, zz = (i5) + (1) := ⟨_, rfl⟩
                have b32 : 1 ≤ v30 ∧ v30 ≤ 4 := by omega
                refine w_t (np := 83) (l2 := [some (eR a0), some (eI (a1)), some (eI (v27)), some (eI (v30)), some (eI (i19)), some (eI (i21))]) (s2 := []) rfl (b_iinc rfl (by rw [← e31]; exact ev_w_in (by omega) (by omega)) rfl) rfl ?_
                refine w_go (t1 := 4) rfl rfl ?_
                exact ih2 (4 - (v30)).toNat (by omega) (v27) (v30) (some (eI (i19))) (some (eI (i21))) (by omega) (by omega)     rfl
              · have b26 : 0 ≤ i19 ∧ i19 ≤ 0 := by omega
                refine w_t (np := 39) (l2 := [some (eR a0), some (eI (a1)), some (eI (i3)), some (eI (i5)), some (eI (i19)), some (eI (i21))]) (s2 := [eI (i21)]) rfl rfl rfl ?_
                refine w_t (np := 40) (l2 := [some (eR a0), some (eI (a1)), some (eI (i3)), some (eI (i5)), some (eI (i19)), some (eI (i21))]) (s2 := [eI (a1), eI (i21)]) rfl rfl rfl ?_
                refine b_ceq (t1 := 58) (t2 := 43) rfl rfl rfl (ev_w_in (by omega) (by omega)) (ev_w_in (by omega) (by omega)) (fun g26 => ?_) (fun g26 => ?_)
                · refine w_t (np := 59) (l2 := [some (eR a0), some (eI (a1)), some (eI (i3)), some (eI (i5)), some (eI (i19)), some (eI (i21))]) (s2 := [eI (0)]) rfl rfl rfl ?_
                  refine w_t (np := 61) (l2 := [some (eR a0), some (eI (a1)), some (eI (i3)), some (eI (i5)), some (eI (0)), some (eI (i21))]) (s2 := []) rfl rfl rfl ?_
                  obtain ⟨v27, e28⟩ : ∃ zz : Int, zz = (i21) + (1) := ⟨_, rfl⟩
                  have b29 : 1 ≤ v27 ∧ v27 ≤ 24 := by omega
                  refine w_t (np := 64) (l2 := [some (eR a0), some (eI (a1)), some (eI (i3)), some (eI (i5)), some (eI (0)), some (eI (v27))]) (s2 := []) rfl (b_iinc rfl (by rw [← e28]; exact ev_w_in (by omega) (by omega)) rfl) rfl ?_
                  refine w_go (t1 := 23) rfl rfl ?_
                  exact ih18 (24 - (v27)).toNat (by omega) (0) (v27) (by decide) (by omega)     rfl
                · refine w_t (np := 44) (l2 := [some (eR a0), some (eI (a1)), some (eI (i3)), some (eI (i5)), some (eI (i19)), some (eI (i21))]) (s2 := [eR a0]) rfl (s_an rfl (pos_g hI gA0 (by decide))) rfl ?_
                  refine w_t (np := 45) (l2 := [some (eR a0), some (eI (a1)), some (eI (i3)), some (eI (i5)), some (eI (i19)), some (eI (i21))]) (s2 := [eI (a1), eR a0]) rfl rfl rfl ?_
                  refine w_t (np := 46) (l2 := [some (eR a0), some (eI (a1)), some (eI (i3)), some (eI (i5)), some (eI (i19)), some (eI (i21))]) (s2 := [eI (i5), eI (a1), eR a0]) rfl rfl rfl ?_
                  refine w_t (np := 48) (l2 := [some (eR a0), some (eI (a1)), some (eI (i3)), some (eI (i5)), some (eI (i19)), some (eI (i21))]) (s2 := [eI (i21), eI (i5), eI (a1), eR a0]) rfl rfl rfl ?_
                  refine w_cw (np := 51) (as := [eI (a1), eI (i5), eI (i21)]) (l2 := [some (eR a0), some (eI (a1)), some (eI (i5)), some (eI (i21)), none, none, none, none, none, none, none, none, none]) (rest := []) rfl rfl rfl (Nat.ble_eq.mp rfl) rfl rfl rfl (hI.kd gA0 (by decide) (n := 7) rfl) rfl ?_
                  refine s_145 (a1 := a1) (a2 := i5) (a3 := i21) hI gA0 (by omega) (by omega) (by omega) ?_
                  intro v27 b28
                  show ex_q (dt_fg L ρ) rc (d + 1, (146, 51, [some (eR a0), some (eI (a1)), some (eI (i3)), some (eI (i5)), some (eI (i19)), some (eI (i21))], [eI (v27)]), f :: F, μ)
                  refine b_ilt (t1 := 58) (t2 := 54) rfl rfl rfl (ev_w_in (by omega) (by omega)) (fun g29 => ?_) (fun g29 => ?_)
                  · have b30 : -1 ≤ v27 ∧ v27 ≤ -1 := by omega
                    refine w_t (np := 59) (l2 := [some (eR a0), some (eI (a1)), some (eI (i3)), some (eI (i5)), some (eI (i19)), some (eI (i21))]) (s2 := [eI (0)]) rfl rfl rfl ?_
                    refine w_t (np := 61) (l2 := [some (eR a0), some (eI (a1)), some (eI (i3)), some (eI (i5)), some (eI (0)), some (eI (i21))]) (s2 := []) rfl rfl rfl ?_
                    obtain ⟨v30, e31⟩ : ∃ zz : Int, zz = (i21) + (1) := ⟨_, rfl⟩
                    have b32 : 1 ≤ v30 ∧ v30 ≤ 24 := by omega
                    refine w_t (np := 64) (l2 := [some (eR a0), some (eI (a1)), some (eI (i3)), some (eI (i5)), some (eI (0)), some (eI (v30))]) (s2 := []) rfl (b_iinc rfl (by rw [← e31]; exact ev_w_in (by omega) (by omega)) rfl) rfl ?_
                    refine w_go (t1 := 23) rfl rfl ?_
                    exact ih18 (24 - (v30)).toNat (by omega) (0) (v30) (by decide) (by omega)     rfl
                  · have b30 : 0 ≤ v27 ∧ v27 ≤ 3 := by omega
                    refine w_t (np := 55) (l2 := [some (eR a0), some (eI (a1)), some (eI (i3)), some (eI (i5)), some (eI (i19)), some (eI (i21))]) (s2 := [eI (1)]) rfl rfl rfl ?_
                    refine w_go (t1 := 59) rfl rfl ?_
                    refine w_t (np := 61) (l2 := [some (eR a0), some (eI (a1)), some (eI (i3)), some (eI (i5)), some (eI (1)), some (eI (i21))]) (s2 := []) rfl rfl rfl ?_
                    obtain ⟨v30, e31⟩ : ∃ zz : Int, zz = (i21) + (1) := ⟨_, rfl⟩
                    have b32 : 1 ≤ v30 ∧ v30 ≤ 24 := by omega
                    refine w_t (np := 64) (l2 := [some (eR a0), some (eI (a1)), some (eI (i3)), some (eI (i5)), some (eI (1)), some (eI (v30))]) (s2 := []) rfl (b_iinc rfl (by rw [← e31]; exact ev_w_in (by omega) (by omega)) rfl) rfl ?_
                    refine w_go (t1 := 23) rfl rfl ?_
                    exact ih18 (24 - (v30)).toNat (by omega) (1) (v30) (by decide) (by omega)     rfl
          exact hL23 _ (0) (0) (by decide) (by decide)     rfl
        · refine w_t (np := 13) (l2 := [some (eR a0), some (eI (a1))]) (s2 := [eI (1)]) rfl rfl rfl ?_
          refine w_go (t1 := 17) rfl rfl ?_
          refine b_rz rfl rfl (Or.inr rfl) ?_
          show ex_q (dt_fg L ρ) rc (d + 1, (146, 14, [some (eR a0), some (eI (a1)), some (eI (i3)), some (eI (i5)), o7, o8], [eI (1)]), f :: F, μ)
          refine b_ine (t1 := 86) (t2 := 17) rfl rfl rfl rfl (fun g16 => ?_) (fun g16 => absurd g16 (by decide))
          refine w_t (np := 87) (l2 := [some (eR a0), some (eI (a1)), some (eI (i3)), some (eI (i5)), o7, o8]) (s2 := [eI (i3)]) rfl rfl rfl ?_
          exact b_ri rfl rfl (K (i3) (by omega))
  exact hL4 _ (0) (0) (none) (none) (by decide) (by decide)     rfl
theorem s_147 {L : Nat} {ρ : Nat → Int} {rc : eQ} {d : Nat} {f : eFr} {F : List eFr} {μ : eM} {g : Nat → Nat} {a0 : Nat} {a1 : Int} {a2 : Int} (hI : SI g μ) (gA0 : g a0 = 29) (bA1 : 0 ≤ a1 ∧ a1 ≤ 23) (bA2 : 0 ≤ a2 ∧ a2 ≤ 3) (K : ∀ (v : Int), (-2147483648 ≤ v ∧ v ≤ 2147483647) → ex_q (dt_fg L ρ) rc (d + 2, (f.1, f.2.1, f.2.2.1, eI v :: f.2.2.2), F, μ)) : ex_q (dt_fg L ρ) rc (d + 1, (147, 0, [some (eR a0), some (eI (a1)), some (eI (a2)), none], []), f :: F, μ) := by
  refine w_t (np := 1) (l2 := [some (eR a0), some (eI (a1)), some (eI (a2)), none]) (s2 := [eR a0]) rfl (s_an rfl (pos_g hI gA0 (by decide))) rfl ?_
  refine j_gr (np := 4) rfl rfl hI gA0 (by decide) (n := 7) rfl rfl rfl ?_
  intro v1 e2 b3 z4
  have b3 : g v1 = 30 := Nat.eq_of_beq_eq_true b3
  refine w_t (np := 5) (l2 := [some (eR a0), some (eI (a1)), some (eI (a2)), none]) (s2 := [eI (a1), eR v1]) rfl rfl rfl ?_
  refine j_al (np := 6) rfl rfl hI b3 (by decide) (n := 24) rfl rfl (lo := 0) (hi := 1) (fun _ => rfl) (by omega) (by omega) ?_
  intro v5 e6 b7
  refine w_cu (np := 9) (as := [eI (v5)]) (l2 := [some (eI (v5))]) (rest := []) rfl rfl rfl (Nat.ble_eq.mp rfl) rfl rfl rfl rfl ?_
  refine w_t (np := 1) (l2 := [some (eI (v5))]) (s2 := [eI (v5)]) rfl rfl rfl ?_
  refine b_ine (t1 := 8) (t2 := 4) rfl rfl rfl (ev_w_in (by omega) (by omega)) (fun g8 => ?_) (fun g8 => ?_)
  · have b9 : 1 ≤ v5 ∧ v5 ≤ 1 := by omega
    refine w_t (np := 9) (l2 := [some (eI (v5))]) (s2 := [eI (3)]) rfl rfl rfl ?_
    refine b_ri rfl rfl ?_
    show ex_q (dt_fg L ρ) rc (d + 1, (147, 9, [some (eR a0), some (eI (a1)), some (eI (a2)), none], [eI (3)]), f :: F, μ)
    refine w_t (np := 10) (l2 := [some (eR a0), some (eI (a1)), some (eI (a2)), none]) (s2 := [eI (1), eI (3)]) rfl rfl rfl ?_
    refine w_t (np := 11) (l2 := [some (eR a0), some (eI (a1)), some (eI (a2)), none]) (s2 := [eI (2), eI (1), eI (3)]) rfl rfl rfl ?_
    refine w_t (np := 12) (l2 := [some (eR a0), some (eI (a1)), some (eI (a2)), none]) (s2 := [eR a0, eI (2), eI (1), eI (3)]) rfl (s_an rfl (pos_g hI gA0 (by decide))) rfl ?_
    refine j_gr (np := 15) rfl rfl hI gA0 (by decide) (n := 7) rfl rfl rfl ?_
    intro v9 e10 b11 z12
    have b11 : g v9 = 32 := Nat.eq_of_beq_eq_true b11
    refine w_t (np := 16) (l2 := [some (eR a0), some (eI (a1)), some (eI (a2)), none]) (s2 := [eI (a1), eR v9, eI (2), eI (1), eI (3)]) rfl rfl rfl ?_
    refine j_al (np := 17) rfl rfl hI b11 (by decide) (n := 24) rfl rfl (lo := 0) (hi := 1) (fun _ => rfl) (by omega) (by omega) ?_
    intro v13 e14 b15
    obtain ⟨v16, e17⟩ : ∃ zz : Int, zz = (2) * (v13) := ⟨_, rfl⟩
    have b18 : 0 ≤ v16 ∧ v16 ≤ 2 := by omega
    refine w_t (np := 18) (l2 := [some (eR a0), some (eI (a1)), some (eI (a2)), none]) (s2 := [eI (v16), eI (1), eI (3)]) rfl (b_imul (by rw [← e17]; exact ev_w_in (by omega) (by omega))) rfl ?_
    obtain ⟨v19, e20⟩ : ∃ zz : Int, zz = (1) - (v16) := ⟨_, rfl⟩
    have b21 : -1 ≤ v19 ∧ v19 ≤ 1 := by omega
    refine w_t (np := 19) (l2 := [some (eR a0), some (eI (a1)), some (eI (a2)), none]) (s2 := [eI (v19), eI (3)]) rfl (b_isub (by rw [← e20]; exact ev_w_in (by omega) (by omega))) rfl ?_
    obtain ⟨v22, e23⟩ : ∃ zz : Int, zz = (3) * (v19) := ⟨_, rfl⟩
    have b24 : -3 ≤ v22 ∧ v22 ≤ 3 := by omega
    refine w_t (np := 20) (l2 := [some (eR a0), some (eI (a1)), some (eI (a2)), none]) (s2 := [eI (v22)]) rfl (b_imul (by rw [← e23]; exact ev_w_in (by omega) (by omega))) rfl ?_
    refine w_t (np := 21) (l2 := [some (eR a0), some (eI (a1)), some (eI (a2)), some (eI (v22))]) (s2 := []) rfl rfl rfl ?_
    refine w_t (np := 22) (l2 := [some (eR a0), some (eI (a1)), some (eI (a2)), some (eI (v22))]) (s2 := [eR a0]) rfl (s_an rfl (pos_g hI gA0 (by decide))) rfl ?_
    refine j_gr (np := 25) rfl rfl hI gA0 (by decide) (n := 7) rfl rfl rfl ?_
    intro v25 e26 b27 z28
    have b27 : g v25 = 31 := Nat.eq_of_beq_eq_true b27
    refine w_t (np := 26) (l2 := [some (eR a0), some (eI (a1)), some (eI (a2)), some (eI (v22))]) (s2 := [eI (a1), eR v25]) rfl rfl rfl ?_
    refine j_al (np := 27) rfl rfl hI b27 (by decide) (n := 24) rfl rfl (lo := 0) (hi := 9) (fun _ => rfl) (by omega) (by omega) ?_
    intro v29 e30 b31
    refine w_t (np := 28) (l2 := [some (eR a0), some (eI (a1)), some (eI (a2)), some (eI (v22))]) (s2 := [eI (a2), eI (v29)]) rfl rfl rfl ?_
    refine w_t (np := 29) (l2 := [some (eR a0), some (eI (a1)), some (eI (a2)), some (eI (v22))]) (s2 := [eI (2), eI (a2), eI (v29)]) rfl rfl rfl ?_
    obtain ⟨v32, e33, b34⟩ := h_irem (a := a2) (k := 2) (by decide) (by decide) (show (-2147483648 : Int) ≤ a2 ∧ (a2 : Int) ≤ 2147483647 by omega)
    have b35 : 0 ≤ v32 ∧ v32 ≤ 1 := by omega
    refine w_t (np := 30) (l2 := [some (eR a0), some (eI (a1)), some (eI (a2)), some (eI (v22))]) (s2 := [eI (v32), eI (v29)]) rfl (e33 _ _) rfl ?_
    refine w_t (np := 31) (l2 := [some (eR a0), some (eI (a1)), some (eI (a2)), some (eI (v22))]) (s2 := [eI (v22), eI (v32), eI (v29)]) rfl rfl rfl ?_
    obtain ⟨v36, e37⟩ : ∃ zz : Int, zz = (v32) * (v22) := ⟨_, rfl⟩
    have b38 : -3 ≤ v36 ∧ v36 ≤ 3 := by
      have hm := i_mulb (a := v32) (b := v22) (A := 1) (B := 3) (by omega) (by omega)
      rw [e37]
      omega
    refine w_t (np := 32) (l2 := [some (eR a0), some (eI (a1)), some (eI (a2)), some (eI (v22))]) (s2 := [eI (v36), eI (v29)]) rfl (b_imul (by rw [← e37]; exact ev_w_in (by omega) (by omega))) rfl ?_
    obtain ⟨v39, e40⟩ : ∃ zz : Int, zz = (v29) + (v36) := ⟨_, rfl⟩
    have b41 : -3 ≤ v39 ∧ v39 ≤ 12 := by omega
    refine w_t (np := 33) (l2 := [some (eR a0), some (eI (a1)), some (eI (a2)), some (eI (v22))]) (s2 := [eI (v39)]) rfl (b_iadd (by rw [← e40]; exact ev_w_in (by omega) (by omega))) rfl ?_
    refine w_t (np := 34) (l2 := [some (eR a0), some (eI (a1)), some (eI (a2)), some (eI (v22))]) (s2 := [eI (a2), eI (v39)]) rfl rfl rfl ?_
    refine w_t (np := 35) (l2 := [some (eR a0), some (eI (a1)), some (eI (a2)), some (eI (v22))]) (s2 := [eI (2), eI (a2), eI (v39)]) rfl rfl rfl ?_
    refine b_cge (t1 := 42) (t2 := 38) rfl rfl rfl (ev_w_in (by omega) (by omega)) rfl (fun g42 => ?_) (fun g42 => ?_)
    · have b43 : 2 ≤ a2 ∧ a2 ≤ 3 := by omega
      refine w_t (np := 43) (l2 := [some (eR a0), some (eI (a1)), some (eI (a2)), some (eI (v22))]) (s2 := [eI (5), eI (v39)]) rfl rfl rfl ?_
      obtain ⟨v43, e44⟩ : ∃ zz : Int, zz = (v39) + (5) := ⟨_, rfl⟩
      have b45 : 2 ≤ v43 ∧ v43 ≤ 17 := by omega
      refine w_t (np := 44) (l2 := [some (eR a0), some (eI (a1)), some (eI (a2)), some (eI (v22))]) (s2 := [eI (v43)]) rfl (b_iadd (by rw [← e44]; exact ev_w_in (by omega) (by omega))) rfl ?_
      exact b_ri rfl rfl (K (v43) (by omega))
    · have b43 : 0 ≤ a2 ∧ a2 ≤ 1 := by omega
      refine w_t (np := 39) (l2 := [some (eR a0), some (eI (a1)), some (eI (a2)), some (eI (v22))]) (s2 := [eI (0), eI (v39)]) rfl rfl rfl ?_
      refine w_go (t1 := 43) rfl rfl ?_
      refine w_t (np := 44) (l2 := [some (eR a0), some (eI (a1)), some (eI (a2)), some (eI (v22))]) (s2 := [eI (v39)]) rfl (b_iadd (by rw [Int.add_zero]; exact ev_w_in (by omega) (by omega))) rfl ?_
      exact b_ri rfl rfl (K (v39) (by omega))
  · have b9 : 0 ≤ v5 ∧ v5 ≤ 0 := by omega
    refine w_t (np := 5) (l2 := [some (eI (v5))]) (s2 := [eI (1)]) rfl rfl rfl ?_
    refine w_go (t1 := 9) rfl rfl ?_
    refine b_ri rfl rfl ?_
    show ex_q (dt_fg L ρ) rc (d + 1, (147, 9, [some (eR a0), some (eI (a1)), some (eI (a2)), none], [eI (1)]), f :: F, μ)
    refine w_t (np := 10) (l2 := [some (eR a0), some (eI (a1)), some (eI (a2)), none]) (s2 := [eI (1), eI (1)]) rfl rfl rfl ?_
    refine w_t (np := 11) (l2 := [some (eR a0), some (eI (a1)), some (eI (a2)), none]) (s2 := [eI (2), eI (1), eI (1)]) rfl rfl rfl ?_
    refine w_t (np := 12) (l2 := [some (eR a0), some (eI (a1)), some (eI (a2)), none]) (s2 := [eR a0, eI (2), eI (1), eI (1)]) rfl (s_an rfl (pos_g hI gA0 (by decide))) rfl ?_
    refine j_gr (np := 15) rfl rfl hI gA0 (by decide) (n := 7) rfl rfl rfl ?_
    intro v9 e10 b11 z12
    have b11 : g v9 = 32 := Nat.eq_of_beq_eq_true b11
    refine w_t (np := 16) (l2 := [some (eR a0), some (eI (a1)), some (eI (a2)), none]) (s2 := [eI (a1), eR v9, eI (2), eI (1), eI (1)]) rfl rfl rfl ?_
    refine j_al (np := 17) rfl rfl hI b11 (by decide) (n := 24) rfl rfl (lo := 0) (hi := 1) (fun _ => rfl) (by omega) (by omega) ?_
    intro v13 e14 b15
    obtain ⟨v16, e17⟩ : ∃ zz : Int, zz = (2) * (v13) := ⟨_, rfl⟩
    have b18 : 0 ≤ v16 ∧ v16 ≤ 2 := by omega
    refine w_t (np := 18) (l2 := [some (eR a0), some (eI (a1)), some (eI (a2)), none]) (s2 := [eI (v16), eI (1), eI (1)]) rfl (b_imul (by rw [← e17]; exact ev_w_in (by omega) (by omega))) rfl ?_
    obtain ⟨v19, e20⟩ : ∃ zz : Int, zz = (1) - (v16) := ⟨_, rfl⟩
    have b21 : -1 ≤ v19 ∧ v19 ≤ 1 := by omega
    refine w_t (np := 19) (l2 := [some (eR a0), some (eI (a1)), some (eI (a2)), none]) (s2 := [eI (v19), eI (1)]) rfl (b_isub (by rw [← e20]; exact ev_w_in (by omega) (by omega))) rfl ?_
    obtain ⟨v22, e23⟩ : ∃ zz : Int, zz = (1) * (v19) := ⟨_, rfl⟩
    have b24 : -1 ≤ v22 ∧ v22 ≤ 1 := by omega
    refine w_t (np := 20) (l2 := [some (eR a0), some (eI (a1)), some (eI (a2)), none]) (s2 := [eI (v22)]) rfl (b_imul (by rw [← e23]; exact ev_w_in (by omega) (by omega))) rfl ?_
    refine w_t (np := 21) (l2 := [some (eR a0), some (eI (a1)), some (eI (a2)), some (eI (v22))]) (s2 := []) rfl rfl rfl ?_
    refine w_t (np := 22) (l2 := [some (eR a0), some (eI (a1)), some (eI (a2)), some (eI (v22))]) (s2 := [eR a0]) rfl (s_an rfl (pos_g hI gA0 (by decide))) rfl ?_
    refine j_gr (np := 25) rfl rfl hI gA0 (by decide) (n := 7) rfl rfl rfl ?_
    intro v25 e26 b27 z28
    have b27 : g v25 = 31 := Nat.eq_of_beq_eq_true b27
    refine w_t (np := 26) (l2 := [some (eR a0), some (eI (a1)), some (eI (a2)), some (eI (v22))]) (s2 := [eI (a1), eR v25]) rfl rfl rfl ?_
    refine j_al (np := 27) rfl rfl hI b27 (by decide) (n := 24) rfl rfl (lo := 0) (hi := 9) (fun _ => rfl) (by omega) (by omega) ?_
    intro v29 e30 b31
    refine w_t (np := 28) (l2 := [some (eR a0), some (eI (a1)), some (eI (a2)), some (eI (v22))]) (s2 := [eI (a2), eI (v29)]) rfl rfl rfl ?_
    refine w_t (np := 29) (l2 := [some (eR a0), some (eI (a1)), some (eI (a2)), some (eI (v22))]) (s2 := [eI (2), eI (a2), eI (v29)]) rfl rfl rfl ?_
    obtain ⟨v32, e33, b34⟩ := h_irem (a := a2) (k := 2) (by decide) (by decide) (show (-2147483648 : Int) ≤ a2 ∧ (a2 : Int) ≤ 2147483647 by omega)
    have b35 : 0 ≤ v32 ∧ v32 ≤ 1 := by omega
    refine w_t (np := 30) (l2 := [some (eR a0), some (eI (a1)), some (eI (a2)), some (eI (v22))]) (s2 := [eI (v32), eI (v29)]) rfl (e33 _ _) rfl ?_
    refine w_t (np := 31) (l2 := [some (eR a0), some (eI (a1)), some (eI (a2)), some (eI (v22))]) (s2 := [eI (v22), eI (v32), eI (v29)]) rfl rfl rfl ?_
    obtain ⟨v36, e37⟩ : ∃ zz : Int, zz = (v32) * (v22) := ⟨_, rfl⟩
    have b38 : -1 ≤ v36 ∧ v36 ≤ 1 := by
      have hm := i_mulb (a := v32) (b := v22) (A := 1) (B := 1) (by omega) (by omega)
      rw [e37]
      omega
    refine w_t (np := 32) (l2 := [some (eR a0), some (eI (a1)), some (eI (a2)), some (eI (v22))]) (s2 := [eI (v36), eI (v29)]) rfl (b_imul (by rw [← e37]; exact ev_w_in (by omega) (by omega))) rfl ?_
    obtain ⟨v39, e40⟩ : ∃ zz : Int, zz = (v29) + (v36) := ⟨_, rfl⟩
    have b41 : -1 ≤ v39 ∧ v39 ≤ 10 := by omega
    refine w_t (np := 33) (l2 := [some (eR a0), some (eI (a1)), some (eI (a2)), some (eI (v22))]) (s2 := [eI (v39)]) rfl (b_iadd (by rw [← e40]; exact ev_w_in (by omega) (by omega))) rfl ?_
    refine w_t (np := 34) (l2 := [some (eR a0), some (eI (a1)), some (eI (a2)), some (eI (v22))]) (s2 := [eI (a2), eI (v39)]) rfl rfl rfl ?_
    refine w_t (np := 35) (l2 := [some (eR a0), some (eI (a1)), some (eI (a2)), some (eI (v22))]) (s2 := [eI (2), eI (a2), eI (v39)]) rfl rfl rfl ?_
    refine b_cge (t1 := 42) (t2 := 38) rfl rfl rfl (ev_w_in (by omega) (by omega)) rfl (fun g42 => ?_) (fun g42 => ?_)
    · have b43 : 2 ≤ a2 ∧ a2 ≤ 3 := by omega
      refine w_t (np := 43) (l2 := [some (eR a0), some (eI (a1)), some (eI (a2)), some (eI (v22))]) (s2 := [eI (5), eI (v39)]) rfl rfl rfl ?_
      obtain ⟨v43, e44⟩ : ∃ zz : Int, zz = (v39) + (5) := ⟨_, rfl⟩
      have b45 : 4 ≤ v43 ∧ v43 ≤ 15 := by omega
      refine w_t (np := 44) (l2 := [some (eR a0), some (eI (a1)), some (eI (a2)), some (eI (v22))]) (s2 := [eI (v43)]) rfl (b_iadd (by rw [← e44]; exact ev_w_in (by omega) (by omega))) rfl ?_
      exact b_ri rfl rfl (K (v43) (by omega))
    · have b43 : 0 ≤ a2 ∧ a2 ≤ 1 := by omega
      refine w_t (np := 39) (l2 := [some (eR a0), some (eI (a1)), some (eI (a2)), some (eI (v22))]) (s2 := [eI (0), eI (v39)]) rfl rfl rfl ?_
      refine w_go (t1 := 43) rfl rfl ?_
      refine w_t (np := 44) (l2 := [some (eR a0), some (eI (a1)), some (eI (a2)), some (eI (v22))]) (s2 := [eI (v39)]) rfl (b_iadd (by rw [Int.add_zero]; exact ev_w_in (by omega) (by omega))) rfl ?_
      exact b_ri rfl rfl (K (v39) (by omega))
theorem s_149 {L : Nat} {ρ : Nat → Int} {rc : eQ} {d : Nat} {f : eFr} {F : List eFr} {μ : eM} {g : Nat → Nat} {a0 : Nat} {a1 : Int} {a2 : Int} (hI : SI g μ) (gA0 : g a0 = 29) (bA1 : 0 ≤ a1 ∧ a1 ≤ 23) (bA2 : 0 ≤ a2 ∧ a2 ≤ 3) (K : ∀ (v : Int), (0 ≤ v ∧ v ≤ 1) → ex_q (dt_fg L ρ) rc (d + 1, (f.1, f.2.1, f.2.2.1, eI v :: f.2.2.2), F, μ)) : ex_q (dt_fg L ρ) rc (d, (149, 0, [some (eR a0), some (eI (a1)), some (eI (a2)), none], []), f :: F, μ) := by
  refine w_t (np := 1) (l2 := [some (eR a0), some (eI (a1)), some (eI (a2)), none]) (s2 := [eR a0]) rfl (s_an rfl (pos_g hI gA0 (by decide))) rfl ?_
  refine j_gr (np := 4) rfl rfl hI gA0 (by decide) (n := 7) rfl rfl rfl ?_
  intro v1 e2 b3 z4
  have b3 : g v1 = 30 := Nat.eq_of_beq_eq_true b3
  refine w_t (np := 5) (l2 := [some (eR a0), some (eI (a1)), some (eI (a2)), none]) (s2 := [eI (a1), eR v1]) rfl rfl rfl ?_
  refine j_al (np := 6) rfl rfl hI b3 (by decide) (n := 24) rfl rfl (lo := 0) (hi := 1) (fun _ => rfl) (by omega) (by omega) ?_
  intro v5 e6 b7
  refine w_t (np := 7) (l2 := [some (eR a0), some (eI (a1)), some (eI (a2)), none]) (s2 := [eI (1), eI (v5)]) rfl rfl rfl ?_
  refine b_cne (t1 := 14) (t2 := 10) rfl rfl rfl (ev_w_in (by omega) (by omega)) rfl (fun g8 => ?_) (fun g8 => ?_)
  · have b9 : 0 ≤ v5 ∧ v5 ≤ 0 := by omega
    refine w_t (np := 15) (l2 := [some (eR a0), some (eI (a1)), some (eI (a2)), none]) (s2 := [eI (0)]) rfl rfl rfl ?_
    refine w_t (np := 16) (l2 := [some (eR a0), some (eI (a1)), some (eI (a2)), some (eI (0))]) (s2 := []) rfl rfl rfl ?_
    refine w_t (np := 17) (l2 := [some (eR a0), some (eI (a1)), some (eI (a2)), some (eI (0))]) (s2 := [eI (a2)]) rfl rfl rfl ?_
    refine w_t (np := 18) (l2 := [some (eR a0), some (eI (a1)), some (eI (a2)), some (eI (0))]) (s2 := [eI (2), eI (a2)]) rfl rfl rfl ?_
    refine b_cge (t1 := 38) (t2 := 21) rfl rfl rfl (ev_w_in (by omega) (by omega)) rfl (fun g9 => ?_) (fun g9 => ?_)
    · have b10 : 2 ≤ a2 ∧ a2 ≤ 3 := by omega
      refine w_t (np := 39) (l2 := [some (eR a0), some (eI (a1)), some (eI (a2)), some (eI (0))]) (s2 := [eI (a2)]) rfl rfl rfl ?_
      refine w_t (np := 40) (l2 := [some (eR a0), some (eI (a1)), some (eI (a2)), some (eI (0))]) (s2 := [eI (2), eI (a2)]) rfl rfl rfl ?_
      obtain ⟨v10, e11, b12⟩ := h_irem (a := a2) (k := 2) (by decide) (by decide) (show (-2147483648 : Int) ≤ a2 ∧ (a2 : Int) ≤ 2147483647 by omega)
      have b13 : 0 ≤ v10 ∧ v10 ≤ 1 := by omega
      refine w_t (np := 41) (l2 := [some (eR a0), some (eI (a1)), some (eI (a2)), some (eI (0))]) (s2 := [eI (v10)]) rfl (e11 _ _) rfl ?_
      refine b_ine (t1 := 48) (t2 := 44) rfl rfl rfl (ev_w_in (by omega) (by omega)) (fun g14 => ?_) (fun g14 => ?_)
      · have b15 : 1 ≤ v10 ∧ v10 ≤ 1 := by omega
        refine w_t (np := 49) (l2 := [some (eR a0), some (eI (a1)), some (eI (a2)), some (eI (0))]) (s2 := [eI (0)]) rfl rfl rfl ?_
        exact b_rz rfl rfl (Or.inl rfl) (K (0) (by decide))
      · have b15 : 0 ≤ v10 ∧ v10 ≤ 0 := by omega
        refine w_t (np := 45) (l2 := [some (eR a0), some (eI (a1)), some (eI (a2)), some (eI (0))]) (s2 := [eI (1)]) rfl rfl rfl ?_
        refine w_go (t1 := 49) rfl rfl ?_
        exact b_rz rfl rfl (Or.inr rfl) (K (1) (by decide))
    · have b10 : 0 ≤ a2 ∧ a2 ≤ 1 := by omega
      refine w_t (np := 22) (l2 := [some (eR a0), some (eI (a1)), some (eI (a2)), some (eI (0))]) (s2 := [eI (0)]) rfl rfl rfl ?_
      refine b_ieq (t1 := 38) (t2 := 25) rfl rfl rfl rfl (fun g10 => ?_) (fun g10 => absurd g10 (by decide))
      refine w_t (np := 39) (l2 := [some (eR a0), some (eI (a1)), some (eI (a2)), some (eI (0))]) (s2 := [eI (a2)]) rfl rfl rfl ?_
      refine w_t (np := 40) (l2 := [some (eR a0), some (eI (a1)), some (eI (a2)), some (eI (0))]) (s2 := [eI (2), eI (a2)]) rfl rfl rfl ?_
      obtain ⟨v11, e12, b13⟩ := h_irem (a := a2) (k := 2) (by decide) (by decide) (show (-2147483648 : Int) ≤ a2 ∧ (a2 : Int) ≤ 2147483647 by omega)
      have b14 : 0 ≤ v11 ∧ v11 ≤ 1 := by omega
      refine w_t (np := 41) (l2 := [some (eR a0), some (eI (a1)), some (eI (a2)), some (eI (0))]) (s2 := [eI (v11)]) rfl (e12 _ _) rfl ?_
      refine b_ine (t1 := 48) (t2 := 44) rfl rfl rfl (ev_w_in (by omega) (by omega)) (fun g15 => ?_) (fun g15 => ?_)
      · have b16 : 1 ≤ v11 ∧ v11 ≤ 1 := by omega
        refine w_t (np := 49) (l2 := [some (eR a0), some (eI (a1)), some (eI (a2)), some (eI (0))]) (s2 := [eI (0)]) rfl rfl rfl ?_
        exact b_rz rfl rfl (Or.inl rfl) (K (0) (by decide))
      · have b16 : 0 ≤ v11 ∧ v11 ≤ 0 := by omega
        refine w_t (np := 45) (l2 := [some (eR a0), some (eI (a1)), some (eI (a2)), some (eI (0))]) (s2 := [eI (1)]) rfl rfl rfl ?_
        refine w_go (t1 := 49) rfl rfl ?_
        exact b_rz rfl rfl (Or.inr rfl) (K (1) (by decide))
  · have b9 : 1 ≤ v5 ∧ v5 ≤ 1 := by omega
    refine w_t (np := 11) (l2 := [some (eR a0), some (eI (a1)), some (eI (a2)), none]) (s2 := [eI (1)]) rfl rfl rfl ?_
    refine w_go (t1 := 15) rfl rfl ?_
    refine w_t (np := 16) (l2 := [some (eR a0), some (eI (a1)), some (eI (a2)), some (eI (1))]) (s2 := []) rfl rfl rfl ?_
    refine w_t (np := 17) (l2 := [some (eR a0), some (eI (a1)), some (eI (a2)), some (eI (1))]) (s2 := [eI (a2)]) rfl rfl rfl ?_
    refine w_t (np := 18) (l2 := [some (eR a0), some (eI (a1)), some (eI (a2)), some (eI (1))]) (s2 := [eI (2), eI (a2)]) rfl rfl rfl ?_
    refine b_cge (t1 := 38) (t2 := 21) rfl rfl rfl (ev_w_in (by omega) (by omega)) rfl (fun g9 => ?_) (fun g9 => ?_)
    · have b10 : 2 ≤ a2 ∧ a2 ≤ 3 := by omega
      refine w_t (np := 39) (l2 := [some (eR a0), some (eI (a1)), some (eI (a2)), some (eI (1))]) (s2 := [eI (a2)]) rfl rfl rfl ?_
      refine w_t (np := 40) (l2 := [some (eR a0), some (eI (a1)), some (eI (a2)), some (eI (1))]) (s2 := [eI (2), eI (a2)]) rfl rfl rfl ?_
      obtain ⟨v10, e11, b12⟩ := h_irem (a := a2) (k := 2) (by decide) (by decide) (show (-2147483648 : Int) ≤ a2 ∧ (a2 : Int) ≤ 2147483647 by omega)
      have b13 : 0 ≤ v10 ∧ v10 ≤ 1 := by omega
      refine w_t (np := 41) (l2 := [some (eR a0), some (eI (a1)), some (eI (a2)), some (eI (1))]) (s2 := [eI (v10)]) rfl (e11 _ _) rfl ?_
      refine b_ine (t1 := 48) (t2 := 44) rfl rfl rfl (ev_w_in (by omega) (by omega)) (fun g14 => ?_) (fun g14 => ?_)
      · have b15 : 1 ≤ v10 ∧ v10 ≤ 1 := by omega
        refine w_t (np := 49) (l2 := [some (eR a0), some (eI (a1)), some (eI (a2)), some (eI (1))]) (s2 := [eI (0)]) rfl rfl rfl ?_
        exact b_rz rfl rfl (Or.inl rfl) (K (0) (by decide))
      · have b15 : 0 ≤ v10 ∧ v10 ≤ 0 := by omega
        refine w_t (np := 45) (l2 := [some (eR a0), some (eI (a1)), some (eI (a2)), some (eI (1))]) (s2 := [eI (1)]) rfl rfl rfl ?_
        refine w_go (t1 := 49) rfl rfl ?_
        exact b_rz rfl rfl (Or.inr rfl) (K (1) (by decide))
    · have b10 : 0 ≤ a2 ∧ a2 ≤ 1 := by omega
      refine w_t (np := 22) (l2 := [some (eR a0), some (eI (a1)), some (eI (a2)), some (eI (1))]) (s2 := [eI (1)]) rfl rfl rfl ?_
      refine b_ieq (t1 := 38) (t2 := 25) rfl rfl rfl rfl (fun g10 => absurd g10 (by decide)) (fun g10 => ?_)
      refine w_t (np := 26) (l2 := [some (eR a0), some (eI (a1)), some (eI (a2)), some (eI (1))]) (s2 := [eI (a2)]) rfl rfl rfl ?_
      refine w_t (np := 27) (l2 := [some (eR a0), some (eI (a1)), some (eI (a2)), some (eI (1))]) (s2 := [eI (1), eI (a2)]) rfl rfl rfl ?_
      refine b_cne (t1 := 34) (t2 := 30) rfl rfl rfl (ev_w_in (by omega) (by omega)) rfl (fun g11 => ?_) (fun g11 => ?_)
      · have b12 : 0 ≤ a2 ∧ a2 ≤ 0 := by omega
        refine w_t (np := 35) (l2 := [some (eR a0), some (eI (a1)), some (eI (a2)), some (eI (1))]) (s2 := [eI (0)]) rfl rfl rfl ?_
        refine w_go (t1 := 49) rfl rfl ?_
        exact b_rz rfl rfl (Or.inl rfl) (K (0) (by decide))
      · have b12 : 1 ≤ a2 ∧ a2 ≤ 1 := by omega
        refine w_t (np := 31) (l2 := [some (eR a0), some (eI (a1)), some (eI (a2)), some (eI (1))]) (s2 := [eI (1)]) rfl rfl rfl ?_
        refine w_go (t1 := 49) rfl rfl ?_
        exact b_rz rfl rfl (Or.inr rfl) (K (1) (by decide))
theorem s_150 {L : Nat} {ρ : Nat → Int} {rc : eQ} {d : Nat} {f : eFr} {F : List eFr} {μ : eM} {g : Nat → Nat} {a0 : Nat} {a1 : Int} {a2 : Int} (hI : SI g μ) (gA0 : g a0 = 29) (bA1 : 0 ≤ a1 ∧ a1 ≤ 23) (bA2 : 0 ≤ a2 ∧ a2 ≤ 3) (K : ∀ (v : Int), (-9223372036854775808 ≤ v ∧ v ≤ 9223372036854775807) → ex_q (dt_fg L ρ) rc (d + 2, (f.1, f.2.1, f.2.2.1, eJ v :: f.2.2.2), F, μ)) : ex_q (dt_fg L ρ) rc (d + 1, (150, 0, [some (eR a0), some (eI (a1)), some (eI (a2))], []), f :: F, μ) := by
  refine w_t (np := 1) (l2 := [some (eR a0), some (eI (a1)), some (eI (a2))]) (s2 := [eR a0]) rfl (s_an rfl (pos_g hI gA0 (by decide))) rfl ?_
  refine j_gr (np := 4) rfl rfl hI gA0 (by decide) (n := 7) rfl rfl rfl ?_
  intro v1 e2 b3 z4
  have b3 : g v1 = 33 := Nat.eq_of_beq_eq_true b3
  refine w_t (np := 5) (l2 := [some (eR a0), some (eI (a1)), some (eI (a2))]) (s2 := [eI (4), eR v1]) rfl rfl rfl ?_
  refine w_t (np := 6) (l2 := [some (eR a0), some (eI (a1)), some (eI (a2))]) (s2 := [eI (a1), eI (4), eR v1]) rfl rfl rfl ?_
  obtain ⟨v5, e6⟩ : ∃ zz : Int, zz = (4) * (a1) := ⟨_, rfl⟩
  have b7 : 0 ≤ v5 ∧ v5 ≤ 92 := by omega
  refine w_t (np := 7) (l2 := [some (eR a0), some (eI (a1)), some (eI (a2))]) (s2 := [eI (v5), eR v1]) rfl (b_imul (by rw [← e6]; exact ev_w_in (by omega) (by omega))) rfl ?_
  refine w_t (np := 8) (l2 := [some (eR a0), some (eI (a1)), some (eI (a2))]) (s2 := [eR a0, eI (v5), eR v1]) rfl (s_an rfl (pos_g hI gA0 (by decide))) rfl ?_
  refine w_t (np := 9) (l2 := [some (eR a0), some (eI (a1)), some (eI (a2))]) (s2 := [eI (a1), eR a0, eI (v5), eR v1]) rfl rfl rfl ?_
  refine w_t (np := 10) (l2 := [some (eR a0), some (eI (a1)), some (eI (a2))]) (s2 := [eI (a2), eI (a1), eR a0, eI (v5), eR v1]) rfl rfl rfl ?_
  refine w_cw (np := 13) (as := [eI (a1), eI (a2)]) (l2 := [some (eR a0), some (eI (a1)), some (eI (a2)), none]) (rest := [eI (v5), eR v1]) rfl rfl rfl (Nat.ble_eq.mp rfl) rfl rfl rfl (hI.kd gA0 (by decide) (n := 7) rfl) rfl ?_
  refine s_149 (a1 := a1) (a2 := a2) hI gA0 (by omega) (by omega) ?_
  intro v8 b9
  show ex_q (dt_fg L ρ) rc (d + 1, (150, 13, [some (eR a0), some (eI (a1)), some (eI (a2))], [eI (v8), eI (v5), eR v1]), f :: F, μ)
  refine b_ieq (t1 := 24) (t2 := 16) rfl rfl rfl (ev_w_in (by omega) (by omega)) (fun g10 => ?_) (fun g10 => ?_)
  · have b11 : 0 ≤ v8 ∧ v8 ≤ 0 := by omega
    refine w_t (np := 25) (l2 := [some (eR a0), some (eI (a1)), some (eI (a2))]) (s2 := [eI (a2), eI (v5), eR v1]) rfl rfl rfl ?_
    obtain ⟨v11, e12⟩ : ∃ zz : Int, zz = (v5) + (a2) := ⟨_, rfl⟩
    have b13 : 0 ≤ v11 ∧ v11 ≤ 95 := by omega
    refine w_t (np := 26) (l2 := [some (eR a0), some (eI (a1)), some (eI (a2))]) (s2 := [eI (v11), eR v1]) rfl (b_iadd (by rw [← e12]; exact ev_w_in (by omega) (by omega))) rfl ?_
    refine j_ll (np := 27) rfl rfl hI b3 (by decide) (n := 96) rfl rfl (lo := -9223372036854775808) (hi := 9223372036854775807) (fun _ => rfl) (by omega) (by omega) ?_
    intro v14 e15 b16
    exact b_rl rfl rfl (K (v14) (by omega))
  · have b11 : 1 ≤ v8 ∧ v8 ≤ 1 := by omega
    refine w_t (np := 17) (l2 := [some (eR a0), some (eI (a1)), some (eI (a2))]) (s2 := [eI (a2), eI (v5), eR v1]) rfl rfl rfl ?_
    refine w_t (np := 18) (l2 := [some (eR a0), some (eI (a1)), some (eI (a2))]) (s2 := [eI (1), eI (a2), eI (v5), eR v1]) rfl rfl rfl ?_
    obtain ⟨v11, e12⟩ : ∃ zz : Int, zz = (a2) + (1) := ⟨_, rfl⟩
    have b13 : 1 ≤ v11 ∧ v11 ≤ 4 := by omega
    refine w_t (np := 19) (l2 := [some (eR a0), some (eI (a1)), some (eI (a2))]) (s2 := [eI (v11), eI (v5), eR v1]) rfl (b_iadd (by rw [← e12]; exact ev_w_in (by omega) (by omega))) rfl ?_
    refine w_t (np := 20) (l2 := [some (eR a0), some (eI (a1)), some (eI (a2))]) (s2 := [eI (4), eI (v11), eI (v5), eR v1]) rfl rfl rfl ?_
    obtain ⟨v14, e15, b16⟩ := h_irem (a := v11) (k := 4) (by decide) (by decide) (show (-2147483648 : Int) ≤ v11 ∧ (v11 : Int) ≤ 2147483647 by omega)
    have b17 : 0 ≤ v14 ∧ v14 ≤ 3 := by omega
    refine w_t (np := 21) (l2 := [some (eR a0), some (eI (a1)), some (eI (a2))]) (s2 := [eI (v14), eI (v5), eR v1]) rfl (e15 _ _) rfl ?_
    refine w_go (t1 := 25) rfl rfl ?_
    obtain ⟨v18, e19⟩ : ∃ zz : Int, zz = (v5) + (v14) := ⟨_, rfl⟩
    have b20 : 0 ≤ v18 ∧ v18 ≤ 95 := by omega
    refine w_t (np := 26) (l2 := [some (eR a0), some (eI (a1)), some (eI (a2))]) (s2 := [eI (v18), eR v1]) rfl (b_iadd (by rw [← e19]; exact ev_w_in (by omega) (by omega))) rfl ?_
    refine j_ll (np := 27) rfl rfl hI b3 (by decide) (n := 96) rfl rfl (lo := -9223372036854775808) (hi := 9223372036854775807) (fun _ => rfl) (by omega) (by omega) ?_
    intro v21 e22 b23
    exact b_rl rfl rfl (K (v21) (by omega))
theorem s_151 {L : Nat} {ρ : Nat → Int} {rc : eQ} {d : Nat} {f : eFr} {F : List eFr} {μ : eM} {g : Nat → Nat} {a0 : Nat} {a1 : Int} {a2 : Int} (hI : SI g μ) (gA0 : g a0 = 29) (bA1 : -2147483648 ≤ a1 ∧ a1 ≤ 2147483647) (bA2 : 0 ≤ a2 ∧ a2 ≤ 3) (K : ∀ (v : Int), (1 ≤ v ∧ v ≤ 4) → ex_q (dt_fg L ρ) rc (d + 3, (f.1, f.2.1, f.2.2.1, eI v :: f.2.2.2), F, μ)) : ex_q (dt_fg L ρ) rc (d + 2, (151, 0, [some (eR a0), some (eI (a1)), some (eI (a2)), none], []), f :: F, μ) := by
  refine w_t (np := 1) (l2 := [some (eR a0), some (eI (a1)), some (eI (a2)), none]) (s2 := [eR a0]) rfl (s_an rfl (pos_g hI gA0 (by decide))) rfl ?_
  refine w_t (np := 2) (l2 := [some (eR a0), some (eI (a1)), some (eI (a2)), none]) (s2 := [eI (a1), eR a0]) rfl rfl rfl ?_
  refine w_cw (np := 5) (as := [eI (a1)]) (l2 := [some (eR a0), some (eI (a1))]) (rest := []) rfl rfl rfl (Nat.ble_eq.mp rfl) rfl rfl rfl (hI.kd gA0 (by decide) (n := 7) rfl) rfl ?_
  refine s_128 (a1 := a1) hI gA0 (by omega) ?_
  intro v1 b2
  show ex_q (dt_fg L ρ) rc (d + 2, (151, 5, [some (eR a0), some (eI (a1)), some (eI (a2)), none], [eI (v1)]), f :: F, μ)
  refine w_cu (np := 8) (as := [eI (v1)]) (l2 := [some (eI (v1))]) (rest := []) rfl rfl rfl (Nat.ble_eq.mp rfl) rfl rfl rfl rfl ?_
  refine w_t (np := 1) (l2 := [some (eI (v1))]) (s2 := [eI (v1)]) rfl rfl rfl ?_
  refine b_ine (t1 := 8) (t2 := 4) rfl rfl rfl (ev_w_in (by omega) (by omega)) (fun g3 => ?_) (fun g3 => ?_)
  · have b4 : 1 ≤ v1 ∧ v1 ≤ 1 := by omega
    refine w_t (np := 9) (l2 := [some (eI (v1))]) (s2 := [eI (3)]) rfl rfl rfl ?_
    refine b_ri rfl rfl ?_
    show ex_q (dt_fg L ρ) rc (d + 2, (151, 8, [some (eR a0), some (eI (a1)), some (eI (a2)), none], [eI (3)]), f :: F, μ)
    refine w_t (np := 9) (l2 := [some (eR a0), some (eI (a1)), some (eI (a2)), some (eI (3))]) (s2 := []) rfl rfl rfl ?_
    refine w_t (np := 10) (l2 := [some (eR a0), some (eI (a1)), some (eI (a2)), some (eI (3))]) (s2 := [eI (a2)]) rfl rfl rfl ?_
    refine w_t (np := 11) (l2 := [some (eR a0), some (eI (a1)), some (eI (a2)), some (eI (3))]) (s2 := [eI (2), eI (a2)]) rfl rfl rfl ?_
    obtain ⟨v4, e5, b6⟩ := h_irem (a := a2) (k := 2) (by decide) (by decide) (show (-2147483648 : Int) ≤ a2 ∧ (a2 : Int) ≤ 2147483647 by omega)
    have b7 : 0 ≤ v4 ∧ v4 ≤ 1 := by omega
    refine w_t (np := 12) (l2 := [some (eR a0), some (eI (a1)), some (eI (a2)), some (eI (3))]) (s2 := [eI (v4)]) rfl (e5 _ _) rfl ?_
    refine b_ine (t1 := 19) (t2 := 15) rfl rfl rfl (ev_w_in (by omega) (by omega)) (fun g8 => ?_) (fun g8 => ?_)
    · have b9 : 1 ≤ v4 ∧ v4 ≤ 1 := by omega
      refine w_t (np := 20) (l2 := [some (eR a0), some (eI (a1)), some (eI (a2)), some (eI (3))]) (s2 := [eI (5)]) rfl rfl rfl ?_
      refine w_t (np := 21) (l2 := [some (eR a0), some (eI (a1)), some (eI (a2)), some (eI (3))]) (s2 := [eI (3), eI (5)]) rfl rfl rfl ?_
      refine w_t (np := 22) (l2 := [some (eR a0), some (eI (a1)), some (eI (a2)), some (eI (3))]) (s2 := [eI (2)]) rfl (b_isub rfl) rfl ?_
      exact b_ri rfl rfl (K (2) (by decide))
    · have b9 : 0 ≤ v4 ∧ v4 ≤ 0 := by omega
      refine w_t (np := 16) (l2 := [some (eR a0), some (eI (a1)), some (eI (a2)), some (eI (3))]) (s2 := [eI (3)]) rfl rfl rfl ?_
      refine w_go (t1 := 22) rfl rfl ?_
      exact b_ri rfl rfl (K (3) (by decide))
  · have b4 : 0 ≤ v1 ∧ v1 ≤ 0 := by omega
    refine w_t (np := 5) (l2 := [some (eI (v1))]) (s2 := [eI (1)]) rfl rfl rfl ?_
    refine w_go (t1 := 9) rfl rfl ?_
    refine b_ri rfl rfl ?_
    show ex_q (dt_fg L ρ) rc (d + 2, (151, 8, [some (eR a0), some (eI (a1)), some (eI (a2)), none], [eI (1)]), f :: F, μ)
    refine w_t (np := 9) (l2 := [some (eR a0), some (eI (a1)), some (eI (a2)), some (eI (1))]) (s2 := []) rfl rfl rfl ?_
    refine w_t (np := 10) (l2 := [some (eR a0), some (eI (a1)), some (eI (a2)), some (eI (1))]) (s2 := [eI (a2)]) rfl rfl rfl ?_
    refine w_t (np := 11) (l2 := [some (eR a0), some (eI (a1)), some (eI (a2)), some (eI (1))]) (s2 := [eI (2), eI (a2)]) rfl rfl rfl ?_
    obtain ⟨v4, e5, b6⟩ := h_irem (a := a2) (k := 2) (by decide) (by decide) (show (-2147483648 : Int) ≤ a2 ∧ (a2 : Int) ≤ 2147483647 by omega)
    have b7 : 0 ≤ v4 ∧ v4 ≤ 1 := by omega
    refine w_t (np := 12) (l2 := [some (eR a0), some (eI (a1)), some (eI (a2)), some (eI (1))]) (s2 := [eI (v4)]) rfl (e5 _ _) rfl ?_
    refine b_ine (t1 := 19) (t2 := 15) rfl rfl rfl (ev_w_in (by omega) (by omega)) (fun g8 => ?_) (fun g8 => ?_)
    · have b9 : 1 ≤ v4 ∧ v4 ≤ 1 := by omega
      refine w_t (np := 20) (l2 := [some (eR a0), some (eI (a1)), some (eI (a2)), some (eI (1))]) (s2 := [eI (5)]) rfl rfl rfl ?_
      refine w_t (np := 21) (l2 := [some (eR a0), some (eI (a1)), some (eI (a2)), some (eI (1))]) (s2 := [eI (1), eI (5)]) rfl rfl rfl ?_
      refine w_t (np := 22) (l2 := [some (eR a0), some (eI (a1)), some (eI (a2)), some (eI (1))]) (s2 := [eI (4)]) rfl (b_isub rfl) rfl ?_
      exact b_ri rfl rfl (K (4) (by decide))
    · have b9 : 0 ≤ v4 ∧ v4 ≤ 0 := by omega
      refine w_t (np := 16) (l2 := [some (eR a0), some (eI (a1)), some (eI (a2)), some (eI (1))]) (s2 := [eI (1)]) rfl rfl rfl ?_
      refine w_go (t1 := 22) rfl rfl ?_
      exact b_ri rfl rfl (K (1) (by decide))
theorem s_152 {L : Nat} {ρ : Nat → Int} {rc : eQ} {d : Nat} {f : eFr} {F : List eFr} {μ : eM} {g : Nat → Nat} {a0 : Nat} {a1 : Int} {a2 : Int} (hI : SI g μ) (gA0 : g a0 = 29) (bA1 : 0 ≤ a1 ∧ a1 ≤ 23) (bA2 : 0 ≤ a2 ∧ a2 ≤ 3) (K : ∀ (v : Int), (0 ≤ v ∧ v ≤ 9) → ex_q (dt_fg L ρ) rc (d + 3, (f.1, f.2.1, f.2.2.1, eI v :: f.2.2.2), F, μ)) : ex_q (dt_fg L ρ) rc (d + 2, (152, 0, [some (eR a0), some (eI (a1)), some (eI (a2)), none, none], []), f :: F, μ) := by
  refine w_t (np := 1) (l2 := [some (eR a0), some (eI (a1)), some (eI (a2)), none, none]) (s2 := [eR a0]) rfl (s_an rfl (pos_g hI gA0 (by decide))) rfl ?_
  refine w_t (np := 2) (l2 := [some (eR a0), some (eI (a1)), some (eI (a2)), none, none]) (s2 := [eI (a1), eR a0]) rfl rfl rfl ?_
  refine w_t (np := 3) (l2 := [some (eR a0), some (eI (a1)), some (eI (a2)), none, none]) (s2 := [eI (a2), eI (a1), eR a0]) rfl rfl rfl ?_
  refine w_cw (np := 6) (as := [eI (a1), eI (a2)]) (l2 := [some (eR a0), some (eI (a1)), some (eI (a2)), none]) (rest := []) rfl rfl rfl (Nat.ble_eq.mp rfl) rfl rfl rfl (hI.kd gA0 (by decide) (n := 7) rfl) rfl ?_
  refine s_147 (a1 := a1) (a2 := a2) hI gA0 (by omega) (by omega) ?_
  intro v1 b2
  show ex_q (dt_fg L ρ) rc (d + 2, (152, 6, [some (eR a0), some (eI (a1)), some (eI (a2)), none, none], [eI (v1)]), f :: F, μ)
  refine w_t (np := 7) (l2 := [some (eR a0), some (eI (a1)), some (eI (a2)), some (eI (v1)), none]) (s2 := []) rfl rfl rfl ?_
  refine w_t (np := 8) (l2 := [some (eR a0), some (eI (a1)), some (eI (a2)), some (eI (v1)), none]) (s2 := [eR a0]) rfl (s_an rfl (pos_g hI gA0 (by decide))) rfl ?_
  refine w_t (np := 9) (l2 := [some (eR a0), some (eI (a1)), some (eI (a2)), some (eI (v1)), none]) (s2 := [eI (a1), eR a0]) rfl rfl rfl ?_
  refine w_t (np := 10) (l2 := [some (eR a0), some (eI (a1)), some (eI (a2)), some (eI (v1)), none]) (s2 := [eI (a2), eI (a1), eR a0]) rfl rfl rfl ?_
  refine w_t (np := 11) (l2 := [some (eR a0), some (eI (a1)), some (eI (a2)), some (eI (v1)), none]) (s2 := [eI (3), eI (a2), eI (a1), eR a0]) rfl rfl rfl ?_
  obtain ⟨v3, e4⟩ : ∃ zz : Int, zz = (a2) + (3) := ⟨_, rfl⟩
  have b5 : 3 ≤ v3 ∧ v3 ≤ 6 := by omega
  refine w_t (np := 12) (l2 := [some (eR a0), some (eI (a1)), some (eI (a2)), some (eI (v1)), none]) (s2 := [eI (v3), eI (a1), eR a0]) rfl (b_iadd (by rw [← e4]; exact ev_w_in (by omega) (by omega))) rfl ?_
  refine w_t (np := 13) (l2 := [some (eR a0), some (eI (a1)), some (eI (a2)), some (eI (v1)), none]) (s2 := [eI (4), eI (v3), eI (a1), eR a0]) rfl rfl rfl ?_
  obtain ⟨v6, e7, b8⟩ := h_irem (a := v3) (k := 4) (by decide) (by decide) (show (-2147483648 : Int) ≤ v3 ∧ (v3 : Int) ≤ 2147483647 by omega)
  have b9 : 0 ≤ v6 ∧ v6 ≤ 3 := by omega
  refine w_t (np := 14) (l2 := [some (eR a0), some (eI (a1)), some (eI (a2)), some (eI (v1)), none]) (s2 := [eI (v6), eI (a1), eR a0]) rfl (e7 _ _) rfl ?_
  refine w_cw (np := 17) (as := [eI (a1), eI (v6)]) (l2 := [some (eR a0), some (eI (a1)), some (eI (v6)), none]) (rest := []) rfl rfl rfl (Nat.ble_eq.mp rfl) rfl rfl rfl (hI.kd gA0 (by decide) (n := 7) rfl) rfl ?_
  refine s_147 (a1 := a1) (a2 := v6) hI gA0 (by omega) (by omega) ?_
  intro v10 b11
  show ex_q (dt_fg L ρ) rc (d + 2, (152, 17, [some (eR a0), some (eI (a1)), some (eI (a2)), some (eI (v1)), none], [eI (v10)]), f :: F, μ)
  refine w_t (np := 18) (l2 := [some (eR a0), some (eI (a1)), some (eI (a2)), some (eI (v1)), none]) (s2 := [eI (5), eI (v10)]) rfl rfl rfl ?_
  obtain ⟨v12, e13, b14⟩ : ∃ zz : Int, ev_w ((v10) + (5)) = zz ∧ (-2147483648 ≤ zz ∧ zz ≤ 2147483647) := ⟨_, rfl, hw_bd _⟩
  refine w_t (np := 19) (l2 := [some (eR a0), some (eI (a1)), some (eI (a2)), some (eI (v1)), none]) (s2 := [eI (v12)]) rfl (b_iadd e13) rfl ?_
  refine w_t (np := 21) (l2 := [some (eR a0), some (eI (a1)), some (eI (a2)), some (eI (v1)), some (eI (v12))]) (s2 := []) rfl rfl rfl ?_
  refine w_t (np := 22) (l2 := [some (eR a0), some (eI (a1)), some (eI (a2)), some (eI (v1)), some (eI (v12))]) (s2 := [eR a0]) rfl (s_an rfl (pos_g hI gA0 (by decide))) rfl ?_
  refine w_t (np := 23) (l2 := [some (eR a0), some (eI (a1)), some (eI (a2)), some (eI (v1)), some (eI (v12))]) (s2 := [eI (a1), eR a0]) rfl rfl rfl ?_
  refine w_cw (np := 26) (as := [eI (a1)]) (l2 := [some (eR a0), some (eI (a1))]) (rest := []) rfl rfl rfl (Nat.ble_eq.mp rfl) rfl rfl rfl (hI.kd gA0 (by decide) (n := 7) rfl) rfl ?_
  refine s_130 (a1 := a1) hI gA0 (by omega) ?_
  intro v15 b16
  show ex_q (dt_fg L ρ) rc (d + 2, (152, 26, [some (eR a0), some (eI (a1)), some (eI (a2)), some (eI (v1)), some (eI (v12))], [eI (v15)]), f :: F, μ)
  refine b_ine (t1 := 33) (t2 := 29) rfl rfl rfl (ev_w_in (by omega) (by omega)) (fun g17 => ?_) (fun g17 => ?_)
  · have b18 : 1 ≤ v15 ∧ v15 ≤ 1 := by omega
    refine w_t (np := 35) (l2 := [some (eR a0), some (eI (a1)), some (eI (a2)), some (eI (v1)), some (eI (v12))]) (s2 := [eI (v12)]) rfl rfl rfl ?_
    refine w_t (np := 37) (l2 := [some (eR a0), some (eI (a1)), some (eI (a2)), some (eI (v1)), some (eI (v12))]) (s2 := [eI (10), eI (v12)]) rfl rfl rfl ?_
    refine w_cu (np := 40) (as := [eI (v12), eI (10)]) (l2 := [some (eI (v12)), some (eI (10)), none]) (rest := []) rfl rfl rfl (Nat.ble_eq.mp rfl) rfl rfl rfl rfl ?_
    refine w_t (np := 1) (l2 := [some (eI (v12)), some (eI (10)), none]) (s2 := [eI (v12)]) rfl rfl rfl ?_
    refine w_t (np := 2) (l2 := [some (eI (v12)), some (eI (10)), none]) (s2 := [eI (10), eI (v12)]) rfl rfl rfl ?_
    obtain ⟨v18, e19, b20⟩ := h_irem (a := v12) (k := 10) (by decide) (by decide) b14
    have b21 : -9 ≤ v18 ∧ v18 ≤ 9 := by omega
    refine w_t (np := 3) (l2 := [some (eI (v12)), some (eI (10)), none]) (s2 := [eI (v18)]) rfl (e19 _ _) rfl ?_
    refine w_t (np := 4) (l2 := [some (eI (v12)), some (eI (10)), some (eI (v18))]) (s2 := []) rfl rfl rfl ?_
    refine w_t (np := 5) (l2 := [some (eI (v12)), some (eI (10)), some (eI (v18))]) (s2 := [eI (v12)]) rfl rfl rfl ?_
    refine w_t (np := 6) (l2 := [some (eI (v12)), some (eI (10)), some (eI (v18))]) (s2 := [eI (10), eI (v12)]) rfl rfl rfl ?_
    obtain ⟨v22, e23, b24, h25⟩ := h_ixor2 (a := v12) (b := 10) (by omega) (by decide) (by decide)
    refine w_t (np := 7) (l2 := [some (eI (v12)), some (eI (10)), some (eI (v18))]) (s2 := [eI (v22)]) rfl (e23 _ _) rfl ?_
    refine b_ige (t1 := 18) (t2 := 10) rfl rfl rfl (ev_w_in (by omega) (by omega)) (fun g26 => ?_) (fun g26 => ?_)
    · have b27 : 0 ≤ v22 ∧ v22 ≤ 2147483647 := by omega
      refine w_t (np := 19) (l2 := [some (eI (v12)), some (eI (10)), some (eI (v18))]) (s2 := [eI (v18)]) rfl rfl rfl ?_
      refine b_ri rfl rfl ?_
      show ex_q (dt_fg L ρ) rc (d + 2, (152, 40, [some (eR a0), some (eI (a1)), some (eI (a2)), some (eI (v1)), some (eI (v12))], [eI (v18)]), f :: F, μ)
      exact b_ri rfl rfl (K (v18) (by omega))
    · have b27 : -2147483648 ≤ v22 ∧ v22 ≤ -1 := by omega
      refine w_t (np := 11) (l2 := [some (eI (v12)), some (eI (10)), some (eI (v18))]) (s2 := [eI (v18)]) rfl rfl rfl ?_
      refine b_ieq (t1 := 18) (t2 := 14) rfl rfl rfl (ev_w_in (by omega) (by omega)) (fun g27 => ?_) (fun g27 => ?_)
      · have b28 : 0 ≤ v18 ∧ v18 ≤ 0 := by omega
        refine w_t (np := 19) (l2 := [some (eI (v12)), some (eI (10)), some (eI (v18))]) (s2 := [eI (v18)]) rfl rfl rfl ?_
        refine b_ri rfl rfl ?_
        show ex_q (dt_fg L ρ) rc (d + 2, (152, 40, [some (eR a0), some (eI (a1)), some (eI (a2)), some (eI (v1)), some (eI (v12))], [eI (v18)]), f :: F, μ)
        exact b_ri rfl rfl (K (v18) (by omega))
      · refine w_t (np := 15) (l2 := [some (eI (v12)), some (eI (10)), some (eI (v18))]) (s2 := [eI (v18)]) rfl rfl rfl ?_
        refine w_t (np := 16) (l2 := [some (eI (v12)), some (eI (10)), some (eI (v18))]) (s2 := [eI (10), eI (v18)]) rfl rfl rfl ?_
        obtain ⟨v28, e29⟩ : ∃ zz : Int, zz = (v18) + (10) := ⟨_, rfl⟩
        have b30 : 1 ≤ v28 ∧ v28 ≤ 19 := by omega
        refine w_t (np := 17) (l2 := [some (eI (v12)), some (eI (10)), some (eI (v18))]) (s2 := [eI (v28)]) rfl (b_iadd (by rw [← e29]; exact ev_w_in (by omega) (by omega))) rfl ?_
        refine b_ri rfl rfl ?_
        show ex_q (dt_fg L ρ) rc (d + 2, (152, 40, [some (eR a0), some (eI (a1)), some (eI (a2)), some (eI (v1)), some (eI (v12))], [eI (v28)]), f :: F, μ)
        exact b_ri rfl rfl (K (v28) (by omega))
  · have b18 : 0 ≤ v15 ∧ v15 ≤ 0 := by omega
    refine w_t (np := 30) (l2 := [some (eR a0), some (eI (a1)), some (eI (a2)), some (eI (v1)), some (eI (v12))]) (s2 := [eI (v1)]) rfl rfl rfl ?_
    refine w_go (t1 := 35) rfl rfl ?_
    refine w_t (np := 37) (l2 := [some (eR a0), some (eI (a1)), some (eI (a2)), some (eI (v1)), some (eI (v12))]) (s2 := [eI (10), eI (v1)]) rfl rfl rfl ?_
    refine w_cu (np := 40) (as := [eI (v1), eI (10)]) (l2 := [some (eI (v1)), some (eI (10)), none]) (rest := []) rfl rfl rfl (Nat.ble_eq.mp rfl) rfl rfl rfl rfl ?_
    refine w_t (np := 1) (l2 := [some (eI (v1)), some (eI (10)), none]) (s2 := [eI (v1)]) rfl rfl rfl ?_
    refine w_t (np := 2) (l2 := [some (eI (v1)), some (eI (10)), none]) (s2 := [eI (10), eI (v1)]) rfl rfl rfl ?_
    obtain ⟨v18, e19, b20⟩ := h_irem (a := v1) (k := 10) (by decide) (by decide) b2
    have b21 : -9 ≤ v18 ∧ v18 ≤ 9 := by omega
    refine w_t (np := 3) (l2 := [some (eI (v1)), some (eI (10)), none]) (s2 := [eI (v18)]) rfl (e19 _ _) rfl ?_
    refine w_t (np := 4) (l2 := [some (eI (v1)), some (eI (10)), some (eI (v18))]) (s2 := []) rfl rfl rfl ?_
    refine w_t (np := 5) (l2 := [some (eI (v1)), some (eI (10)), some (eI (v18))]) (s2 := [eI (v1)]) rfl rfl rfl ?_
    refine w_t (np := 6) (l2 := [some (eI (v1)), some (eI (10)), some (eI (v18))]) (s2 := [eI (10), eI (v1)]) rfl rfl rfl ?_
    obtain ⟨v22, e23, b24, h25⟩ := h_ixor2 (a := v1) (b := 10) (by omega) (by decide) (by decide)
    refine w_t (np := 7) (l2 := [some (eI (v1)), some (eI (10)), some (eI (v18))]) (s2 := [eI (v22)]) rfl (e23 _ _) rfl ?_
    refine b_ige (t1 := 18) (t2 := 10) rfl rfl rfl (ev_w_in (by omega) (by omega)) (fun g26 => ?_) (fun g26 => ?_)
    · have b27 : 0 ≤ v22 ∧ v22 ≤ 2147483647 := by omega
      refine w_t (np := 19) (l2 := [some (eI (v1)), some (eI (10)), some (eI (v18))]) (s2 := [eI (v18)]) rfl rfl rfl ?_
      refine b_ri rfl rfl ?_
      show ex_q (dt_fg L ρ) rc (d + 2, (152, 40, [some (eR a0), some (eI (a1)), some (eI (a2)), some (eI (v1)), some (eI (v12))], [eI (v18)]), f :: F, μ)
      exact b_ri rfl rfl (K (v18) (by omega))
    · have b27 : -2147483648 ≤ v22 ∧ v22 ≤ -1 := by omega
      refine w_t (np := 11) (l2 := [some (eI (v1)), some (eI (10)), some (eI (v18))]) (s2 := [eI (v18)]) rfl rfl rfl ?_
      refine b_ieq (t1 := 18) (t2 := 14) rfl rfl rfl (ev_w_in (by omega) (by omega)) (fun g27 => ?_) (fun g27 => ?_)
      · have b28 : 0 ≤ v18 ∧ v18 ≤ 0 := by omega
        refine w_t (np := 19) (l2 := [some (eI (v1)), some (eI (10)), some (eI (v18))]) (s2 := [eI (v18)]) rfl rfl rfl ?_
        refine b_ri rfl rfl ?_
        show ex_q (dt_fg L ρ) rc (d + 2, (152, 40, [some (eR a0), some (eI (a1)), some (eI (a2)), some (eI (v1)), some (eI (v12))], [eI (v18)]), f :: F, μ)
        exact b_ri rfl rfl (K (v18) (by omega))
      · refine w_t (np := 15) (l2 := [some (eI (v1)), some (eI (10)), some (eI (v18))]) (s2 := [eI (v18)]) rfl rfl rfl ?_
        refine w_t (np := 16) (l2 := [some (eI (v1)), some (eI (10)), some (eI (v18))]) (s2 := [eI (10), eI (v18)]) rfl rfl rfl ?_
        obtain ⟨v28, e29⟩ : ∃ zz : Int, zz = (v18) + (10) := ⟨_, rfl⟩
        have b30 : 1 ≤ v28 ∧ v28 ≤ 19 := by omega
        refine w_t (np := 17) (l2 := [some (eI (v1)), some (eI (10)), some (eI (v18))]) (s2 := [eI (v28)]) rfl (b_iadd (by rw [← e29]; exact ev_w_in (by omega) (by omega))) rfl ?_
        refine b_ri rfl rfl ?_
        show ex_q (dt_fg L ρ) rc (d + 2, (152, 40, [some (eR a0), some (eI (a1)), some (eI (a2)), some (eI (v1)), some (eI (v12))], [eI (v28)]), f :: F, μ)
        exact b_ri rfl rfl (K (v28) (by omega))
