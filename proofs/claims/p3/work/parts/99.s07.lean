/-! methods, walked -/
theorem s_34 {L : Nat} {ρ : Nat → Int} {rc : eQ} {d : Nat} {f : eFr} {F : List eFr} {μ : eM} {g : Nat → Nat} {a0 : Nat} {a1 : Int} {a2 : Int} (hI : SI g μ) (gA0 : g a0 = 2) (bA1 : -2147483648 ≤ a1 ∧ a1 ≤ 2147483647) (bA2 : -60 ≤ a2 ∧ a2 ≤ 10) (K : ∀ (v : Int), (-2147483648 ≤ v ∧ v ≤ 2147483647) → ex_q (dt_fg L ρ) rc (d + 2, (f.1, f.2.1, f.2.2.1, eI v :: f.2.2.2), F, μ)) : ex_q (dt_fg L ρ) rc (d + 1, (34, 0, [some (eR a0), some (eI (a1)), some (eI (a2)), none, none, none, none, none, none], []), f :: F, μ) := by
  refine w_t (np := 1) (l2 := [some (eR a0), some (eI (a1)), some (eI (a2)), none, none, none, none, none, none]) (s2 := [eI (a1)]) rfl rfl rfl ?_
  refine w_t (np := 2) (l2 := [some (eR a0), some (eI (a1)), some (eI (a2)), none, none, none, none, none, none]) (s2 := [eI (a2), eI (a1)]) rfl rfl rfl ?_
  refine w_cu (np := 5) (as := [eI (a1), eI (a2)]) (l2 := [some (eI (a1)), some (eI (a2)), none, none]) (rest := []) rfl rfl rfl (Nat.ble_eq.mp rfl) rfl rfl rfl rfl ?_
  refine s_35 (a0 := a1) (a1 := a2) hI (by omega) (by omega) ?_
  intro v1 b2
  show ex_q (dt_fg L ρ) rc (d + 1, (34, 5, [some (eR a0), some (eI (a1)), some (eI (a2)), none, none, none, none, none, none], [eI (v1)]), f :: F, μ)
  refine w_t (np := 6) (l2 := [some (eR a0), some (eI (a1)), some (eI (a2)), some (eI (v1)), none, none, none, none, none]) (s2 := []) rfl rfl rfl ?_
  refine w_t (np := 7) (l2 := [some (eR a0), some (eI (a1)), some (eI (a2)), some (eI (v1)), none, none, none, none, none]) (s2 := [eR a0]) rfl (s_an rfl (pos_g hI gA0 (by decide))) rfl ?_
  refine j_gi (np := 10) rfl rfl rfl hI gA0 (by decide) (n := 8) rfl rfl (lo := 0) (hi := 3) rfl ?_
  intro v3 e4 b5
  refine w_t (np := 11) (l2 := [some (eR a0), some (eI (a1)), some (eI (a2)), some (eI (v1)), none, none, none, none, none]) (s2 := [eI (2), eI (v3)]) rfl rfl rfl ?_
  refine b_cge (t1 := 18) (t2 := 14) rfl rfl rfl (ev_w_in (by omega) (by omega)) rfl (fun g6 => ?_) (fun g6 => ?_)
  · have b7 : 2 ≤ v3 ∧ v3 ≤ 3 := by omega
    refine w_t (np := 19) (l2 := [some (eR a0), some (eI (a1)), some (eI (a2)), some (eI (v1)), none, none, none, none, none]) (s2 := [eI (1)]) rfl rfl rfl ?_
    refine w_t (np := 21) (l2 := [some (eR a0), some (eI (a1)), some (eI (a2)), some (eI (v1)), some (eI (1)), none, none, none, none]) (s2 := []) rfl rfl rfl ?_
    refine w_t (np := 22) (l2 := [some (eR a0), some (eI (a1)), some (eI (a2)), some (eI (v1)), some (eI (1)), none, none, none, none]) (s2 := [eI (v1)]) rfl rfl rfl ?_
    refine w_t (np := 23) (l2 := [some (eR a0), some (eI (a1)), some (eI (a2)), some (eI (v1)), some (eI (1)), none, none, none, none]) (s2 := [eR a0, eI (v1)]) rfl (s_an rfl (pos_g hI gA0 (by decide))) rfl ?_
    refine w_gf (np := 26) (v := eI (v3)) rfl rfl (hI.kd gA0 (by decide) (n := 8) rfl) (by rw [e4]; rfl) ?_
    refine b_ine (t1 := 34) (t2 := 29) rfl rfl rfl (ev_w_in (by omega) (by omega)) (fun g7 => ?_) (fun g7 => False.elim (by omega))
    refine w_t (np := 35) (l2 := [some (eR a0), some (eI (a1)), some (eI (a2)), some (eI (v1)), some (eI (1)), none, none, none, none]) (s2 := [eR a0, eI (v1)]) rfl (s_an rfl (pos_g hI gA0 (by decide))) rfl ?_
    refine w_gf (np := 38) (v := eI (v3)) rfl rfl (hI.kd gA0 (by decide) (n := 8) rfl) (by rw [e4]; rfl) ?_
    refine w_t (np := 39) (l2 := [some (eR a0), some (eI (a1)), some (eI (a2)), some (eI (v1)), some (eI (1)), none, none, none, none]) (s2 := [eI (3), eI (v3), eI (v1)]) rfl rfl rfl ?_
    refine b_cne (t1 := 46) (t2 := 42) rfl rfl rfl (ev_w_in (by omega) (by omega)) rfl (fun g8 => ?_) (fun g8 => ?_)
    · have b9 : 2 ≤ v3 ∧ v3 ≤ 2 := by omega
      refine w_t (np := 47) (l2 := [some (eR a0), some (eI (a1)), some (eI (a2)), some (eI (v1)), some (eI (1)), none, none, none, none]) (s2 := [eI (1), eI (v1)]) rfl rfl rfl ?_
      refine b_clt (t1 := 52) (t2 := 50) rfl rfl rfl (ev_w_in (by omega) (by omega)) rfl (fun g9 => ?_) (fun g9 => ?_)
      · have b10 : -2147483648 ≤ v1 ∧ v1 ≤ 0 := by omega
        refine w_t (np := 53) (l2 := [some (eR a0), some (eI (a1)), some (eI (a2)), some (eI (v1)), some (eI (1)), none, none, none, none]) (s2 := [eI (v1)]) rfl rfl rfl ?_
        refine w_t (np := 55) (l2 := [some (eR a0), some (eI (a1)), some (eI (a2)), some (eI (v1)), some (eI (1)), none, none, none, none]) (s2 := [eI (1), eI (v1)]) rfl rfl rfl ?_
        refine w_t (np := 56) (l2 := [some (eR a0), some (eI (a1)), some (eI (a2)), some (eI (v1)), some (eI (1)), none, none, none, none]) (s2 := [eI (a2), eI (1), eI (v1)]) rfl rfl rfl ?_
        refine w_cu (np := 59) (as := [eI (1), eI (a2)]) (l2 := [some (eI (1)), some (eI (a2))]) (rest := [eI (v1)]) rfl rfl rfl (Nat.ble_eq.mp rfl) rfl rfl rfl rfl ?_
        refine s_37 (a0 := 1) (a1 := a2) hI (by decide) (by omega) ?_
        intro v10 b11
        show ex_q (dt_fg L ρ) rc (d + 1, (34, 59, [some (eR a0), some (eI (a1)), some (eI (a2)), some (eI (v1)), some (eI (1)), none, none, none, none], [eI (v10), eI (v1)]), f :: F, μ)
        obtain ⟨v12, e13, b14⟩ : ∃ zz : Int, ev_w ((v1) * (v10)) = zz ∧ (-2147483648 ≤ zz ∧ zz ≤ 2147483647) := ⟨_, rfl, hw_bd _⟩
        refine w_t (np := 60) (l2 := [some (eR a0), some (eI (a1)), some (eI (a2)), some (eI (v1)), some (eI (1)), none, none, none, none]) (s2 := [eI (v12)]) rfl (b_imul e13) rfl ?_
        refine w_t (np := 62) (l2 := [some (eR a0), some (eI (a1)), some (eI (a2)), some (eI (v1)), some (eI (1)), some (eI (v12)), none, none, none]) (s2 := []) rfl rfl rfl ?_
        refine w_t (np := 63) (l2 := [some (eR a0), some (eI (a1)), some (eI (a2)), some (eI (v1)), some (eI (1)), some (eI (v12)), none, none, none]) (s2 := [eI (a2)]) rfl rfl rfl ?_
        refine w_t (np := 64) (l2 := [some (eR a0), some (eI (a1)), some (eI (a2)), some (eI (v1)), some (eI (1)), some (eI (v12)), none, none, none]) (s2 := [eI (1), eI (a2)]) rfl rfl rfl ?_
        obtain ⟨v15, e16⟩ : ∃ zz : Int, zz = (a2) - (1) := ⟨_, rfl⟩
        have b17 : -61 ≤ v15 ∧ v15 ≤ 9 := by omega
        refine w_t (np := 65) (l2 := [some (eR a0), some (eI (a1)), some (eI (a2)), some (eI (v1)), some (eI (1)), some (eI (v12)), none, none, none]) (s2 := [eI (v15)]) rfl (b_isub (by rw [← e16]; exact ev_w_in (by omega) (by omega))) rfl ?_
        refine w_t (np := 67) (l2 := [some (eR a0), some (eI (a1)), some (eI (a2)), some (eI (v1)), some (eI (1)), some (eI (v12)), some (eI (v15)), none, none]) (s2 := []) rfl rfl rfl ?_
        have hL67 : ∀ (n18 : Nat) (i20 : Int) (i22 : Int) (i24 : Int) (o26 : Option eV) (o27 : Option eV), (-10 ≤ i20 ∧ i20 ≤ 2) → (-2147483648 ≤ i22 ∧ i22 ≤ 2147483647) → (-61 ≤ i24 ∧ i24 ≤ 9) → n18 = (i24 - (-61)).toNat → ex_q (dt_fg L ρ) rc (d + 1, (34, 67, [some (eR a0), some (eI (a1)), some (eI (a2)), some (eI (v1)), some (eI (i20)), some (eI (i22)), some (eI (i24)), o26, o27], []), f :: F, μ) := by
          intro n18
          induction n18 using Nat.strongRecOn with
          | _ n18 ih19 =>
          intro i20 i22 i24 o26 o27 b21 b23 b25 hn28
          refine w_t (np := 69) (l2 := [some (eR a0), some (eI (a1)), some (eI (a2)), some (eI (v1)), some (eI (i20)), some (eI (i22)), some (eI (i24)), o26, o27]) (s2 := [eI (i24)]) rfl rfl rfl ?_
          refine b_ilt (t1 := 141) (t2 := 72) rfl rfl rfl (ev_w_in (by omega) (by omega)) (fun g29 => ?_) (fun g29 => ?_)
          · have b30 : -61 ≤ i24 ∧ i24 ≤ -1 := by omega
            refine w_t (np := 143) (l2 := [some (eR a0), some (eI (a1)), some (eI (a2)), some (eI (v1)), some (eI (i20)), some (eI (i22)), some (eI (i24)), o26, o27]) (s2 := [eI (i22)]) rfl rfl rfl ?_
            exact b_ri rfl rfl (K (i22) (by omega))
          · have b30 : 0 ≤ i24 ∧ i24 ≤ 9 := by omega
            refine w_t (np := 73) (l2 := [some (eR a0), some (eI (a1)), some (eI (a2)), some (eI (v1)), some (eI (i20)), some (eI (i22)), some (eI (i24)), o26, o27]) (s2 := [eI (a1)]) rfl rfl rfl ?_
            refine w_t (np := 75) (l2 := [some (eR a0), some (eI (a1)), some (eI (a2)), some (eI (v1)), some (eI (i20)), some (eI (i22)), some (eI (i24)), o26, o27]) (s2 := [eI (i24), eI (a1)]) rfl rfl rfl ?_
            refine w_cu (np := 78) (as := [eI (a1), eI (i24)]) (l2 := [some (eI (a1)), some (eI (i24)), none, none]) (rest := []) rfl rfl rfl (Nat.ble_eq.mp rfl) rfl rfl rfl rfl ?_
            refine s_35 (a0 := a1) (a1 := i24) hI (by omega) (by omega) ?_
            intro v30 b31
            show ex_q (dt_fg L ρ) rc (d + 1, (34, 78, [some (eR a0), some (eI (a1)), some (eI (a2)), some (eI (v1)), some (eI (i20)), some (eI (i22)), some (eI (i24)), o26, o27], [eI (v30)]), f :: F, μ)
            refine w_t (np := 79) (l2 := [some (eR a0), some (eI (a1)), some (eI (a2)), some (eI (v1)), some (eI (i20)), some (eI (i22)), some (eI (i24)), o26, o27]) (s2 := [eI (3), eI (v30)]) rfl rfl rfl ?_
            obtain ⟨v32, e33, b34⟩ := h_irem (a := v30) (k := 3) (by decide) (by decide) b31
            have b35 : -2 ≤ v32 ∧ v32 ≤ 2 := by omega
            refine w_t (np := 80) (l2 := [some (eR a0), some (eI (a1)), some (eI (a2)), some (eI (v1)), some (eI (i20)), some (eI (i22)), some (eI (i24)), o26, o27]) (s2 := [eI (v32)]) rfl (e33 _ _) rfl ?_
            refine w_t (np := 82) (l2 := [some (eR a0), some (eI (a1)), some (eI (a2)), some (eI (v1)), some (eI (i20)), some (eI (i22)), some (eI (i24)), some (eI (v32)), o27]) (s2 := []) rfl rfl rfl ?_
            refine w_t (np := 84) (l2 := [some (eR a0), some (eI (a1)), some (eI (a2)), some (eI (v1)), some (eI (i20)), some (eI (i22)), some (eI (i24)), some (eI (v32)), o27]) (s2 := [eI (v32)]) rfl rfl rfl ?_
            refine w_t (np := 86) (l2 := [some (eR a0), some (eI (a1)), some (eI (a2)), some (eI (v1)), some (eI (i20)), some (eI (i22)), some (eI (i24)), some (eI (v32)), o27]) (s2 := [eI (i20), eI (v32)]) rfl rfl rfl ?_
            refine w_t (np := 87) (l2 := [some (eR a0), some (eI (a1)), some (eI (a2)), some (eI (v1)), some (eI (i20)), some (eI (i22)), some (eI (i24)), some (eI (v32)), o27]) (s2 := [eI (1), eI (i20), eI (v32)]) rfl rfl rfl ?_
            obtain ⟨v36, e37⟩ : ∃ zz : Int, zz = (i20) + (1) := ⟨_, rfl⟩
            have b38 : -9 ≤ v36 ∧ v36 ≤ 3 := by omega
            refine w_t (np := 88) (l2 := [some (eR a0), some (eI (a1)), some (eI (a2)), some (eI (v1)), some (eI (i20)), some (eI (i22)), some (eI (i24)), some (eI (v32)), o27]) (s2 := [eI (v36), eI (v32)]) rfl (b_iadd (by rw [← e37]; exact ev_w_in (by omega) (by omega))) rfl ?_
            refine b_cle (t1 := 93) (t2 := 91) rfl rfl rfl (ev_w_in (by omega) (by omega)) (ev_w_in (by omega) (by omega)) (fun g39 => ?_) (fun g39 => ?_)
            · have b40 : -2 ≤ v36 ∧ v36 ≤ 3 := by omega
              refine w_t (np := 94) (l2 := [some (eR a0), some (eI (a1)), some (eI (a2)), some (eI (v1)), some (eI (i20)), some (eI (i22)), some (eI (i24)), some (eI (v32)), o27]) (s2 := [eI (0)]) rfl rfl rfl ?_
              refine w_t (np := 96) (l2 := [some (eR a0), some (eI (a1)), some (eI (a2)), some (eI (v1)), some (eI (i20)), some (eI (i22)), some (eI (i24)), some (eI (v32)), some (eI (0))]) (s2 := []) rfl rfl rfl ?_
              have hL96 : ∀ (n40 : Nat) (i42 : Int) (i44 : Int), (-2147483648 ≤ i42 ∧ i42 ≤ 2147483647) → (0 ≤ i44 ∧ i44 ≤ 2) → n40 = (2 - i44).toNat → ex_q (dt_fg L ρ) rc (d + 1, (34, 96, [some (eR a0), some (eI (a1)), some (eI (a2)), some (eI (v1)), some (eI (i20)), some (eI (i42)), some (eI (i24)), some (eI (v32)), some (eI (i44))], []), f :: F, μ) := by
                intro n40
                induction n40 using Nat.strongRecOn with
                | _ n40 ih41 =>
                intro i42 i44 b43 b45 hn46
                refine w_t (np := 98) (l2 := [some (eR a0), some (eI (a1)), some (eI (a2)), some (eI (v1)), some (eI (i20)), some (eI (i42)), some (eI (i24)), some (eI (v32)), some (eI (i44))]) (s2 := [eI (i44)]) rfl rfl rfl ?_
                refine w_t (np := 100) (l2 := [some (eR a0), some (eI (a1)), some (eI (a2)), some (eI (v1)), some (eI (i20)), some (eI (i42)), some (eI (i24)), some (eI (v32)), some (eI (i44))]) (s2 := [eI (v32), eI (i44)]) rfl rfl rfl ?_
                refine b_cge (t1 := 126) (t2 := 103) rfl rfl rfl (ev_w_in (by omega) (by omega)) (ev_w_in (by omega) (by omega)) (fun g47 => ?_) (fun g47 => ?_)
                · refine w_t (np := 128) (l2 := [some (eR a0), some (eI (a1)), some (eI (a2)), some (eI (v1)), some (eI (i20)), some (eI (i42)), some (eI (i24)), some (eI (v32)), some (eI (i44))]) (s2 := [eI (i20)]) rfl rfl rfl ?_
                  refine w_t (np := 130) (l2 := [some (eR a0), some (eI (a1)), some (eI (a2)), some (eI (v1)), some (eI (i20)), some (eI (i42)), some (eI (i24)), some (eI (v32)), some (eI (i44))]) (s2 := [eI (v32), eI (i20)]) rfl rfl rfl ?_
                  refine w_cu (np := 133) (as := [eI (i20), eI (v32)]) (l2 := [some (eI (i20)), some (eI (v32))]) (rest := []) rfl rfl rfl (Nat.ble_eq.mp rfl) rfl rfl rfl rfl ?_
                  refine w_t (np := 1) (l2 := [some (eI (i20)), some (eI (v32))]) (s2 := [eI (i20)]) rfl rfl rfl ?_
                  refine b_ine (t1 := 8) (t2 := 4) rfl rfl rfl (ev_w_in (by omega) (by omega)) (fun g48 => ?_) (fun g48 => ?_)
                  · refine w_t (np := 9) (l2 := [some (eI (i20)), some (eI (v32))]) (s2 := [eI (v32)]) rfl rfl rfl ?_
                    refine w_t (np := 10) (l2 := [some (eI (i20)), some (eI (v32))]) (s2 := [eI (2), eI (v32)]) rfl rfl rfl ?_
                    refine b_cne (t1 := 17) (t2 := 13) rfl rfl rfl (ev_w_in (by omega) (by omega)) rfl (fun g49 => ?_) (fun g49 => ?_)
                    · have b50 : -2 ≤ v32 ∧ v32 ≤ 1 := by omega
                      refine w_t (np := 18) (l2 := [some (eI (i20)), some (eI (v32))]) (s2 := [eI (1)]) rfl rfl rfl ?_
                      refine b_ri rfl rfl ?_
                      show ex_q (dt_fg L ρ) rc (d + 1, (34, 133, [some (eR a0), some (eI (a1)), some (eI (a2)), some (eI (v1)), some (eI (i20)), some (eI (i42)), some (eI (i24)), some (eI (v32)), some (eI (i44))], [eI (1)]), f :: F, μ)
                      refine w_t (np := 135) (l2 := [some (eR a0), some (eI (a1)), some (eI (a2)), some (eI (v1)), some (eI (1)), some (eI (i42)), some (eI (i24)), some (eI (v32)), some (eI (i44))]) (s2 := []) rfl rfl rfl ?_
                      obtain ⟨v50, e51⟩ : ∃ zz : Int, zz = (i24) + (-1) := ⟨_, rfl⟩
                      have b52 : -1 ≤ v50 ∧ v50 ≤ 8 := by omega
                      refine w_t (np := 138) (l2 := [some (eR a0), some (eI (a1)), some (eI (a2)), some (eI (v1)), some (eI (1)), some (eI (i42)), some (eI (v50)), some (eI (v32)), some (eI (i44))]) (s2 := []) rfl (b_iinc rfl (by rw [← e51]; exact ev_w_in (by omega) (by omega)) rfl) rfl ?_
                      refine w_go (t1 := 67) rfl rfl ?_
                      exact ih19 ((v50) - (-61)).toNat (by omega) (1) (i42) (v50) (some (eI (v32))) (some (eI (i44))) (by decide) (by omega) (by omega)     rfl
                    · have b50 : 2 ≤ v32 ∧ v32 ≤ 2 := by omega
                      refine w_t (np := 14) (l2 := [some (eI (i20)), some (eI (v32))]) (s2 := [eI (0)]) rfl rfl rfl ?_
                      refine w_go (t1 := 18) rfl rfl ?_
                      refine b_ri rfl rfl ?_
                      show ex_q (dt_fg L ρ) rc (d + 1, (34, 133, [some (eR a0), some (eI (a1)), some (eI (a2)), some (eI (v1)), some (eI (i20)), some (eI (i42)), some (eI (i24)), some (eI (v32)), some (eI (i44))], [eI (0)]), f :: F, μ)
                      refine w_t (np := 135) (l2 := [some (eR a0), some (eI (a1)), some (eI (a2)), some (eI (v1)), some (eI (0)), some (eI (i42)), some (eI (i24)), some (eI (v32)), some (eI (i44))]) (s2 := []) rfl rfl rfl ?_
                      obtain ⟨v50, e51⟩ : ∃ zz : Int, zz = (i24) + (-1) := ⟨_, rfl⟩
                      have b52 : -1 ≤ v50 ∧ v50 ≤ 8 := by omega
                      refine w_t (np := 138) (l2 := [some (eR a0), some (eI (a1)), some (eI (a2)), some (eI (v1)), some (eI (0)), some (eI (i42)), some (eI (v50)), some (eI (v32)), some (eI (i44))]) (s2 := []) rfl (b_iinc rfl (by rw [← e51]; exact ev_w_in (by omega) (by omega)) rfl) rfl ?_
                      refine w_go (t1 := 67) rfl rfl ?_
                      exact ih19 ((v50) - (-61)).toNat (by omega) (0) (i42) (v50) (some (eI (v32))) (some (eI (i44))) (by decide) (by omega) (by omega)     rfl
                  · have b49 : 0 ≤ i20 ∧ i20 ≤ 0 := by omega
                    refine w_t (np := 5) (l2 := [some (eI (i20)), some (eI (v32))]) (s2 := [eI (v32)]) rfl rfl rfl ?_
                    refine w_go (t1 := 18) rfl rfl ?_
                    refine b_ri rfl rfl ?_
                    show ex_q (dt_fg L ρ) rc (d + 1, (34, 133, [some (eR a0), some (eI (a1)), some (eI (a2)), some (eI (v1)), some (eI (i20)), some (eI (i42)), some (eI (i24)), some (eI (v32)), some (eI (i44))], [eI (v32)]), f :: F, μ)
                    refine w_t (np := 135) (l2 := [some (eR a0), some (eI (a1)), some (eI (a2)), some (eI (v1)), some (eI (v32)), some (eI (i42)), some (eI (i24)), some (eI (v32)), some (eI (i44))]) (s2 := []) rfl rfl rfl ?_
                    obtain ⟨v49, e50⟩ : ∃ zz : Int, zz = (i24) + (-1) := ⟨_, rfl⟩
                    have b51 : -1 ≤ v49 ∧ v49 ≤ 8 := by omega
                    refine w_t (np := 138) (l2 := [some (eR a0), some (eI (a1)), some (eI (a2)), some (eI (v1)), some (eI (v32)), some (eI (i42)), some (eI (v49)), some (eI (v32)), some (eI (i44))]) (s2 := []) rfl (b_iinc rfl (by rw [← e50]; exact ev_w_in (by omega) (by omega)) rfl) rfl ?_
                    refine w_go (t1 := 67) rfl rfl ?_
                    exact ih19 ((v49) - (-61)).toNat (by omega) (v32) (i42) (v49) (some (eI (v32))) (some (eI (i44))) (by omega) (by omega) (by omega)     rfl
                · have b48 : 0 ≤ i44 ∧ i44 ≤ 1 := by omega
                  have b49 : 1 ≤ v32 ∧ v32 ≤ 2 := by omega
                  refine w_t (np := 105) (l2 := [some (eR a0), some (eI (a1)), some (eI (a2)), some (eI (v1)), some (eI (i20)), some (eI (i42)), some (eI (i24)), some (eI (v32)), some (eI (i44))]) (s2 := [eI (i42)]) rfl rfl rfl ?_
                  refine w_t (np := 107) (l2 := [some (eR a0), some (eI (a1)), some (eI (a2)), some (eI (v1)), some (eI (i20)), some (eI (i42)), some (eI (i24)), some (eI (v32)), some (eI (i44))]) (s2 := [eI (i20), eI (i42)]) rfl rfl rfl ?_
                  refine w_t (np := 109) (l2 := [some (eR a0), some (eI (a1)), some (eI (a2)), some (eI (v1)), some (eI (i20)), some (eI (i42)), some (eI (i24)), some (eI (v32)), some (eI (i44))]) (s2 := [eI (i44), eI (i20), eI (i42)]) rfl rfl rfl ?_
                  refine w_cu (np := 112) (as := [eI (i20), eI (i44)]) (l2 := [some (eI (i20)), some (eI (i44))]) (rest := [eI (i42)]) rfl rfl rfl (Nat.ble_eq.mp rfl) rfl rfl rfl rfl ?_
                  refine w_t (np := 1) (l2 := [some (eI (i20)), some (eI (i44))]) (s2 := [eI (i20)]) rfl rfl rfl ?_
                  refine b_ine (t1 := 8) (t2 := 4) rfl rfl rfl (ev_w_in (by omega) (by omega)) (fun g48 => ?_) (fun g48 => ?_)
                  · refine w_t (np := 9) (l2 := [some (eI (i20)), some (eI (i44))]) (s2 := [eI (i44)]) rfl rfl rfl ?_
                    refine w_t (np := 10) (l2 := [some (eI (i20)), some (eI (i44))]) (s2 := [eI (2), eI (i44)]) rfl rfl rfl ?_
                    refine b_cne (t1 := 17) (t2 := 13) rfl rfl rfl (ev_w_in (by omega) (by omega)) rfl (fun g49 => ?_) (fun g49 => False.elim (by omega))
                    refine w_t (np := 18) (l2 := [some (eI (i20)), some (eI (i44))]) (s2 := [eI (1)]) rfl rfl rfl ?_
                    refine b_ri rfl rfl ?_
                    show ex_q (dt_fg L ρ) rc (d + 1, (34, 112, [some (eR a0), some (eI (a1)), some (eI (a2)), some (eI (v1)), some (eI (i20)), some (eI (i42)), some (eI (i24)), some (eI (v32)), some (eI (i44))], [eI (1), eI (i42)]), f :: F, μ)
                    refine w_t (np := 114) (l2 := [some (eR a0), some (eI (a1)), some (eI (a2)), some (eI (v1)), some (eI (i20)), some (eI (i42)), some (eI (i24)), some (eI (v32)), some (eI (i44))]) (s2 := [eI (i24), eI (1), eI (i42)]) rfl rfl rfl ?_
                    refine w_cu (np := 117) (as := [eI (1), eI (i24)]) (l2 := [some (eI (1)), some (eI (i24))]) (rest := [eI (i42)]) rfl rfl rfl (Nat.ble_eq.mp rfl) rfl rfl rfl rfl ?_
                    refine s_37 (a0 := 1) (a1 := i24) hI (by decide) (by omega) ?_
                    intro v50 b51
                    show ex_q (dt_fg L ρ) rc (d + 1, (34, 117, [some (eR a0), some (eI (a1)), some (eI (a2)), some (eI (v1)), some (eI (i20)), some (eI (i42)), some (eI (i24)), some (eI (v32)), some (eI (i44))], [eI (v50), eI (i42)]), f :: F, μ)
                    obtain ⟨v52, e53, b54⟩ : ∃ zz : Int, ev_w ((i42) + (v50)) = zz ∧ (-2147483648 ≤ zz ∧ zz ≤ 2147483647) := ⟨_, rfl, hw_bd _⟩
                    refine w_t (np := 118) (l2 := [some (eR a0), some (eI (a1)), some (eI (a2)), some (eI (v1)), some (eI (i20)), some (eI (i42)), some (eI (i24)), some (eI (v32)), some (eI (i44))]) (s2 := [eI (v52)]) rfl (b_iadd e53) rfl ?_
                    refine w_t (np := 120) (l2 := [some (eR a0), some (eI (a1)), some (eI (a2)), some (eI (v1)), some (eI (i20)), some (eI (v52)), some (eI (i24)), some (eI (v32)), some (eI (i44))]) (s2 := []) rfl rfl rfl ?_
                    obtain ⟨v55, e56⟩ : ∃ zz : Int, zz = (i44) + (1) := ⟨_, rfl⟩
                    have b57 : 1 ≤ v55 ∧ v55 ≤ 2 := by omega
                    refine w_t (np := 123) (l2 := [some (eR a0), some (eI (a1)), some (eI (a2)), some (eI (v1)), some (eI (i20)), some (eI (v52)), some (eI (i24)), some (eI (v32)), some (eI (v55))]) (s2 := []) rfl (b_iinc rfl (by rw [← e56]; exact ev_w_in (by omega) (by omega)) rfl) rfl ?_
                    refine w_go (t1 := 96) rfl rfl ?_
                    exact ih41 (2 - (v55)).toNat (by omega) (v52) (v55) (by omega) (by omega)     rfl
                  · have b49 : 0 ≤ i20 ∧ i20 ≤ 0 := by omega
                    refine w_t (np := 5) (l2 := [some (eI (i20)), some (eI (i44))]) (s2 := [eI (i44)]) rfl rfl rfl ?_
                    refine w_go (t1 := 18) rfl rfl ?_
                    refine b_ri rfl rfl ?_
                    show ex_q (dt_fg L ρ) rc (d + 1, (34, 112, [some (eR a0), some (eI (a1)), some (eI (a2)), some (eI (v1)), some (eI (i20)), some (eI (i42)), some (eI (i24)), some (eI (v32)), some (eI (i44))], [eI (i44), eI (i42)]), f :: F, μ)
                    refine w_t (np := 114) (l2 := [some (eR a0), some (eI (a1)), some (eI (a2)), some (eI (v1)), some (eI (i20)), some (eI (i42)), some (eI (i24)), some (eI (v32)), some (eI (i44))]) (s2 := [eI (i24), eI (i44), eI (i42)]) rfl rfl rfl ?_
                    refine w_cu (np := 117) (as := [eI (i44), eI (i24)]) (l2 := [some (eI (i44)), some (eI (i24))]) (rest := [eI (i42)]) rfl rfl rfl (Nat.ble_eq.mp rfl) rfl rfl rfl rfl ?_
                    refine s_37 (a0 := i44) (a1 := i24) hI (by omega) (by omega) ?_
                    intro v49 b50
                    show ex_q (dt_fg L ρ) rc (d + 1, (34, 117, [some (eR a0), some (eI (a1)), some (eI (a2)), some (eI (v1)), some (eI (i20)), some (eI (i42)), some (eI (i24)), some (eI (v32)), some (eI (i44))], [eI (v49), eI (i42)]), f :: F, μ)
                    obtain ⟨v51, e52, b53⟩ : ∃ zz : Int, ev_w ((i42) + (v49)) = zz ∧ (-2147483648 ≤ zz ∧ zz ≤ 2147483647) := ⟨_, rfl, hw_bd _⟩
                    refine w_t (np := 118) (l2 := [some (eR a0), some (eI (a1)), some (eI (a2)), some (eI (v1)), some (eI (i20)), some (eI (i42)), some (eI (i24)), some (eI (v32)), some (eI (i44))]) (s2 := [eI (v51)]) rfl (b_iadd e52) rfl ?_
                    refine w_t (np := 120) (l2 := [some (eR a0), some (eI (a1)), some (eI (a2)), some (eI (v1)), some (eI (i20)), some (eI (v51)), some (eI (i24)), some (eI (v32)), some (eI (i44))]) (s2 := []) rfl rfl rfl ?_
                    obtain ⟨v54, e55⟩ : ∃ zz : Int, zz = (i44) + (1) := ⟨_, rfl⟩
                    have b56 : 1 ≤ v54 ∧ v54 ≤ 2 := by omega
                    refine w_t (np := 123) (l2 := [some (eR a0), some (eI (a1)), some (eI (a2)), some (eI (v1)), some (eI (i20)), some (eI (v51)), some (eI (i24)), some (eI (v32)), some (eI (v54))]) (s2 := []) rfl (b_iinc rfl (by rw [← e55]; exact ev_w_in (by omega) (by omega)) rfl) rfl ?_
                    refine w_go (t1 := 96) rfl rfl ?_
                    exact ih41 (2 - (v54)).toNat (by omega) (v51) (v54) (by omega) (by omega)     rfl
              exact hL96 _ (i22) (0) (by omega) (by decide)     rfl
            · have b40 : -9 ≤ v36 ∧ v36 ≤ 1 := by omega
              refine w_t (np := 92) (l2 := [some (eR a0), some (eI (a1)), some (eI (a2)), some (eI (v1)), some (eI (i20)), some (eI (i22)), some (eI (i24)), some (eI (v32)), o27]) (s2 := [eI (-1)]) rfl rfl rfl ?_
              exact b_ri rfl rfl (K (-1) (by decide))
        exact hL67 _ (1) (v12) (v15) (none) (none) (by decide) (by omega) (by omega)     rfl
      · have b10 : 1 ≤ v1 ∧ v1 ≤ 2147483647 := by omega
        refine w_t (np := 51) (l2 := [some (eR a0), some (eI (a1)), some (eI (a2)), some (eI (v1)), some (eI (1)), none, none, none, none]) (s2 := [eI (-1)]) rfl rfl rfl ?_
        exact b_ri rfl rfl (K (-1) (by decide))
    · have b9 : 3 ≤ v3 ∧ v3 ≤ 3 := by omega
      refine w_t (np := 43) (l2 := [some (eR a0), some (eI (a1)), some (eI (a2)), some (eI (v1)), some (eI (1)), none, none, none, none]) (s2 := [eI (2), eI (v1)]) rfl rfl rfl ?_
      refine w_go (t1 := 47) rfl rfl ?_
      refine b_clt (t1 := 52) (t2 := 50) rfl rfl rfl (ev_w_in (by omega) (by omega)) rfl (fun g9 => ?_) (fun g9 => ?_)
      · have b10 : -2147483648 ≤ v1 ∧ v1 ≤ 1 := by omega
        refine w_t (np := 53) (l2 := [some (eR a0), some (eI (a1)), some (eI (a2)), some (eI (v1)), some (eI (1)), none, none, none, none]) (s2 := [eI (v1)]) rfl rfl rfl ?_
        refine w_t (np := 55) (l2 := [some (eR a0), some (eI (a1)), some (eI (a2)), some (eI (v1)), some (eI (1)), none, none, none, none]) (s2 := [eI (1), eI (v1)]) rfl rfl rfl ?_
        refine w_t (np := 56) (l2 := [some (eR a0), some (eI (a1)), some (eI (a2)), some (eI (v1)), some (eI (1)), none, none, none, none]) (s2 := [eI (a2), eI (1), eI (v1)]) rfl rfl rfl ?_
        refine w_cu (np := 59) (as := [eI (1), eI (a2)]) (l2 := [some (eI (1)), some (eI (a2))]) (rest := [eI (v1)]) rfl rfl rfl (Nat.ble_eq.mp rfl) rfl rfl rfl rfl ?_
        refine s_37 (a0 := 1) (a1 := a2) hI (by decide) (by omega) ?_
        intro v10 b11
        show ex_q (dt_fg L ρ) rc (d + 1, (34, 59, [some (eR a0), some (eI (a1)), some (eI (a2)), some (eI (v1)), some (eI (1)), none, none, none, none], [eI (v10), eI (v1)]), f :: F, μ)
        obtain ⟨v12, e13, b14⟩ : ∃ zz : Int, ev_w ((v1) * (v10)) = zz ∧ (-2147483648 ≤ zz ∧ zz ≤ 2147483647) := ⟨_, rfl, hw_bd _⟩
        refine w_t (np := 60) (l2 := [some (eR a0), some (eI (a1)), some (eI (a2)), some (eI (v1)), some (eI (1)), none, none, none, none]) (s2 := [eI (v12)]) rfl (b_imul e13) rfl ?_
        refine w_t (np := 62) (l2 := [some (eR a0), some (eI (a1)), some (eI (a2)), some (eI (v1)), some (eI (1)), some (eI (v12)), none, none, none]) (s2 := []) rfl rfl rfl ?_
        refine w_t (np := 63) (l2 := [some (eR a0), some (eI (a1)), some (eI (a2)), some (eI (v1)), some (eI (1)), some (eI (v12)), none, none, none]) (s2 := [eI (a2)]) rfl rfl rfl ?_
        refine w_t (np := 64) (l2 := [some (eR a0), some (eI (a1)), some (eI (a2)), some (eI (v1)), some (eI (1)), some (eI (v12)), none, none, none]) (s2 := [eI (1), eI (a2)]) rfl rfl rfl ?_
        obtain ⟨v15, e16⟩ : ∃ zz : Int, zz = (a2) - (1) := ⟨_, rfl⟩
        have b17 : -61 ≤ v15 ∧ v15 ≤ 9 := by omega
        refine w_t (np := 65) (l2 := [some (eR a0), some (eI (a1)), some (eI (a2)), some (eI (v1)), some (eI (1)), some (eI (v12)), none, none, none]) (s2 := [eI (v15)]) rfl (b_isub (by rw [← e16]; exact ev_w_in (by omega) (by omega))) rfl ?_
        refine w_t (np := 67) (l2 := [some (eR a0), some (eI (a1)), some (eI (a2)), some (eI (v1)), some (eI (1)), some (eI (v12)), some (eI (v15)), none, none]) (s2 := []) rfl rfl rfl ?_
        have hL67 : ∀ (n18 : Nat) (i20 : Int) (i22 : Int) (i24 : Int) (o26 : Option eV) (o27 : Option eV), (-10 ≤ i20 ∧ i20 ≤ 2) → (-2147483648 ≤ i22 ∧ i22 ≤ 2147483647) → (-61 ≤ i24 ∧ i24 ≤ 9) → n18 = (i24 - (-61)).toNat → ex_q (dt_fg L ρ) rc (d + 1, (34, 67, [some (eR a0), some (eI (a1)), some (eI (a2)), some (eI (v1)), some (eI (i20)), some (eI (i22)), some (eI (i24)), o26, o27], []), f :: F, μ) := by
          intro n18
          induction n18 using Nat.strongRecOn with
          | _ n18 ih19 =>
          intro i20 i22 i24 o26 o27 b21 b23 b25 hn28
          refine w_t (np := 69) (l2 := [some (eR a0), some (eI (a1)), some (eI (a2)), some (eI (v1)), some (eI (i20)), some (eI (i22)), some (eI (i24)), o26, o27]) (s2 := [eI (i24)]) rfl rfl rfl ?_
          refine b_ilt (t1 := 141) (t2 := 72) rfl rfl rfl (ev_w_in (by omega) (by omega)) (fun g29 => ?_) (fun g29 => ?_)
          · have b30 : -61 ≤ i24 ∧ i24 ≤ -1 := by omega
            refine w_t (np := 143) (l2 := [some (eR a0), some (eI (a1)), some (eI (a2)), some (eI (v1)), some (eI (i20)), some (eI (i22)), some (eI (i24)), o26, o27]) (s2 := [eI (i22)]) rfl rfl rfl ?_
            exact b_ri rfl rfl (K (i22) (by omega))
          · have b30 : 0 ≤ i24 ∧ i24 ≤ 9 := by omega
            refine w_t (np := 73) (l2 := [some (eR a0), some (eI (a1)), some (eI (a2)), some (eI (v1)), some (eI (i20)), some (eI (i22)), some (eI (i24)), o26, o27]) (s2 := [eI (a1)]) rfl rfl rfl ?_
            refine w_t (np := 75) (l2 := [some (eR a0), some (eI (a1)), some (eI (a2)), some (eI (v1)), some (eI (i20)), some (eI (i22)), some (eI (i24)), o26, o27]) (s2 := [eI (i24), eI (a1)]) rfl rfl rfl ?_
            refine w_cu (np := 78) (as := [eI (a1), eI (i24)]) (l2 := [some (eI (a1)), some (eI (i24)), none, none]) (rest := []) rfl rfl rfl (Nat.ble_eq.mp rfl) rfl rfl rfl rfl ?_
            refine s_35 (a0 := a1) (a1 := i24) hI (by omega) (by omega) ?_
            intro v30 b31
            show ex_q (dt_fg L ρ) rc (d + 1, (34, 78, [some (eR a0), some (eI (a1)), some (eI (a2)), some (eI (v1)), some (eI (i20)), some (eI (i22)), some (eI (i24)), o26, o27], [eI (v30)]), f :: F, μ)
            refine w_t (np := 79) (l2 := [some (eR a0), some (eI (a1)), some (eI (a2)), some (eI (v1)), some (eI (i20)), some (eI (i22)), some (eI (i24)), o26, o27]) (s2 := [eI (3), eI (v30)]) rfl rfl rfl ?_
            obtain ⟨v32, e33, b34⟩ := h_irem (a := v30) (k := 3) (by decide) (by decide) b31
            have b35 : -2 ≤ v32 ∧ v32 ≤ 2 := by omega
            refine w_t (np := 80) (l2 := [some (eR a0), some (eI (a1)), some (eI (a2)), some (eI (v1)), some (eI (i20)), some (eI (i22)), some (eI (i24)), o26, o27]) (s2 := [eI (v32)]) rfl (e33 _ _) rfl ?_
            refine w_t (np := 82) (l2 := [some (eR a0), some (eI (a1)), some (eI (a2)), some (eI (v1)), some (eI (i20)), some (eI (i22)), some (eI (i24)), some (eI (v32)), o27]) (s2 := []) rfl rfl rfl ?_
            refine w_t (np := 84) (l2 := [some (eR a0), some (eI (a1)), some (eI (a2)), some (eI (v1)), some (eI (i20)), some (eI (i22)), some (eI (i24)), some (eI (v32)), o27]) (s2 := [eI (v32)]) rfl rfl rfl ?_
            refine w_t (np := 86) (l2 := [some (eR a0), some (eI (a1)), some (eI (a2)), some (eI (v1)), some (eI (i20)), some (eI (i22)), some (eI (i24)), some (eI (v32)), o27]) (s2 := [eI (i20), eI (v32)]) rfl rfl rfl ?_
            refine w_t (np := 87) (l2 := [some (eR a0), some (eI (a1)), some (eI (a2)), some (eI (v1)), some (eI (i20)), some (eI (i22)), some (eI (i24)), some (eI (v32)), o27]) (s2 := [eI (1), eI (i20), eI (v32)]) rfl rfl rfl ?_
            obtain ⟨v36, e37⟩ : ∃ zz : Int, zz = (i20) + (1) := ⟨_, rfl⟩
            have b38 : -9 ≤ v36 ∧ v36 ≤ 3 := by omega
            refine w_t (np := 88) (l2 := [some (eR a0), some (eI (a1)), some (eI (a2)), some (eI (v1)), some (eI (i20)), some (eI (i22)), some (eI (i24)), some (eI (v32)), o27]) (s2 := [eI (v36), eI (v32)]) rfl (b_iadd (by rw [← e37]; exact ev_w_in (by omega) (by omega))) rfl ?_
            refine b_cle (t1 := 93) (t2 := 91) rfl rfl rfl (ev_w_in (by omega) (by omega)) (ev_w_in (by omega) (by omega)) (fun g39 => ?_) (fun g39 => ?_)
            · have b40 : -2 ≤ v36 ∧ v36 ≤ 3 := by omega
              refine w_t (np := 94) (l2 := [some (eR a0), some (eI (a1)), some (eI (a2)), some (eI (v1)), some (eI (i20)), some (eI (i22)), some (eI (i24)), some (eI (v32)), o27]) (s2 := [eI (0)]) rfl rfl rfl ?_
              refine w_t (np := 96) (l2 := [some (eR a0), some (eI (a1)), some (eI (a2)), some (eI (v1)), some (eI (i20)), some (eI (i22)), some (eI (i24)), some (eI (v32)), some (eI (0))]) (s2 := []) rfl rfl rfl ?_
              have hL96 : ∀ (n40 : Nat) (i42 : Int) (i44 : Int), (-2147483648 ≤ i42 ∧ i42 ≤ 2147483647) → (0 ≤ i44 ∧ i44 ≤ 2) → n40 = (2 - i44).toNat → ex_q (dt_fg L ρ) rc (d + 1, (34, 96, [some (eR a0), some (eI (a1)), some (eI (a2)), some (eI (v1)), some (eI (i20)), some (eI (i42)), some (eI (i24)), some (eI (v32)), some (eI (i44))], []), f :: F, μ) := by
                intro n40
                induction n40 using Nat.strongRecOn with
                | _ n40 ih41 =>
                intro i42 i44 b43 b45 hn46
                refine w_t (np := 98) (l2 := [some (eR a0), some (eI (a1)), some (eI (a2)), some (eI (v1)), some (eI (i20)), some (eI (i42)), some (eI (i24)), some (eI (v32)), some (eI (i44))]) (s2 := [eI (i44)]) rfl rfl rfl ?_
                refine w_t (np := 100) (l2 := [some (eR a0), some (eI (a1)), some (eI (a2)), some (eI (v1)), some (eI (i20)), some (eI (i42)), some (eI (i24)), some (eI (v32)), some (eI (i44))]) (s2 := [eI (v32), eI (i44)]) rfl rfl rfl ?_
                refine b_cge (t1 := 126) (t2 := 103) rfl rfl rfl (ev_w_in (by omega) (by omega)) (ev_w_in (by omega) (by omega)) (fun g47 => ?_) (fun g47 => ?_)
                · refine w_t (np := 128) (l2 := [some (eR a0), some (eI (a1)), some (eI (a2)), some (eI (v1)), some (eI (i20)), some (eI (i42)), some (eI (i24)), some (eI (v32)), some (eI (i44))]) (s2 := [eI (i20)]) rfl rfl rfl ?_
                  refine w_t (np := 130) (l2 := [some (eR a0), some (eI (a1)), some (eI (a2)), some (eI (v1)), some (eI (i20)), some (eI (i42)), some (eI (i24)), some (eI (v32)), some (eI (i44))]) (s2 := [eI (v32), eI (i20)]) rfl rfl rfl ?_
                  refine w_cu (np := 133) (as := [eI (i20), eI (v32)]) (l2 := [some (eI (i20)), some (eI (v32))]) (rest := []) rfl rfl rfl (Nat.ble_eq.mp rfl) rfl rfl rfl rfl ?_
                  refine w_t (np := 1) (l2 := [some (eI (i20)), some (eI (v32))]) (s2 := [eI (i20)]) rfl rfl rfl ?_
                  refine b_ine (t1 := 8) (t2 := 4) rfl rfl rfl (ev_w_in (by omega) (by omega)) (fun g48 => ?_) (fun g48 => ?_)
                  · refine w_t (np := 9) (l2 := [some (eI (i20)), some (eI (v32))]) (s2 := [eI (v32)]) rfl rfl rfl ?_
                    refine w_t (np := 10) (l2 := [some (eI (i20)), some (eI (v32))]) (s2 := [eI (2), eI (v32)]) rfl rfl rfl ?_
                    refine b_cne (t1 := 17) (t2 := 13) rfl rfl rfl (ev_w_in (by omega) (by omega)) rfl (fun g49 => ?_) (fun g49 => ?_)
                    · have b50 : -2 ≤ v32 ∧ v32 ≤ 1 := by omega
                      refine w_t (np := 18) (l2 := [some (eI (i20)), some (eI (v32))]) (s2 := [eI (1)]) rfl rfl rfl ?_
                      refine b_ri rfl rfl ?_
                      show ex_q (dt_fg L ρ) rc (d + 1, (34, 133, [some (eR a0), some (eI (a1)), some (eI (a2)), some (eI (v1)), some (eI (i20)), some (eI (i42)), some (eI (i24)), some (eI (v32)), some (eI (i44))], [eI (1)]), f :: F, μ)
                      refine w_t (np := 135) (l2 := [some (eR a0), some (eI (a1)), some (eI (a2)), some (eI (v1)), some (eI (1)), some (eI (i42)), some (eI (i24)), some (eI (v32)), some (eI (i44))]) (s2 := []) rfl rfl rfl ?_
                      obtain ⟨v50, e51⟩ : ∃ zz : Int, zz = (i24) + (-1) := ⟨_, rfl⟩
                      have b52 : -1 ≤ v50 ∧ v50 ≤ 8 := by omega
                      refine w_t (np := 138) (l2 := [some (eR a0), some (eI (a1)), some (eI (a2)), some (eI (v1)), some (eI (1)), some (eI (i42)), some (eI (v50)), some (eI (v32)), some (eI (i44))]) (s2 := []) rfl (b_iinc rfl (by rw [← e51]; exact ev_w_in (by omega) (by omega)) rfl) rfl ?_
                      refine w_go (t1 := 67) rfl rfl ?_
                      exact ih19 ((v50) - (-61)).toNat (by omega) (1) (i42) (v50) (some (eI (v32))) (some (eI (i44))) (by decide) (by omega) (by omega)     rfl
                    · have b50 : 2 ≤ v32 ∧ v32 ≤ 2 := by omega
                      refine w_t (np := 14) (l2 := [some (eI (i20)), some (eI (v32))]) (s2 := [eI (0)]) rfl rfl rfl ?_
                      refine w_go (t1 := 18) rfl rfl ?_
                      refine b_ri rfl rfl ?_
                      show ex_q (dt_fg L ρ) rc (d + 1, (34, 133, [some (eR a0), some (eI (a1)), some (eI (a2)), some (eI (v1)), some (eI (i20)), some (eI (i42)), some (eI (i24)), some (eI (v32)), some (eI (i44))], [eI (0)]), f :: F, μ)
                      refine w_t (np := 135) (l2 := [some (eR a0), some (eI (a1)), some (eI (a2)), some (eI (v1)), some (eI (0)), some (eI (i42)), some (eI (i24)), some (eI (v32)), some (eI (i44))]) (s2 := []) rfl rfl rfl ?_
                      obtain ⟨v50, e51⟩ : ∃ zz : Int, zz = (i24) + (-1) := ⟨_, rfl⟩
                      have b52 : -1 ≤ v50 ∧ v50 ≤ 8 := by omega
                      refine w_t (np := 138) (l2 := [some (eR a0), some (eI (a1)), some (eI (a2)), some (eI (v1)), some (eI (0)), some (eI (i42)), some (eI (v50)), some (eI (v32)), some (eI (i44))]) (s2 := []) rfl (b_iinc rfl (by rw [← e51]; exact ev_w_in (by omega) (by omega)) rfl) rfl ?_
                      refine w_go (t1 := 67) rfl rfl ?_
                      exact ih19 ((v50) - (-61)).toNat (by omega) (0) (i42) (v50) (some (eI (v32))) (some (eI (i44))) (by decide) (by omega) (by omega)     rfl
                  · have b49 : 0 ≤ i20 ∧ i20 ≤ 0 := by omega
                    refine w_t (np := 5) (l2 := [some (eI (i20)), some (eI (v32))]) (s2 := [eI (v32)]) rfl rfl rfl ?_
                    refine w_go (t1 := 18) rfl rfl ?_
                    refine b_ri rfl rfl ?_
                    show ex_q (dt_fg L ρ) rc (d + 1, (34, 133, [some (eR a0), some (eI (a1)), some (eI (a2)), some (eI (v1)), some (eI (i20)), some (eI (i42)), some (eI (i24)), some (eI (v32)), some (eI (i44))], [eI (v32)]), f :: F, μ)
                    refine w_t (np := 135) (l2 := [some (eR a0), some (eI (a1)), some (eI (a2)), some (eI (v1)), some (eI (v32)), some (eI (i42)), some (eI (i24)), some (eI (v32)), some (eI (i44))]) (s2 := []) rfl rfl rfl ?_
                    obtain ⟨v49, e50⟩ : ∃ zz : Int, zz = (i24) + (-1) := ⟨_, rfl⟩
                    have b51 : -1 ≤ v49 ∧ v49 ≤ 8 := by omega
                    refine w_t (np := 138) (l2 := [some (eR a0), some (eI (a1)), some (eI (a2)), some (eI (v1)), some (eI (v32)), some (eI (i42)), some (eI (v49)), some (eI (v32)), some (eI (i44))]) (s2 := []) rfl (b_iinc rfl (by rw [← e50]; exact ev_w_in (by omega) (by omega)) rfl) rfl ?_
                    refine w_go (t1 := 67) rfl rfl ?_
                    exact ih19 ((v49) - (-61)).toNat (by omega) (v32) (i42) (v49) (some (eI (v32))) (some (eI (i44))) (by omega) (by omega) (by omega)     rfl
                · have b48 : 0 ≤ i44 ∧ i44 ≤ 1 := by omega
                  have b49 : 1 ≤ v32 ∧ v32 ≤ 2 := by omega
                  refine w_t (np := 105) (l2 := [some (eR a0), some (eI (a1)), some (eI (a2)), some (eI (v1)), some (eI (i20)), some (eI (i42)), some (eI (i24)), some (eI (v32)), some (eI (i44))]) (s2 := [eI (i42)]) rfl rfl rfl ?_
                  refine w_t (np := 107) (l2 := [some (eR a0), some (eI (a1)), some (eI (a2)), some (eI (v1)), some (eI (i20)), some (eI (i42)), some (eI (i24)), some (eI (v32)), some (eI (i44))]) (s2 := [eI (i20), eI (i42)]) rfl rfl rfl ?_
                  refine w_t (np := 109) (l2 := [some (eR a0), some (eI (a1)), some (eI (a2)), some (eI (v1)), some (eI (i20)), some (eI (i42)), some (eI (i24)), some (eI (v32)), some (eI (i44))]) (s2 := [eI (i44), eI (i20), eI (i42)]) rfl rfl rfl ?_
                  refine w_cu (np := 112) (as := [eI (i20), eI (i44)]) (l2 := [some (eI (i20)), some (eI (i44))]) (rest := [eI (i42)]) rfl rfl rfl (Nat.ble_eq.mp rfl) rfl rfl rfl rfl ?_
                  refine w_t (np := 1) (l2 := [some (eI (i20)), some (eI (i44))]) (s2 := [eI (i20)]) rfl rfl rfl ?_
                  refine b_ine (t1 := 8) (t2 := 4) rfl rfl rfl (ev_w_in (by omega) (by omega)) (fun g48 => ?_) (fun g48 => ?_)
                  · refine w_t (np := 9) (l2 := [some (eI (i20)), some (eI (i44))]) (s2 := [eI (i44)]) rfl rfl rfl ?_
                    refine w_t (np := 10) (l2 := [some (eI (i20)), some (eI (i44))]) (s2 := [eI (2), eI (i44)]) rfl rfl rfl ?_
                    refine b_cne (t1 := 17) (t2 := 13) rfl rfl rfl (ev_w_in (by omega) (by omega)) rfl (fun g49 => ?_) (fun g49 => False.elim (by omega))
                    refine w_t (np := 18) (l2 := [some (eI (i20)), some (eI (i44))]) (s2 := [eI (1)]) rfl rfl rfl ?_
                    refine b_ri rfl rfl ?_
                    show ex_q (dt_fg L ρ) rc (d + 1, (34, 112, [some (eR a0), some (eI (a1)), some (eI (a2)), some (eI (v1)), some (eI (i20)), some (eI (i42)), some (eI (i24)), some (eI (v32)), some (eI (i44))], [eI (1), eI (i42)]), f :: F, μ)
                    refine w_t (np := 114) (l2 := [some (eR a0), some (eI (a1)), some (eI (a2)), some (eI (v1)), some (eI (i20)), some (eI (i42)), some (eI (i24)), some (eI (v32)), some (eI (i44))]) (s2 := [eI (i24), eI (1), eI (i42)]) rfl rfl rfl ?_
                    refine w_cu (np := 117) (as := [eI (1), eI (i24)]) (l2 := [some (eI (1)), some (eI (i24))]) (rest := [eI (i42)]) rfl rfl rfl (Nat.ble_eq.mp rfl) rfl rfl rfl rfl ?_
                    refine s_37 (a0 := 1) (a1 := i24) hI (by decide) (by omega) ?_
                    intro v50 b51
                    show ex_q (dt_fg L ρ) rc (d + 1, (34, 117, [some (eR a0), some (eI (a1)), some (eI (a2)), some (eI (v1)), some (eI (i20)), some (eI (i42)), some (eI (i24)), some (eI (v32)), some (eI (i44))], [eI (v50), eI (i42)]), f :: F, μ)
                    obtain ⟨v52, e53, b54⟩ : ∃ zz : Int, ev_w ((i42) + (v50)) = zz ∧ (-2147483648 ≤ zz ∧ zz ≤ 2147483647) := ⟨_, rfl, hw_bd _⟩
                    refine w_t (np := 118) (l2 := [some (eR a0), some (eI (a1)), some (eI (a2)), some (eI (v1)), some (eI (i20)), some (eI (i42)), some (eI (i24)), some (eI (v32)), some (eI (i44))]) (s2 := [eI (v52)]) rfl (b_iadd e53) rfl ?_
                    refine w_t (np := 120) (l2 := [some (eR a0), some (eI (a1)), some (eI (a2)), some (eI (v1)), some (eI (i20)), some (eI (v52)), some (eI (i24)), some (eI (v32)), some (eI (i44))]) (s2 := []) rfl rfl rfl ?_
                    obtain ⟨v55, e56⟩ : ∃ zz : Int, zz = (i44) + (1) := ⟨_, rfl⟩
                    have b57 : 1 ≤ v55 ∧ v55 ≤ 2 := by omega
                    refine w_t (np := 123) (l2 := [some (eR a0), some (eI (a1)), some (eI (a2)), some (eI (v1)), some (eI (i20)), some (eI (v52)), some (eI (i24)), some (eI (v32)), some (eI (v55))]) (s2 := []) rfl (b_iinc rfl (by rw [← e56]; exact ev_w_in (by omega) (by omega)) rfl) rfl ?_
                    refine w_go (t1 := 96) rfl rfl ?_
                    exact ih41 (2 - (v55)).toNat (by omega) (v52) (v55) (by omega) (by omega)     rfl
                  · have b49 : 0 ≤ i20 ∧ i20 ≤ 0 := by omega
                    refine w_t (np := 5) (l2 := [some (eI (i20)), some (eI (i44))]) (s2 := [eI (i44)]) rfl rfl rfl ?_
                    refine w_go (t1 := 18) rfl rfl ?_
                    refine b_ri rfl rfl ?_
                    show ex_q (dt_fg L ρ) rc (d + 1, (34, 112, [some (eR a0), some (eI (a1)), some (eI (a2)), some (eI (v1)), some (eI (i20)), some (eI (i42)), some (eI (i24)), some (eI (v32)), some (eI (i44))], [eI (i44), eI (i42)]), f :: F, μ)
                    refine w_t (np := 114) (l2 := [some (eR a0), some (eI (a1)), some (eI (a2)), some (eI (v1)), some (eI (i20)), some (eI (i42)), some (eI (i24)), some (eI (v32)), some (eI (i44))]) (s2 := [eI (i24), eI (i44), eI (i42)]) rfl rfl rfl ?_
                    refine w_cu (np := 117) (as := [eI (i44), eI (i24)]) (l2 := [some (eI (i44)), some (eI (i24))]) (rest := [eI (i42)]) rfl rfl rfl (Nat.ble_eq.mp rfl) rfl rfl rfl rfl ?_
                    refine s_37 (a0 := i44) (a1 := i24) hI (by omega) (by omega) ?_
                    intro v49 b50
                    show ex_q (dt_fg L ρ) rc (d + 1, (34, 117, [some (eR a0), some (eI (a1)), some (eI (a2)), some (eI (v1)), some (eI (i20)), some (eI (i42)), some (eI (i24)), some (eI (v32)), some (eI (i44))], [eI (v49), eI (i42)]), f :: F, μ)
                    obtain ⟨v51, e52, b53⟩ : ∃ zz : Int, ev_w ((i42) + (v49)) = zz ∧ (-2147483648 ≤ zz ∧ zz ≤ 2147483647) := ⟨_, rfl, hw_bd _⟩
                    refine w_t (np := 118) (l2 := [some (eR a0), some (eI (a1)), some (eI (a2)), some (eI (v1)), some (eI (i20)), some (eI (i42)), some (eI (i24)), some (eI (v32)), some (eI (i44))]) (s2 := [eI (v51)]) rfl (b_iadd e52) rfl ?_
                    refine w_t (np := 120) (l2 := [some (eR a0), some (eI (a1)), some (eI (a2)), some (eI (v1)), some (eI (i20)), some (eI (v51)), some (eI (i24)), some (eI (v32)), some (eI (i44))]) (s2 := []) rfl rfl rfl ?_
                    obtain ⟨v54, e55⟩ : ∃ zz : Int, zz = (i44) + (1) := ⟨_, rfl⟩
                    have b56 : 1 ≤ v54 ∧ v54 ≤ 2 := by omega
                    refine w_t (np := 123) (l2 := [some (eR a0), some (eI (a1)), some (eI (a2)), some (eI (v1)), some (eI (i20)), some (eI (v51)), some (eI (i24)), some (eI (v32)), some (eI (v54))]) (s2 := []) rfl (b_iinc rfl (by rw [← e55]; exact ev_w_in (by omega) (by omega)) rfl) rfl ?_
                    refine w_go (t1 := 96) rfl rfl ?_
                    exact ih41 (2 - (v54)).toNat (by omega) (v51) (v54) (by omega) (by omega)     rfl
              exact hL96 _ (i22) (0) (by omega) (by decide)     rfl
            · have b40 : -9 ≤ v36 ∧ v36 ≤ 1 := by omega
              refine w_t (np := 92) (l2 := [some (eR a0), some (eI (a1)), some (eI (a2)), some (eI (v1)), some (eI (i20)), some (eI (i22)), some (eI (i24)), some (eI (v32)), o27]) (s2 := [eI (-1)]) rfl rfl rfl ?_
              exact b_ri rfl rfl (K (-1) (by decide))
        exact hL67 _ (1) (v12) (v15) (none) (none) (by decide) (by omega) (by omega)     rfl
      · have b10 : 2 ≤ v1 ∧ v1 ≤ 2147483647 := by omega
        refine w_t (np := 51) (l2 := [some (eR a0), some (eI (a1)), some (eI (a2)), some (eI (v1)), some (eI (1)), none, none, none, none]) (s2 := [eI (-1)]) rfl rfl rfl ?_
        exact b_ri rfl rfl (K (-1) (by decide))
  · have b7 : 0 ≤ v3 ∧ v3 ≤ 1 := by omega
    refine w_t (np := 15) (l2 := [some (eR a0), some (eI (a1)), some (eI (a2)), some (eI (v1)), none, none, none, none, none]) (s2 := [eI (0)]) rfl rfl rfl ?_
    refine w_go (t1 := 19) rfl rfl ?_
    refine w_t (np := 21) (l2 := [some (eR a0), some (eI (a1)), some (eI (a2)), some (eI (v1)), some (eI (0)), none, none, none, none]) (s2 := []) rfl rfl rfl ?_
    refine w_t (np := 22) (l2 := [some (eR a0), some (eI (a1)), some (eI (a2)), some (eI (v1)), some (eI (0)), none, none, none, none]) (s2 := [eI (v1)]) rfl rfl rfl ?_
    refine w_t (np := 23) (l2 := [some (eR a0), some (eI (a1)), some (eI (a2)), some (eI (v1)), some (eI (0)), none, none, none, none]) (s2 := [eR a0, eI (v1)]) rfl (s_an rfl (pos_g hI gA0 (by decide))) rfl ?_
    refine w_gf (np := 26) (v := eI (v3)) rfl rfl (hI.kd gA0 (by decide) (n := 8) rfl) (by rw [e4]; rfl) ?_
    refine b_ine (t1 := 34) (t2 := 29) rfl rfl rfl (ev_w_in (by omega) (by omega)) (fun g7 => ?_) (fun g7 => ?_)
    · have b8 : 1 ≤ v3 ∧ v3 ≤ 1 := by omega
      refine w_t (np := 35) (l2 := [some (eR a0), some (eI (a1)), some (eI (a2)), some (eI (v1)), some (eI (0)), none, none, none, none]) (s2 := [eR a0, eI (v1)]) rfl (s_an rfl (pos_g hI gA0 (by decide))) rfl ?_
      refine w_gf (np := 38) (v := eI (v3)) rfl rfl (hI.kd gA0 (by decide) (n := 8) rfl) (by rw [e4]; rfl) ?_
      refine w_t (np := 39) (l2 := [some (eR a0), some (eI (a1)), some (eI (a2)), some (eI (v1)), some (eI (0)), none, none, none, none]) (s2 := [eI (3), eI (v3), eI (v1)]) rfl rfl rfl ?_
      refine b_cne (t1 := 46) (t2 := 42) rfl rfl rfl (ev_w_in (by omega) (by omega)) rfl (fun g8 => ?_) (fun g8 => False.elim (by omega))
      refine w_t (np := 47) (l2 := [some (eR a0), some (eI (a1)), some (eI (a2)), some (eI (v1)), some (eI (0)), none, none, none, none]) (s2 := [eI (1), eI (v1)]) rfl rfl rfl ?_
      refine b_clt (t1 := 52) (t2 := 50) rfl rfl rfl (ev_w_in (by omega) (by omega)) rfl (fun g9 => ?_) (fun g9 => ?_)
      · have b10 : -2147483648 ≤ v1 ∧ v1 ≤ 0 := by omega
        refine w_t (np := 53) (l2 := [some (eR a0), some (eI (a1)), some (eI (a2)), some (eI (v1)), some (eI (0)), none, none, none, none]) (s2 := [eI (v1)]) rfl rfl rfl ?_
        refine w_t (np := 55) (l2 := [some (eR a0), some (eI (a1)), some (eI (a2)), some (eI (v1)), some (eI (0)), none, none, none, none]) (s2 := [eI (0), eI (v1)]) rfl rfl rfl ?_
        refine w_t (np := 56) (l2 := [some (eR a0), some (eI (a1)), some (eI (a2)), some (eI (v1)), some (eI (0)), none, none, none, none]) (s2 := [eI (a2), eI (0), eI (v1)]) rfl rfl rfl ?_
        refine w_cu (np := 59) (as := [eI (0), eI (a2)]) (l2 := [some (eI (0)), some (eI (a2))]) (rest := [eI (v1)]) rfl rfl rfl (Nat.ble_eq.mp rfl) rfl rfl rfl rfl ?_
        refine s_37 (a0 := 0) (a1 := a2) hI (by decide) (by omega) ?_
        intro v10 b11
        show ex_q (dt_fg L ρ) rc (d + 1, (34, 59, [some (eR a0), some (eI (a1)), some (eI (a2)), some (eI (v1)), some (eI (0)), none, none, none, none], [eI (v10), eI (v1)]), f :: F, μ)
        obtain ⟨v12, e13, b14⟩ : ∃ zz : Int, ev_w ((v1) * (v10)) = zz ∧ (-2147483648 ≤ zz ∧ zz ≤ 2147483647) := ⟨_, rfl, hw_bd _⟩
        refine w_t (np := 60) (l2 := [some (eR a0), some (eI (a1)), some (eI (a2)), some (eI (v1)), some (eI (0)), none, none, none, none]) (s2 := [eI (v12)]) rfl (b_imul e13) rfl ?_
        refine w_t (np := 62) (l2 := [some (eR a0), some (eI (a1)), some (eI (a2)), some (eI (v1)), some (eI (0)), some (eI (v12)), none, none, none]) (s2 := []) rfl rfl rfl ?_
        refine w_t (np := 63) (l2 := [some (eR a0), some (eI (a1)), some (eI (a2)), some (eI (v1)), some (eI (0)), some (eI (v12)), none, none, none]) (s2 := [eI (a2)]) rfl rfl rfl ?_
        refine w_t (np := 64) (l2 := [some (eR a0), some (eI (a1)), some (eI (a2)), some (eI (v1)), some (eI (0)), some (eI (v12)), none, none, none]) (s2 := [eI (1), eI (a2)]) rfl rfl rfl ?_
        obtain ⟨v15, e16⟩ : ∃ zz : Int, zz = (a2) - (1) := ⟨_, rfl⟩
        have b17 : -61 ≤ v15 ∧ v15 ≤ 9 := by omega
        refine w_t (np := 65) (l2 := [some (eR a0), some (eI (a1)), some (eI (a2)), some (eI (v1)), some (eI (0)), some (eI (v12)), none, none, none]) (s2 := [eI (v15)]) rfl (b_isub (by rw [← e16]; exact ev_w_in (by omega) (by omega))) rfl ?_
        refine w_t (np := 67) (l2 := [some (eR a0), some (eI (a1)), some (eI (a2)), some (eI (v1)), some (eI (0)), some (eI (v12)), some (eI (v15)), none, none]) (s2 := []) rfl rfl rfl ?_
        have hL67 : ∀ (n18 : Nat) (i20 : Int) (i22 : Int) (i24 : Int) (o26 : Option eV) (o27 : Option eV), (-10 ≤ i20 ∧ i20 ≤ 2) → (-2147483648 ≤ i22 ∧ i22 ≤ 2147483647) → (-61 ≤ i24 ∧ i24 ≤ 9) → n18 = (i24 - (-61)).toNat → ex_q (dt_fg L ρ) rc (d + 1, (34, 67, [some (eR a0), some (eI (a1)), some (eI (a2)), some (eI (v1)), some (eI (i20)), some (eI (i22)), some (eI (i24)), o26, o27], []), f :: F, μ) := by
          intro n18
          induction n18 using Nat.strongRecOn with
          | _ n18 ih19 =>
          intro i20 i22 i24 o26 o27 b21 b23 b25 hn28
          refine w_t (np := 69) (l2 := [some (eR a0), some (eI (a1)), some (eI (a2)), some (eI (v1)), some (eI (i20)), some (eI (i22)), some (eI (i24)), o26, o27]) (s2 := [eI (i24)]) rfl rfl rfl ?_
          refine b_ilt (t1 := 141) (t2 := 72) rfl rfl rfl (ev_w_in (by omega) (by omega)) (fun g29 => ?_) (fun g29 => ?_)
          · have b30 : -61 ≤ i24 ∧ i24 ≤ -1 := by omega
            refine w_t (np := 143) (l2 := [some (eR a0), some (eI (a1)), some (eI (a2)), some (eI (v1)), some (eI (i20)), some (eI (i22)), some (eI (i24)), o26, o27]) (s2 := [eI (i22)]) rfl rfl rfl ?_
            exact b_ri rfl rfl (K (i22) (by omega))
          · have b30 : 0 ≤ i24 ∧ i24 ≤ 9 := by omega
            refine w_t (np := 73) (l2 := [some (eR a0), some (eI (a1)), some (eI (a2)), some (eI (v1)), some (eI (i20)), some (eI (i22)), some (eI (i24)), o26, o27]) (s2 := [eI (a1)]) rfl rfl rfl ?_
            refine w_t (np := 75) (l2 := [some (eR a0), some (eI (a1)), some (eI (a2)), some (eI (v1)), some (eI (i20)), some (eI (i22)), some (eI (i24)), o26, o27]) (s2 := [eI (i24), eI (a1)]) rfl rfl rfl ?_
            refine w_cu (np := 78) (as := [eI (a1), eI (i24)]) (l2 := [some (eI (a1)), some (eI (i24)), none, none]) (rest := []) rfl rfl rfl (Nat.ble_eq.mp rfl) rfl rfl rfl rfl ?_
            refine s_35 (a0 := a1) (a1 := i24) hI (by omega) (by omega) ?_
            intro v30 b31
            show ex_q (dt_fg L ρ) rc (d + 1, (34, 78, [some (eR a0), some (eI (a1)), some (eI (a2)), some (eI (v1)), some (eI (i20)), some (eI (i22)), some (eI (i24)), o26, o27], [eI (v30)]), f :: F, μ)
            refine w_t (np := 79) (l2 := [some (eR a0), some (eI (a1)), some (eI (a2)), some (eI (v1)), some (eI (i20)), some (eI (i22)), some (eI (i24)), o26, o27]) (s2 := [eI (3), eI (v30)]) rfl rfl rfl ?_
            obtain ⟨v32, e33, b34⟩ := h_irem (a := v30) (k := 3) (by decide) (by decide) b31
            have b35 : -2 ≤ v32 ∧ v32 ≤ 2 := by omega
            refine w_t (np := 80) (l2 := [some (eR a0), some (eI (a1)), some (eI (a2)), some (eI (v1)), some (eI (i20)), some (eI (i22)), some (eI (i24)), o26, o27]) (s2 := [eI (v32)]) rfl (e33 _ _) rfl ?_
            refine w_t (np := 82) (l2 := [some (eR a0), some (eI (a1)), some (eI (a2)), some (eI (v1)), some (eI (i20)), some (eI (i22)), some (eI (i24)), some (eI (v32)), o27]) (s2 := []) rfl rfl rfl ?_
            refine w_t (np := 84) (l2 := [some (eR a0), some (eI (a1)), some (eI (a2)), some (eI (v1)), some (eI (i20)), some (eI (i22)), some (eI (i24)), some (eI (v32)), o27]) (s2 := [eI (v32)]) rfl rfl rfl ?_
            refine w_t (np := 86) (l2 := [some (eR a0), some (eI (a1)), some (eI (a2)), some (eI (v1)), some (eI (i20)), some (eI (i22)), some (eI (i24)), some (eI (v32)), o27]) (s2 := [eI (i20), eI (v32)]) rfl rfl rfl ?_
            refine w_t (np := 87) (l2 := [some (eR a0), some (eI (a1)), some (eI (a2)), some (eI (v1)), some (eI (i20)), some (eI (i22)), some (eI (i24)), some (eI (v32)), o27]) (s2 := [eI (1), eI (i20), eI (v32)]) rfl rfl rfl ?_
            obtain ⟨v36, e37⟩ : ∃ zz : Int, zz = (i20) + (1) := ⟨_, rfl⟩
            have b38 : -9 ≤ v36 ∧ v36 ≤ 3 := by omega
            refine w_t (np := 88) (l2 := [some (eR a0), some (eI (a1)), some (eI (a2)), some (eI (v1)), some (eI (i20)), some (eI (i22)), some (eI (i24)), some (eI (v32)), o27]) (s2 := [eI (v36), eI (v32)]) rfl (b_iadd (by rw [← e37]; exact ev_w_in (by omega) (by omega))) rfl ?_
            refine b_cle (t1 := 93) (t2 := 91) rfl rfl rfl (ev_w_in (by omega) (by omega)) (ev_w_in (by omega) (by omega)) (fun g39 => ?_) (fun g39 => ?_)
            · have b40 : -2 ≤ v36 ∧ v36 ≤ 3 := by omega
              refine w_t (np := 94) (l2 := [some (eR a0), some (eI (a1)), some (eI (a2)), some (eI (v1)), some (eI (i20)), some (eI (i22)), some (eI (i24)), some (eI (v32)), o27]) (s2 := [eI (0)]) rfl rfl rfl ?_
              refine w_t (np := 96) (l2 := [some (eR a0), some (eI (a1)), some (eI (a2)), some (eI (v1)), some (eI (i20)), some (eI (i22)), some (eI (i24)), some (eI (v32)), some (eI (0))]) (s2 := []) rfl rfl rfl ?_
              have hL96 : ∀ (n40 : Nat) (i42 : Int) (i44 : Int), (-2147483648 ≤ i42 ∧ i42 ≤ 2147483647) → (0 ≤ i44 ∧ i44 ≤ 2) → n40 = (2 - i44).toNat → ex_q (dt_fg L ρ) rc (d + 1, (34, 96, [some (eR a0), some (eI (a1)), some (eI (a2)), some (eI (v1)), some (eI (i20)), some (eI (i42)), some (eI (i24)), some (eI (v32)), some (eI (i44))], []), f :: F, μ) := by
                intro n40
                induction n40 using Nat.strongRecOn with
                | _ n40 ih41 =>
                intro i42 i44 b43 b45 hn46
                refine w_t (np := 98) (l2 := [some (eR a0), some (eI (a1)), some (eI (a2)), some (eI (v1)), some (eI (i20)), some (eI (i42)), some (eI (i24)), some (eI (v32)), some (eI (i44))]) (s2 := [eI (i44)]) rfl rfl rfl ?_
                refine w_t (np := 100) (l2 := [some (eR a0), some (eI (a1)), some (eI (a2)), some (eI (v1)), some (eI (i20)), some (eI (i42)), some (eI (i24)), some (eI (v32)), some (eI (i44))]) (s2 := [eI (v32), eI (i44)]) rfl rfl rfl ?_
                refine b_cge (t1 := 126) (t2 := 103) rfl rfl rfl (ev_w_in (by omega) (by omega)) (ev_w_in (by omega) (by omega)) (fun g47 => ?_) (fun g47 => ?_)
                · refine w_t (np := 128) (l2 := [some (eR a0), some (eI (a1)), some (eI (a2)), some (eI (v1)), some (eI (i20)), some (eI (i42)), some (eI (i24)), some (eI (v32)), some (eI (i44))]) (s2 := [eI (i20)]) rfl rfl rfl ?_
                  refine w_t (np := 130) (l2 := [some (eR a0), some (eI (a1)), some (eI (a2)), some (eI (v1)), some (eI (i20)), some (eI (i42)), some (eI (i24)), some (eI (v32)), some (eI (i44))]) (s2 := [eI (v32), eI (i20)]) rfl rfl rfl ?_
                  refine w_cu (np := 133) (as := [eI (i20), eI (v32)]) (l2 := [some (eI (i20)), some (eI (v32))]) (rest := []) rfl rfl rfl (Nat.ble_eq.mp rfl) rfl rfl rfl rfl ?_
                  refine w_t (np := 1) (l2 := [some (eI (i20)), some (eI (v32))]) (s2 := [eI (i20)]) rfl rfl rfl ?_
                  refine b_ine (t1 := 8) (t2 := 4) rfl rfl rfl (ev_w_in (by omega) (by omega)) (fun g48 => ?_) (fun g48 => ?_)
                  · refine w_t (np := 9) (l2 := [some (eI (i20)), some (eI (v32))]) (s2 := [eI (v32)]) rfl rfl rfl ?_
                    refine w_t (np := 10) (l2 := [some (eI (i20)), some (eI (v32))]) (s2 := [eI (2), eI (v32)]) rfl rfl rfl ?_
                    refine b_cne (t1 := 17) (t2 := 13) rfl rfl rfl (ev_w_in (by omega) (by omega)) rfl (fun g49 => ?_) (fun g49 => ?_)
                    · have b50 : -2 ≤ v32 ∧ v32 ≤ 1 := by omega
                      refine w_t (np := 18) (l2 := [some (eI (i20)), some (eI (v32))]) (s2 := [eI (1)]) rfl rfl rfl ?_
                      refine b_ri rfl rfl ?_
                      show ex_q (dt_fg L ρ) rc (d + 1, (34, 133, [some (eR a0), some (eI (a1)), some (eI (a2)), some (eI (v1)), some (eI (i20)), some (eI (i42)), some (eI (i24)), some (eI (v32)), some (eI (i44))], [eI (1)]), f :: F, μ)
                      refine w_t (np := 135) (l2 := [some (eR a0), some (eI (a1)), some (eI (a2)), some (eI (v1)), some (eI (1)), some (eI (i42)), some (eI (i24)), some (eI (v32)), some (eI (i44))]) (s2 := []) rfl rfl rfl ?_
                      obtain ⟨v50, e51⟩ : ∃ zz : Int, zz = (i24) + (-1) := ⟨_, rfl⟩
                      have b52 : -1 ≤ v50 ∧ v50 ≤ 8 := by omega
                      refine w_t (np := 138) (l2 := [some (eR a0), some (eI (a1)), some (eI (a2)), some (eI (v1)), some (eI (1)), some (eI (i42)), some (eI (v50)), some (eI (v32)), some (eI (i44))]) (s2 := []) rfl (b_iinc rfl (by rw [← e51]; exact ev_w_in (by omega) (by omega)) rfl) rfl ?_
                      refine w_go (t1 := 67) rfl rfl ?_
                      exact ih19 ((v50) - (-61)).toNat (by omega) (1) (i42) (v50) (some (eI (v32))) (some (eI (i44))) (by decide) (by omega) (by omega)     rfl
                    · have b50 : 2 ≤ v32 ∧ v32 ≤ 2 := by omega
                      refine w_t (np := 14) (l2 := [some (eI (i20)), some (eI (v32))]) (s2 := [eI (0)]) rfl rfl rfl ?_
                      refine w_go (t1 := 18) rfl rfl ?_
                      refine b_ri rfl rfl ?_
                      show ex_q (dt_fg L ρ) rc (d + 1, (34, 133, [some (eR a0), some (eI (a1)), some (eI (a2)), some (eI (v1)), some (eI (i20)), some (eI (i42)), some (eI (i24)), some (eI (v32)), some (eI (i44))], [eI (0)]), f :: F, μ)
                      refine w_t (np := 135) (l2 := [some (eR a0), some (eI (a1)), some (eI (a2)), some (eI (v1)), some (eI (0)), some (eI (i42)), some (eI (i24)), some (eI (v32)), some (eI (i44))]) (s2 := []) rfl rfl rfl ?_
                      obtain ⟨v50, e51⟩ : ∃ zz : Int, zz = (i24) + (-1) := ⟨_, rfl⟩
                      have b52 : -1 ≤ v50 ∧ v50 ≤ 8 := by omega
                      refine w_t (np := 138) (l2 := [some (eR a0), some (eI (a1)), some (eI (a2)), some (eI (v1)), some (eI (0)), some (eI (i42)), some (eI (v50)), some (eI (v32)), some (eI (i44))]) (s2 := []) rfl (b_iinc rfl (by rw [← e51]; exact ev_w_in (by omega) (by omega)) rfl) rfl ?_
                      refine w_go (t1 := 67) rfl rfl ?_
                      exact ih19 ((v50) - (-61)).toNat (by omega) (0) (i42) (v50) (some (eI (v32))) (some (eI (i44))) (by decide) (by omega) (by omega)     rfl
                  · have b49 : 0 ≤ i20 ∧ i20 ≤ 0 := by omega
                    refine w_t (np := 5) (l2 := [some (eI (i20)), some (eI (v32))]) (s2 := [eI (v32)]) rfl rfl rfl ?_
                    refine w_go (t1 := 18) rfl rfl ?_
                    refine b_ri rfl rfl ?_
                    show ex_q (dt_fg L ρ) rc (d + 1, (34, 133, [some (eR a0), some (eI (a1)), some (eI (a2)), some (eI (v1)), some (eI (i20)), some (eI (i42)), some (eI (i24)), some (eI (v32)), some (eI (i44))], [eI (v32)]), f :: F, μ)
                    refine w_t (np := 135) (l2 := [some (eR a0), some (eI (a1)), some (eI (a2)), some (eI (v1)), some (eI (v32)), some (eI (i42)), some (eI (i24)), some (eI (v32)), some (eI (i44))]) (s2 := []) rfl rfl rfl ?_
                    obtain ⟨v49, e50⟩ : ∃ zz : Int, zz = (i24) + (-1) := ⟨_, rfl⟩
                    have b51 : -1 ≤ v49 ∧ v49 ≤ 8 := by omega
                    refine w_t (np := 138) (l2 := [some (eR a0), some (eI (a1)), some (eI (a2)), some (eI (v1)), some (eI (v32)), some (eI (i42)), some (eI (v49)), some (eI (v32)), some (eI (i44))]) (s2 := []) rfl (b_iinc rfl (by rw [← e50]; exact ev_w_in (by omega) (by omega)) rfl) rfl ?_
                    refine w_go (t1 := 67) rfl rfl ?_
                    exact ih19 ((v49) - (-61)).toNat (by omega) (v32) (i42) (v49) (some (eI (v32))) (some (eI (i44))) (by omega) (by omega) (by omega)     rfl
                · have b48 : 0 ≤ i44 ∧ i44 ≤ 1 := by omega
                  have b49 : 1 ≤ v32 ∧ v32 ≤ 2 := by omega
                  refine w_t (np := 105) (l2 := [some (eR a0), some (eI (a1)), some (eI (a2)), some (eI (v1)), some (eI (i20)), some (eI (i42)), some (eI (i24)), some (eI (v32)), some (eI (i44))]) (s2 := [eI (i42)]) rfl rfl rfl ?_
                  refine w_t (np := 107) (l2 := [some (eR a0), some (eI (a1)), some (eI (a2)), some (eI (v1)), some (eI (i20)), some (eI (i42)), some (eI (i24)), some (eI (v32)), some (eI (i44))]) (s2 := [eI (i20), eI (i42)]) rfl rfl rfl ?_
                  refine w_t (np := 109) (l2 := [some (eR a0), some (eI (a1)), some (eI (a2)), some (eI (v1)), some (eI (i20)), some (eI (i42)), some (eI (i24)), some (eI (v32)), some (eI (i44))]) (s2 := [eI (i44), eI (i20), eI (i42)]) rfl rfl rfl ?_
                  refine w_cu (np := 112) (as := [eI (i20), eI (i44)]) (l2 := [some (eI (i20)), some (eI (i44))]) (rest := [eI (i42)]) rfl rfl rfl (Nat.ble_eq.mp rfl) rfl rfl rfl rfl ?_
                  refine w_t (np := 1) (l2 := [some (eI (i20)), some (eI (i44))]) (s2 := [eI (i20)]) rfl rfl rfl ?_
                  refine b_ine (t1 := 8) (t2 := 4) rfl rfl rfl (ev_w_in (by omega) (by omega)) (fun g48 => ?_) (fun g48 => ?_)
                  · refine w_t (np := 9) (l2 := [some (eI (i20)), some (eI (i44))]) (s2 := [eI (i44)]) rfl rfl rfl ?_
                    refine w_t (np := 10) (l2 := [some (eI (i20)), some (eI (i44))]) (s2 := [eI (2), eI (i44)]) rfl rfl rfl ?_
                    refine b_cne (t1 := 17) (t2 := 13) rfl rfl rfl (ev_w_in (by omega) (by omega)) rfl (fun g49 => ?_) (fun g49 => False.elim (by omega))
                    refine w_t (np := 18) (l2 := [some (eI (i20)), some (eI (i44))]) (s2 := [eI (1)]) rfl rfl rfl ?_
                    refine b_ri rfl rfl ?_
                    show ex_q (dt_fg L ρ) rc (d + 1, (34, 112, [some (eR a0), some (eI (a1)), some (eI (a2)), some (eI (v1)), some (eI (i20)), some (eI (i42)), some (eI (i24)), some (eI (v32)), some (eI (i44))], [eI (1), eI (i42)]), f :: F, μ)
                    refine w_t (np := 114) (l2 := [some (eR a0), some (eI (a1)), some (eI (a2)), some (eI (v1)), some (eI (i20)), some (eI (i42)), some (eI (i24)), some (eI (v32)), some (eI (i44))]) (s2 := [eI (i24), eI (1), eI (i42)]) rfl rfl rfl ?_
                    refine w_cu (np := 117) (as := [eI (1), eI (i24)]) (l2 := [some (eI (1)), some (eI (i24))]) (rest := [eI (i42)]) rfl rfl rfl (Nat.ble_eq.mp rfl) rfl rfl rfl rfl ?_
                    refine s_37 (a0 := 1) (a1 := i24) hI (by decide) (by omega) ?_
                    intro v50 b51
                    show ex_q (dt_fg L ρ) rc (d + 1, (34, 117, [some (eR a0), some (eI (a1)), some (eI (a2)), some (eI (v1)), some (eI (i20)), some (eI (i42)), some (eI (i24)), some (eI (v32)), some (eI (i44))], [eI (v50), eI (i42)]), f :: F, μ)
                    obtain ⟨v52, e53, b54⟩ : ∃ zz : Int, ev_w ((i42) + (v50)) = zz ∧ (-2147483648 ≤ zz ∧ zz ≤ 2147483647) := ⟨_, rfl, hw_bd _⟩
                    refine w_t (np := 118) (l2 := [some (eR a0), some (eI (a1)), some (eI (a2)), some (eI (v1)), some (eI (i20)), some (eI (i42)), some (eI (i24)), some (eI (v32)), some (eI (i44))]) (s2 := [eI (v52)]) rfl (b_iadd e53) rfl ?_
                    refine w_t (np := 120) (l2 := [some (eR a0), some (eI (a1)), some (eI (a2)), some (eI (v1)), some (eI (i20)), some (eI (v52)), some (eI (i24)), some (eI (v32)), some (eI (i44))]) (s2 := []) rfl rfl rfl ?_
                    obtain ⟨v55, e56⟩ : ∃ zz : Int, zz = (i44) + (1) := ⟨_, rfl⟩
                    have b57 : 1 ≤ v55 ∧ v55 ≤ 2 := by omega
                    refine w_t (np := 123) (l2 := [some (eR a0), some (eI (a1)), some (eI (a2)), some (eI (v1)), some (eI (i20)), some (eI (v52)), some (eI (i24)), some (eI (v32)), some (eI (v55))]) (s2 := []) rfl (b_iinc rfl (by rw [← e56]; exact ev_w_in (by omega) (by omega)) rfl) rfl ?_
                    refine w_go (t1 := 96) rfl rfl ?_
                    exact ih41 (2 - (v55)).toNat (by omega) (v52) (v55) (by omega) (by omega)     rfl
                  · have b49 : 0 ≤ i20 ∧ i20 ≤ 0 := by omega
                    refine w_t (np := 5) (l2 := [some (eI (i20)), some (eI (i44))]) (s2 := [eI (i44)]) rfl rfl rfl ?_
                    refine w_go (t1 := 18) rfl rfl ?_
                    refine b_ri rfl rfl ?_
                    show ex_q (dt_fg L ρ) rc (d + 1, (34, 112, [some (eR a0), some (eI (a1)), some (eI (a2)), some (eI (v1)), some (eI (i20)), some (eI (i42)), some (eI (i24)), some (eI (v32)), some (eI (i44))], [eI (i44), eI (i42)]), f :: F, μ)
                    refine w_t (np := 114) (l2 := [some (eR a0), some (eI (a1)), some (eI (a2)), some (eI (v1)), some (eI (i20)), some (eI (i42)), some (eI (i24)), some (eI (v32)), some (eI (i44))]) (s2 := [eI (i24), eI (i44), eI (i42)]) rfl rfl rfl ?_
                    refine w_cu (np := 117) (as := [eI (i44), eI (i24)]) (l2 := [some (eI (i44)), some (eI (i24))]) (rest := [eI (i42)]) rfl rfl rfl (Nat.ble_eq.mp rfl) rfl rfl rfl rfl ?_
                    refine s_37 (a0 := i44) (a1 := i24) hI (by omega) (by omega) ?_
                    intro v49 b50
                    show ex_q (dt_fg L ρ) rc (d + 1, (34, 117, [some (eR a0), some (eI (a1)), some (eI (a2)), some (eI (v1)), some (eI (i20)), some (eI (i42)), some (eI (i24)), some (eI (v32)), some (eI (i44))], [eI (v49), eI (i42)]), f :: F, μ)
                    obtain ⟨v51, e52, b53⟩ : ∃ zz : Int, ev_w ((i42) + (v49)) = zz ∧ (-2147483648 ≤ zz ∧ zz ≤ 2147483647) := ⟨_, rfl, hw_bd _⟩
                    refine w_t (np := 118) (l2 := [some (eR a0), some (eI (a1)), some (eI (a2)), some (eI (v1)), some (eI (i20)), some (eI (i42)), some (eI (i24)), some (eI (v32)), some (eI (i44))]) (s2 := [eI (v51)]) rfl (b_iadd e52) rfl ?_
                    refine w_t (np := 120) (l2 := [some (eR a0), some (eI (a1)), some (eI (a2)), some (eI (v1)), some (eI (i20)), some (eI (v51)), some (eI (i24)), some (eI (v32)), some (eI (i44))]) (s2 := []) rfl rfl rfl ?_
                    obtain ⟨v54, e55⟩ : ∃ zz : Int, zz = (i44) + (1) := ⟨_, rfl⟩
                    have b56 : 1 ≤ v54 ∧ v54 ≤ 2 := by omega
                    refine w_t (np := 123) (l2 := [some (eR a0), some (eI (a1)), some (eI (a2)), some (eI (v1)), some (eI (i20)), some (eI (v51)), some (eI (i24)), some (eI (v32)), some (eI (v54))]) (s2 := []) rfl (b_iinc rfl (by rw [← e55]; exact ev_w_in (by omega) (by omega)) rfl) rfl ?_
                    refine w_go (t1 := 96) rfl rfl ?_
                    exact ih41 (2 - (v54)).toNat (by omega) (v51) (v54) (by omega) (by omega)     rfl
              exact hL96 _ (i22) (0) (by omega) (by decide)     rfl
            · have b40 : -9 ≤ v36 ∧ v36 ≤ 1 := by omega
              refine w_t (np := 92) (l2 := [some (eR a0), some (eI (a1)), some (eI (a2)), some (eI (v1)), some (eI (i20)), some (eI (i22)), some (eI (i24)), some (eI (v32)), o27]) (s2 := [eI (-1)]) rfl rfl rfl ?_
              exact b_ri rfl rfl (K (-1) (by decide))
        exact hL67 _ (0) (v12) (v15) (none) (none) (by decide) (by omega) (by omega)     rfl
      · have b10 : 1 ≤ v1 ∧ v1 ≤ 2147483647 := by omega
        refine w_t (np := 51) (l2 := [some (eR a0), some (eI (a1)), some (eI (a2)), some (eI (v1)), some (eI (0)), none, none, none, none]) (s2 := [eI (-1)]) rfl rfl rfl ?_
        exact b_ri rfl rfl (K (-1) (by decide))
    · have b8 : 0 ≤ v3 ∧ v3 ≤ 0 := by omega
      refine w_t (np := 31) (l2 := [some (eR a0), some (eI (a1)), some (eI (a2)), some (eI (v1)), some (eI (0)), none, none, none, none]) (s2 := [eI (10), eI (v1)]) rfl rfl rfl ?_
      refine w_go (t1 := 47) rfl rfl ?_
      refine b_clt (t1 := 52) (t2 := 50) rfl rfl rfl (ev_w_in (by omega) (by omega)) rfl (fun g8 => ?_) (fun g8 => ?_)
      · have b9 : -2147483648 ≤ v1 ∧ v1 ≤ 9 := by omega
        refine w_t (np := 53) (l2 := [some (eR a0), some (eI (a1)), some (eI (a2)), some (eI (v1)), some (eI (0)), none, none, none, none]) (s2 := [eI (v1)]) rfl rfl rfl ?_
        refine w_t (np := 55) (l2 := [some (eR a0), some (eI (a1)), some (eI (a2)), some (eI (v1)), some (eI (0)), none, none, none, none]) (s2 := [eI (0), eI (v1)]) rfl rfl rfl ?_
        refine w_t (np := 56) (l2 := [some (eR a0), some (eI (a1)), some (eI (a2)), some (eI (v1)), some (eI (0)), none, none, none, none]) (s2 := [eI (a2), eI (0), eI (v1)]) rfl rfl rfl ?_
        refine w_cu (np := 59) (as := [eI (0), eI (a2)]) (l2 := [some (eI (0)), some (eI (a2))]) (rest := [eI (v1)]) rfl rfl rfl (Nat.ble_eq.mp rfl) rfl rfl rfl rfl ?_
        refine s_37 (a0 := 0) (a1 := a2) hI (by decide) (by omega) ?_
        intro v9 b10
        show ex_q (dt_fg L ρ) rc (d + 1, (34, 59, [some (eR a0), some (eI (a1)), some (eI (a2)), some (eI (v1)), some (eI (0)), none, none, none, none], [eI (v9), eI (v1)]), f :: F, μ)
        obtain ⟨v11, e12, b13⟩ : ∃ zz : Int, ev_w ((v1) * (v9)) = zz ∧ (-2147483648 ≤ zz ∧ zz ≤ 2147483647) := ⟨_, rfl, hw_bd _⟩
        refine w_t (np := 60) (l2 := [some (eR a0), some (eI (a1)), some (eI (a2)), some (eI (v1)), some (eI (0)), none, none, none, none]) (s2 := [eI (v11)]) rfl (b_imul e12) rfl ?_
        refine w_t (np := 62) (l2 := [some (eR a0), some (eI (a1)), some (eI (a2)), some (eI (v1)), some (eI (0)), some (eI (v11)), none, none, none]) (s2 := []) rfl rfl rfl ?_
        refine w_t (np := 63) (l2 := [some (eR a0), some (eI (a1)), some (eI (a2)), some (eI (v1)), some (eI (0)), some (eI (v11)), none, none, none]) (s2 := [eI (a2)]) rfl rfl rfl ?_
        refine w_t (np := 64) (l2 := [some (eR a0), some (eI (a1)), some (eI (a2)), some (eI (v1)), some (eI (0)), some (eI (v11)), none, none, none]) (s2 := [eI (1), eI (a2)]) rfl rfl rfl ?_
        obtain ⟨v14, e15⟩ : ∃ zz : Int, zz = (a2) - (1) := ⟨_, rfl⟩
        have b16 : -61 ≤ v14 ∧ v14 ≤ 9 := by omega
        refine w_t (np := 65) (l2 := [some (eR a0), some (eI (a1)), some (eI (a2)), some (eI (v1)), some (eI (0)), some (eI (v11)), none, none, none]) (s2 := [eI (v14)]) rfl (b_isub (by rw [← e15]; exact ev_w_in (by omega) (by omega))) rfl ?_
        refine w_t (np := 67) (l2 := [some (eR a0), some (eI (a1)), some (eI (a2)), some (eI (v1)), some (eI (0)), some (eI (v11)), some (eI (v14)), none, none]) (s2 := []) rfl rfl rfl ?_
        have hL67 : ∀ (n17 : Nat) (i19 : Int) (i21 : Int) (i23 : Int) (o25 : Option eV) (o26 : Option eV), (-10 ≤ i19 ∧ i19 ≤ 2) → (-2147483648 ≤ i21 ∧ i21 ≤ 2147483647) → (-61 ≤ i23 ∧ i23 ≤ 9) → n17 = (i23 - (-61)).toNat → ex_q (dt_fg L ρ) rc (d + 1, (34, 67, [some (eR a0), some (eI (a1)), some (eI (a2)), some (eI (v1)), some (eI (i19)), some (eI (i21)), some (eI (i23)), o25, o26], []), f :: F, μ) := by
          intro n17
          induction n17 using Nat.strongRecOn with
          | _ n17 ih18 =>
          intro i19 i21 i23 o25 o26 b20 b22 b24 hn27
          refine w_t (np := 69) (l2 := [some (eR a0), some (eI (a1)), some (eI (a2)), some (eI (v1)), some (eI (i19)), some (eI (i21)), some (eI (i23)), o25, o26]) (s2 := [eI (i23)]) rfl rfl rfl ?_
          refine b_ilt (t1 := 141) (t2 := 72) rfl rfl rfl (ev_w_in (by omega) (by omega)) (fun g28 => ?_) (fun g28 => ?_)
          · have b29 : -61 ≤ i23 ∧ i23 ≤ -1 := by omega
            refine w_t (np := 143) (l2 := [some (eR a0), some (eI (a1)), some (eI (a2)), some (eI (v1)), some (eI (i19)), some (eI (i21)), some (eI (i23)), o25, o26]) (s2 := [eI (i21)]) rfl rfl rfl ?_
            exact b_ri rfl rfl (K (i21) (by omega))
          · have b29 : 0 ≤ i23 ∧ i23 ≤ 9 := by omega
            refine w_t (np := 73) (l2 := [some (eR a0), some (eI (a1)), some (eI (a2)), some (eI (v1)), some (eI (i19)), some (eI (i21)), some (eI (i23)), o25, o26]) (s2 := [eI (a1)]) rfl rfl rfl ?_
            refine w_t (np := 75) (l2 := [some (eR a0), some (eI (a1)), some (eI (a2)), some (eI (v1)), some (eI (i19)), some (eI (i21)), some (eI (i23)), o25, o26]) (s2 := [eI (i23), eI (a1)]) rfl rfl rfl ?_
            refine w_cu (np := 78) (as := [eI (a1), eI (i23)]) (l2 := [some (eI (a1)), some (eI (i23)), none, none]) (rest := []) rfl rfl rfl (Nat.ble_eq.mp rfl) rfl rfl rfl rfl ?_
            refine s_35 (a0 := a1) (a1 := i23) hI (by omega) (by omega) ?_
            intro v29 b30
            show ex_q (dt_fg L ρ) rc (d + 1, (34, 78, [some (eR a0), some (eI (a1)), some (eI (a2)), some (eI (v1)), some (eI (i19)), some (eI (i21)), some (eI (i23)), o25, o26], [eI (v29)]), f :: F, μ)
            refine w_t (np := 79) (l2 := [some (eR a0), some (eI (a1)), some (eI (a2)), some (eI (v1)), some (eI (i19)), some (eI (i21)), some (eI (i23)), o25, o26]) (s2 := [eI (3), eI (v29)]) rfl rfl rfl ?_
            obtain ⟨v31, e32, b33⟩ := h_irem (a := v29) (k := 3) (by decide) (by decide) b30
            have b34 : -2 ≤ v31 ∧ v31 ≤ 2 := by omega
            refine w_t (np := 80) (l2 := [some (eR a0), some (eI (a1)), some (eI (a2)), some (eI (v1)), some (eI (i19)), some (eI (i21)), some (eI (i23)), o25, o26]) (s2 := [eI (v31)]) rfl (e32 _ _) rfl ?_
            refine w_t (np := 82) (l2 := [some (eR a0), some (eI (a1)), some (eI (a2)), some (eI (v1)), some (eI (i19)), some (eI (i21)), some (eI (i23)), some (eI (v31)), o26]) (s2 := []) rfl rfl rfl ?_
            refine w_t (np := 84) (l2 := [some (eR a0), some (eI (a1)), some (eI (a2)), some (eI (v1)), some (eI (i19)), some (eI (i21)), some (eI (i23)), some (eI (v31)), o26]) (s2 := [eI (v31)]) rfl rfl rfl ?_
            refine w_t (np := 86) (l2 := [some (eR a0), some (eI (a1)), some (eI (a2)), some (eI (v1)), some (eI (i19)), some (eI (i21)), some (eI (i23)), some (eI (v31)), o26]) (s2 := [eI (i19), eI (v31)]) rfl rfl rfl ?_
            refine w_t (np := 87) (l2 := [some (eR a0), some (eI (a1)), some (eI (a2)), some (eI (v1)), some (eI (i19)), some (eI (i21)), some (eI (i23)), some (eI (v31)), o26]) (s2 := [eI (1), eI (i19), eI (v31)]) rfl rfl rfl ?_
            obtain ⟨v35, e36⟩ : ∃ zz : Int, zz = (i19) + (1) := ⟨_, rfl⟩
            have b37 : -9 ≤ v35 ∧ v35 ≤ 3 := by omega
            refine w_t (np := 88) (l2 := [some (eR a0), some (eI (a1)), some (eI (a2)), some (eI (v1)), some (eI (i19)), some (eI (i21)), some (eI (i23)), some (eI (v31)), o26]) (s2 := [eI (v35), eI (v31)]) rfl (b_iadd (by rw [← e36]; exact ev_w_in (by omega) (by omega))) rfl ?_
            refine b_cle (t1 := 93) (t2 := 91) rfl rfl rfl (ev_w_in (by omega) (by omega)) (ev_w_in (by omega) (by omega)) (fun g38 => ?_) (fun g38 => ?_)
            · have b39 : -2 ≤ v35 ∧ v35 ≤ 3 := by omega
              refine w_t (np := 94) (l2 := [some (eR a0), some (eI (a1)), some (eI (a2)), some (eI (v1)), some (eI (i19)), some (eI (i21)), some (eI (i23)), some (eI (v31)), o26]) (s2 := [eI (0)]) rfl rfl rfl ?_
              refine w_t (np := 96) (l2 := [some (eR a0), some (eI (a1)), some (eI (a2)), some (eI (v1)), some (eI (i19)), some (eI (i21)), some (eI (i23)), some (eI (v31)), some (eI (0))]) (s2 := []) rfl rfl rfl ?_
              have hL96 : ∀ (n39 : Nat) (i41 : Int) (i43 : Int), (-2147483648 ≤ i41 ∧ i41 ≤ 2147483647) → (0 ≤ i43 ∧ i43 ≤ 2) → n39 = (2 - i43).toNat → ex_q (dt_fg L ρ) rc (d + 1, (34, 96, [some (eR a0), some (eI (a1)), some (eI (a2)), some (eI (v1)), some (eI (i19)), some (eI (i41)), some (eI (i23)), some (eI (v31)), some (eI (i43))], []), f :: F, μ) := by
                intro n39
                induction n39 using Nat.strongRecOn with
                | _ n39 ih40 =>
                intro i41 i43 b42 b44 hn45
                refine w_t (np := 98) (l2 := [some (eR a0), some (eI (a1)), some (eI (a2)), some (eI (v1)), some (eI (i19)), some (eI (i41)), some (eI (i23)), some (eI (v31)), some (eI (i43))]) (s2 := [eI (i43)]) rfl rfl rfl ?_
                refine w_t (np := 100) (l2 := [some (eR a0), some (eI (a1)), some (eI (a2)), some (eI (v1)), some (eI (i19)), some (eI (i41)), some (eI (i23)), some (eI (v31)), some (eI (i43))]) (s2 := [eI (v31), eI (i43)]) rfl rfl rfl ?_
                refine b_cge (t1 := 126) (t2 := 103) rfl rfl rfl (ev_w_in (by omega) (by omega)) (ev_w_in (by omega) (by omega)) (fun g46 => ?_) (fun g46 => ?_)
                · refine w_t (np := 128) (l2 := [some (eR a0), some (eI (a1)), some (eI (a2)), some (eI (v1)), some (eI (i19)), some (eI (i41)), some (eI (i23)), some (eI (v31)), some (eI (i43))]) (s2 := [eI (i19)]) rfl rfl rfl ?_
                  refine w_t (np := 130) (l2 := [some (eR a0), some (eI (a1)), some (eI (a2)), some (eI (v1)), some (eI (i19)), some (eI (i41)), some (eI (i23)), some (eI (v31)), some (eI (i43))]) (s2 := [eI (v31), eI (i19)]) rfl rfl rfl ?_
                  refine w_cu (np := 133) (as := [eI (i19), eI (v31)]) (l2 := [some (eI (i19)), some (eI (v31))]) (rest := []) rfl rfl rfl (Nat.ble_eq.mp rfl) rfl rfl rfl rfl ?_
                  refine w_t (np := 1) (l2 := [some (eI (i19)), some (eI (v31))]) (s2 := [eI (i19)]) rfl rfl rfl ?_
                  refine b_ine (t1 := 8) (t2 := 4) rfl rfl rfl (ev_w_in (by omega) (by omega)) (fun g47 => ?_) (fun g47 => ?_)
                  · refine w_t (np := 9) (l2 := [some (eI (i19)), some (eI (v31))]) (s2 := [eI (v31)]) rfl rfl rfl ?_
                    refine w_t (np := 10) (l2 := [some (eI (i19)), some (eI (v31))]) (s2 := [eI (2), eI (v31)]) rfl rfl rfl ?_
                    refine b_cne (t1 := 17) (t2 := 13) rfl rfl rfl (ev_w_in (by omega) (by omega)) rfl (fun g48 => ?_) (fun g48 => ?_)
                    · have b49 : -2 ≤ v31 ∧ v31 ≤ 1 := by omega
                      refine w_t (np := 18) (l2 := [some (eI (i19)), some (eI (v31))]) (s2 := [eI (1)]) rfl rfl rfl ?_
                      refine b_ri rfl rfl ?_
                      show ex_q (dt_fg L ρ) rc (d + 1, (34, 133, [some (eR a0), some (eI (a1)), some (eI (a2)), some (eI (v1)), some (eI (i19)), some (eI (i41)), some (eI (i23)), some (eI (v31)), some (eI (i43))], [eI (1)]), f :: F, μ)
                      refine w_t (np := 135) (l2 := [some (eR a0), some (eI (a1)), some (eI (a2)), some (eI (v1)), some (eI (1)), some (eI (i41)), some (eI (i23)), some (eI (v31)), some (eI (i43))]) (s2 := []) rfl rfl rfl ?_
                      obtain ⟨v49, e50⟩ : ∃ zz : Int, zz = (i23) + (-1) := ⟨_, rfl⟩
                      have b51 : -1 ≤ v49 ∧ v49 ≤ 8 := by omega
                      refine w_t (np := 138) (l2 := [some (eR a0), some (eI (a1)), some (eI (a2)), some (eI (v1)), some (eI (1)), some (eI (i41)), some (eI (v49)), some (eI (v31)), some (eI (i43))]) (s2 := []) rfl (b_iinc rfl (by rw [← e50]; exact ev_w_in (by omega) (by omega)) rfl) rfl ?_
                      refine w_go (t1 := 67) rfl rfl ?_
                      exact ih18 ((v49) - (-61)).toNat (by omega) (1) (i41) (v49) (some (eI (v31))) (some (eI (i43))) (by decide) (by omega) (by omega)     rfl
                    · have b49 : 2 ≤ v31 ∧ v31 ≤ 2 := by omega
                      refine w_t (np := 14) (l2 := [some (eI (i19)), some (eI (v31))]) (s2 := [eI (0)]) rfl rfl rfl ?_
                      refine w_go (t1 := 18) rfl rfl ?_
                      refine b_ri rfl rfl ?_
                      show ex_q (dt_fg L ρ) rc (d + 1, (34, 133, [some (eR a0), some (eI (a1)), some (eI (a2)), some (eI (v1)), some (eI (i19)), some (eI (i41)), some (eI (i23)), some (eI (v31)), some (eI (i43))], [eI (0)]), f :: F, μ)
                      refine w_t (np := 135) (l2 := [some (eR a0), some (eI (a1)), some (eI (a2)), some (eI (v1)), some (eI (0)), some (eI (i41)), some (eI (i23)), some (eI (v31)), some (eI (i43))]) (s2 := []) rfl rfl rfl ?_
                      obtain ⟨v49, e50⟩ : ∃ zz : Int, zz = (i23) + (-1) := ⟨_, rfl⟩
                      have b51 : -1 ≤ v49 ∧ v49 ≤ 8 := by omega
                      refine w_t (np := 138) (l2 := [some (eR a0), some (eI (a1)), some (eI (a2)), some (eI (v1)), some (eI (0)), some (eI (i41)), some (eI (v49)), some (eI (v31)), some (eI (i43))]) (s2 := []) rfl (b_iinc rfl (by rw [← e50]; exact ev_w_in (by omega) (by omega)) rfl) rfl ?_
                      refine w_go (t1 := 67) rfl rfl ?_
                      exact ih18 ((v49) - (-61)).toNat (by omega) (0) (i41) (v49) (some (eI (v31))) (some (eI (i43))) (by decide) (by omega) (by omega)     rfl
                  · have b48 : 0 ≤ i19 ∧ i19 ≤ 0 := by omega
                    refine w_t (np := 5) (l2 := [some (eI (i19)), some (eI (v31))]) (s2 := [eI (v31)]) rfl rfl rfl ?_
                    refine w_go (t1 := 18) rfl rfl ?_
                    refine b_ri rfl rfl ?_
                    show ex_q (dt_fg L ρ) rc (d + 1, (34, 133, [some (eR a0), some (eI (a1)), some (eI (a2)), some (eI (v1)), some (eI (i19)), some (eI (i41)), some (eI (i23)), some (eI (v31)), some (eI (i43))], [eI (v31)]), f :: F, μ)
                    refine w_t (np := 135) (l2 := [some (eR a0), some (eI (a1)), some (eI (a2)), some (eI (v1)), some (eI (v31)), some (eI (i41)), some (eI (i23)), some (eI (v31)), some (eI (i43))]) (s2 := []) rfl rfl rfl ?_
                    obtain ⟨v48, e49⟩ : ∃ zz : Int, zz = (i23) + (-1) := ⟨_, rfl⟩
                    have b50 : -1 ≤ v48 ∧ v48 ≤ 8 := by omega
                    refine w_t (np := 138) (l2 := [some (eR a0), some (eI (a1)), some (eI (a2)), some (eI (v1)), some (eI (v31)), some (eI (i41)), some (eI (v48)), some (eI (v31)), some (eI (i43))]) (s2 := []) rfl (b_iinc rfl (by rw [← e49]; exact ev_w_in (by omega) (by omega)) rfl) rfl ?_
                    refine w_go (t1 := 67) rfl rfl ?_
                    exact ih18 ((v48) - (-61)).toNat (by omega) (v31) (i41) (v48) (some (eI (v31))) (some (eI (i43))) (by omega) (by omega) (by omega)     rfl
                · have b47 : 0 ≤ i43 ∧ i43 ≤ 1 := by omega
                  have b48 : 1 ≤ v31 ∧ v31 ≤ 2 := by omega
                  refine w_t (np := 105) (l2 := [some (eR a0), some (eI (a1)), some (eI (a2)), some (eI (v1)), some (eI (i19)), some (eI (i41)), some (eI (i23)), some (eI (v31)), some (eI (i43))]) (s2 := [eI (i41)]) rfl rfl rfl ?_
                  refine w_t (np := 107) (l2 := [some (eR a0), some (eI (a1)), some (eI (a2)), some (eI (v1)), some (eI (i19)), some (eI (i41)), some (eI (i23)), some (eI (v31)), some (eI (i43))]) (s2 := [eI (i19), eI (i41)]) rfl rfl rfl ?_
                  refine w_t (np := 109) (l2 := [some (eR a0), some (eI (a1)), some (eI (a2)), some (eI (v1)), some (eI (i19)), some (eI (i41)), some (eI (i23)), some (eI (v31)), some (eI (i43))]) (s2 := [eI (i43), eI (i19), eI (i41)]) rfl rfl rfl ?_
                  refine w_cu (np := 112) (as := [eI (i19), eI (i43)]) (l2 := [some (eI (i19)), some (eI (i43))]) (rest := [eI (i41)]) rfl rfl rfl (Nat.ble_eq.mp rfl) rfl rfl rfl rfl ?_
                  refine w_t (np := 1) (l2 := [some (eI (i19)), some (eI (i43))]) (s2 := [eI (i19)]) rfl rfl rfl ?_
                  refine b_ine (t1 := 8) (t2 := 4) rfl rfl rfl (ev_w_in (by omega) (by omega)) (fun g47 => ?_) (fun g47 => ?_)
                  · refine w_t (np := 9) (l2 := [some (eI (i19)), some (eI (i43))]) (s2 := [eI (i43)]) rfl rfl rfl ?_
                    refine w_t (np := 10) (l2 := [some (eI (i19)), some (eI (i43))]) (s2 := [eI (2), eI (i43)]) rfl rfl rfl ?_
                    refine b_cne (t1 := 17) (t2 := 13) rfl rfl rfl (ev_w_in (by omega) (by omega)) rfl (fun g48 => ?_) (fun g48 => False.elim (by omega))
                    refine w_t (np := 18) (l2 := [some (eI (i19)), some (eI (i43))]) (s2 := [eI (1)]) rfl rfl rfl ?_
                    refine b_ri rfl rfl ?_
                    show ex_q (dt_fg L ρ) rc (d + 1, (34, 112, [some (eR a0), some (eI (a1)), some (eI (a2)), some (eI (v1)), some (eI (i19)), some (eI (i41)), some (eI (i23)), some (eI (v31)), some (eI (i43))], [eI (1), eI (i41)]), f :: F, μ)
                    refine w_t (np := 114) (l2 := [some (eR a0), some (eI (a1)), some (eI (a2)), some (eI (v1)), some (eI (i19)), some (eI (i41)), some (eI (i23)), some (eI (v31)), some (eI (i43))]) (s2 := [eI (i23), eI (1), eI (i41)]) rfl rfl rfl ?_
                    refine w_cu (np := 117) (as := [eI (1), eI (i23)]) (l2 := [some (eI (1)), some (eI (i23))]) (rest := [eI (i41)]) rfl rfl rfl (Nat.ble_eq.mp rfl) rfl rfl rfl rfl ?_
                    refine s_37 (a0 := 1) (a1 := i23) hI (by decide) (by omega) ?_
                    intro v49 b50
                    show ex_q (dt_fg L ρ) rc (d + 1, (34, 117, [some (eR a0), some (eI (a1)), some (eI (a2)), some (eI (v1)), some (eI (i19)), some (eI (i41)), some (eI (i23)), some (eI (v31)), some (eI (i43))], [eI (v49), eI (i41)]), f :: F, μ)
                    obtain ⟨v51, e52, b53⟩ : ∃ zz : Int, ev_w ((i41) + (v49)) = zz ∧ (-2147483648 ≤ zz ∧ zz ≤ 2147483647) := ⟨_, rfl, hw_bd _⟩
                    refine w_t (np := 118) (l2 := [some (eR a0), some (eI (a1)), some (eI (a2)), some (eI (v1)), some (eI (i19)), some (eI (i41)), some (eI (i23)), some (eI (v31)), some (eI (i43))]) (s2 := [eI (v51)]) rfl (b_iadd e52) rfl ?_
                    refine w_t (np := 120) (l2 := [some (eR a0), some (eI (a1)), some (eI (a2)), some (eI (v1)), some (eI (i19)), some (eI (v51)), some (eI (i23)), some (eI (v31)), some (eI (i43))]) (s2 := []) rfl rfl rfl ?_
                    obtain ⟨v54, e55⟩ : ∃ zz : Int, zz = (i43) + (1) := ⟨_, rfl⟩
                    have b56 : 1 ≤ v54 ∧ v54 ≤ 2 := by omega
                    refine w_t (np := 123) (l2 := [some (eR a0), some (eI (a1)), some (eI (a2)), some (eI (v1)), some (eI (i19)), some (eI (v51)), some (eI (i23)), some (eI (v31)), some (eI (v54))]) (s2 := []) rfl (b_iinc rfl (by rw [← e55]; exact ev_w_in (by omega) (by omega)) rfl) rfl ?_
                    refine w_go (t1 := 96) rfl rfl ?_
                    exact ih40 (2 - (v54)).toNat (by omega) (v51) (v54) (by omega) (by omega)     rfl
                  · have b48 : 0 ≤ i19 ∧ i19 ≤ 0 := by omega
                    refine w_t (np := 5) (l2 := [some (eI (i19)), some (eI (i43))]) (s2 := [eI (i43)]) rfl rfl rfl ?_
                    refine w_go (t1 := 18) rfl rfl ?_
                    refine b_ri rfl rfl ?_
                    show ex_q (dt_fg L ρ) rc (d + 1, (34, 112, [some (eR a0), some (eI (a1)), some (eI (a2)), some (eI (v1)), some (eI (i19)), some (eI (i41)), some (eI (i23)), some (eI (v31)), some (eI (i43))], [eI (i43), eI (i41)]), f :: F, μ)
                    refine w_t (np := 114) (l2 := [some (eR a0), some (eI (a1)), some (eI (a2)), some (eI (v1)), some (eI (i19)), some (eI (i41)), some (eI (i23)), some (eI (v31)), some (eI (i43))]) (s2 := [eI (i23), eI (i43), eI (i41)]) rfl rfl rfl ?_
                    refine w_cu (np := 117) (as := [eI (i43), eI (i23)]) (l2 := [some (eI (i43)), some (eI (i23))]) (rest := [eI (i41)]) rfl rfl rfl (Nat.ble_eq.mp rfl) rfl rfl rfl rfl ?_
                    refine s_37 (a0 := i43) (a1 := i23) hI (by omega) (by omega) ?_
                    intro v48 b49
                    show ex_q (dt_fg L ρ) rc (d + 1, (34, 117, [some (eR a0), some (eI (a1)), some (eI (a2)), some (eI (v1)), some (eI (i19)), some (eI (i41)), some (eI (i23)), some (eI (v31)), some (eI (i43))], [eI (v48), eI (i41)]), f :: F, μ)
                    obtain ⟨v50, e51, b52⟩ : ∃ zz : Int, ev_w ((i41) + (v48)) = zz ∧ (-2147483648 ≤ zz ∧ zz ≤ 2147483647) := ⟨_, rfl, hw_bd _⟩
                    refine w_t (np := 118) (l2 := [some (eR a0), some (eI (a1)), some (eI (a2)), some (eI (v1)), some (eI (i19)), some (eI (i41)), some (eI (i23)), some (eI (v31)), some (eI (i43))]) (s2 := [eI (v50)]) rfl (b_iadd e51) rfl ?_
                    refine w_t (np := 120) (l2 := [some (eR a0), some (eI (a1)), some (eI (a2)), some (eI (v1)), some (eI (i19)), some (eI (v50)), some (eI (i23)), some (eI (v31)), some (eI (i43))]) (s2 := []) rfl rfl rfl ?_
                    obtain ⟨v53, e54⟩ : ∃ zz : Int, zz = (i43) + (1) := ⟨_, rfl⟩
                    have b55 : 1 ≤ v53 ∧ v53 ≤ 2 := by omega
                    refine w_t (np := 123) (l2 := [some (eR a0), some (eI (a1)), some (eI (a2)), some (eI (v1)), some (eI (i19)), some (eI (v50)), some (eI (i23)), some (eI (v31)), some (eI (v53))]) (s2 := []) rfl (b_iinc rfl (by rw [← e54]; exact ev_w_in (by omega) (by omega)) rfl) rfl ?_
                    refine w_go (t1 := 96) rfl rfl ?_
                    exact ih40 (2 - (v53)).toNat (by omega) (v50) (v53) (by omega) (by omega)     rfl
              exact hL96 _ (i21) (0) (by omega) (by decide)     rfl
            · have b39 : -9 ≤ v35 ∧ v35 ≤ 1 := by omega
              refine w_t (np := 92) (l2 := [some (eR a0), some (eI (a1)), some (eI (a2)), some (eI (v1)), some (eI (i19)), some (eI (i21)), some (eI (i23)), some (eI (v31)), o26]) (s2 := [eI (-1)]) rfl rfl rfl ?_
              exact b_ri rfl rfl (K (-1) (by decide))
        exact hL67 _ (0) (v11) (v14) (none) (none) (by decide) (by omega) (by omega)     rfl
      · have b9 : 10 ≤ v1 ∧ v1 ≤ 2147483647 := by omega
        refine w_t (np := 51) (l2 := [some (eR a0), some (eI (a1)), some (eI (a2)), some (eI (v1)), some (eI (0)), none, none, none, none]) (s2 := [eI (-1)]) rfl rfl rfl ?_
        exact b_ri rfl rfl (K (-1) (by decide))
theorem s_34_2 {L : Nat} {ρ : Nat → Int} {rc : eQ} {d : Nat} {f : eFr} {F : List eFr} {μ : eM} {g : Nat → Nat} {a0 : Nat} {a1 : Int} {a2 : Int} (hI : SI g μ) (gA0 : g a0 = 7) (bA1 : -2147483648 ≤ a1 ∧ a1 ≤ 2147483647) (bA2 : -60 ≤ a2 ∧ a2 ≤ 10) (K : ∀ (v : Int), (-2147483648 ≤ v ∧ v ≤ 2147483647) → ex_q (dt_fg L ρ) rc (d + 2, (f.1, f.2.1, f.2.2.1, eI v :: f.2.2.2), F, μ)) : ex_q (dt_fg L ρ) rc (d + 1, (34, 0, [some (eR a0), some (eI (a1)), some (eI (a2)), none, none, none, none, none, none], []), f :: F, μ) := by
  refine w_t (np := 1) (l2 := [some (eR a0), some (eI (a1)), some (eI (a2)), none, none, none, none, none, none]) (s2 := [eI (a1)]) rfl rfl rfl ?_
  refine w_t (np := 2) (l2 := [some (eR a0), some (eI (a1)), some (eI (a2)), none, none, none, none, none, none]) (s2 := [eI (a2), eI (a1)]) rfl rfl rfl ?_
  refine w_cu (np := 5) (as := [eI (a1), eI (a2)]) (l2 := [some (eI (a1)), some (eI (a2)), none, none]) (rest := []) rfl rfl rfl (Nat.ble_eq.mp rfl) rfl rfl rfl rfl ?_
  refine s_35 (a0 := a1) (a1 := a2) hI (by omega) (by omega) ?_
  intro v1 b2
  show ex_q (dt_fg L ρ) rc (d + 1, (34, 5, [some (eR a0), some (eI (a1)), some (eI (a2)), none, none, none, none, none, none], [eI (v1)]), f :: F, μ)
  refine w_t (np := 6) (l2 := [some (eR a0), some (eI (a1)), some (eI (a2)), some (eI (v1)), none, none, none, none, none]) (s2 := []) rfl rfl rfl ?_
  refine w_t (np := 7) (l2 := [some (eR a0), some (eI (a1)), some (eI (a2)), some (eI (v1)), none, none, none, none, none]) (s2 := [eR a0]) rfl (s_an rfl (pos_g hI gA0 (by decide))) rfl ?_
  refine j_gi (np := 10) rfl rfl rfl hI gA0 (by decide) (n := 8) rfl rfl (lo := 0) (hi := 3) rfl ?_
  intro v3 e4 b5
  refine w_t (np := 11) (l2 := [some (eR a0), some (eI (a1)), some (eI (a2)), some (eI (v1)), none, none, none, none, none]) (s2 := [eI (2), eI (v3)]) rfl rfl rfl ?_
  refine b_cge (t1 := 18) (t2 := 14) rfl rfl rfl (ev_w_in (by omega) (by omega)) rfl (fun g6 => ?_) (fun g6 => ?_)
  · have b7 : 2 ≤ v3 ∧ v3 ≤ 3 := by omega
    refine w_t (np := 19) (l2 := [some (eR a0), some (eI (a1)), some (eI (a2)), some (eI (v1)), none, none, none, none, none]) (s2 := [eI (1)]) rfl rfl rfl ?_
    refine w_t (np := 21) (l2 := [some (eR a0), some (eI (a1)), some (eI (a2)), some (eI (v1)), some (eI (1)), none, none, none, none]) (s2 := []) rfl rfl rfl ?_
    refine w_t (np := 22) (l2 := [some (eR a0), some (eI (a1)), some (eI (a2)), some (eI (v1)), some (eI (1)), none, none, none, none]) (s2 := [eI (v1)]) rfl rfl rfl ?_
    refine w_t (np := 23) (l2 := [some (eR a0), some (eI (a1)), some (eI (a2)), some (eI (v1)), some (eI (1)), none, none, none, none]) (s2 := [eR a0, eI (v1)]) rfl (s_an rfl (pos_g hI gA0 (by decide))) rfl ?_
    refine w_gf (np := 26) (v := eI (v3)) rfl rfl (hI.kd gA0 (by decide) (n := 8) rfl) (by rw [e4]; rfl) ?_
    refine b_ine (t1 := 34) (t2 := 29) rfl rfl rfl (ev_w_in (by omega) (by omega)) (fun g7 => ?_) (fun g7 => False.elim (by omega))
    refine w_t (np := 35) (l2 := [some (eR a0), some (eI (a1)), some (eI (a2)), some (eI (v1)), some (eI (1)), none, none, none, none]) (s2 := [eR a0, eI (v1)]) rfl (s_an rfl (pos_g hI gA0 (by decide))) rfl ?_
    refine w_gf (np := 38) (v := eI (v3)) rfl rfl (hI.kd gA0 (by decide) (n := 8) rfl) (by rw [e4]; rfl) ?_
    refine w_t (np := 39) (l2 := [some (eR a0), some (eI (a1)), some (eI (a2)), some (eI (v1)), some (eI (1)), none, none, none, none]) (s2 := [eI (3), eI (v3), eI (v1)]) rfl rfl rfl ?_
    refine b_cne (t1 := 46) (t2 := 42) rfl rfl rfl (ev_w_in (by omega) (by omega)) rfl (fun g8 => ?_) (fun g8 => ?_)
    · have b9 : 2 ≤ v3 ∧ v3 ≤ 2 := by omega
      refine w_t (np := 47) (l2 := [some (eR a0), some (eI (a1)), some (eI (a2)), some (eI (v1)), some (eI (1)), none, none, none, none]) (s2 := [eI (1), eI (v1)]) rfl rfl rfl ?_
      refine b_clt (t1 := 52) (t2 := 50) rfl rfl rfl (ev_w_in (by omega) (by omega)) rfl (fun g9 => ?_) (fun g9 => ?_)
      · have b10 : -2147483648 ≤ v1 ∧ v1 ≤ 0 := by omega
        refine w_t (np := 53) (l2 := [some (eR a0), some (eI (a1)), some (eI (a2)), some (eI (v1)), some (eI (1)), none, none, none, none]) (s2 := [eI (v1)]) rfl rfl rfl ?_
        refine w_t (np := 55) (l2 := [some (eR a0), some (eI (a1)), some (eI (a2)), some (eI (v1)), some (eI (1)), none, none, none, none]) (s2 := [eI (1), eI (v1)]) rfl rfl rfl ?_
        refine w_t (np := 56) (l2 := [some (eR a0), some (eI (a1)), some (eI (a2)), some (eI (v1)), some (eI (1)), none, none, none, none]) (s2 := [eI (a2), eI (1), eI (v1)]) rfl rfl rfl ?_
        refine w_cu (np := 59) (as := [eI (1), eI (a2)]) (l2 := [some (eI (1)), some (eI (a2))]) (rest := [eI (v1)]) rfl rfl rfl (Nat.ble_eq.mp rfl) rfl rfl rfl rfl ?_
        refine s_37 (a0 := 1) (a1 := a2) hI (by decide) (by omega) ?_
        intro v10 b11
        show ex_q (dt_fg L ρ) rc (d + 1, (34, 59, [some (eR a0), some (eI (a1)), some (eI (a2)), some (eI (v1)), some (eI (1)), none, none, none, none], [eI (v10), eI (v1)]), f :: F, μ)
        obtain ⟨v12, e13, b14⟩ : ∃ zz : Int, ev_w ((v1) * (v10)) = zz ∧ (-2147483648 ≤ zz ∧ zz ≤ 2147483647) := ⟨_, rfl, hw_bd _⟩
        refine w_t (np := 60) (l2 := [some (eR a0), some (eI (a1)), some (eI (a2)), some (eI (v1)), some (eI (1)), none, none, none, none]) (s2 := [eI (v12)]) rfl (b_imul e13) rfl ?_
        refine w_t (np := 62) (l2 := [some (eR a0), some (eI (a1)), some (eI (a2)), some (eI (v1)), some (eI (1)), some (eI (v12)), none, none, none]) (s2 := []) rfl rfl rfl ?_
        refine w_t (np := 63) (l2 := [some (eR a0), some (eI (a1)), some (eI (a2)), some (eI (v1)), some (eI (1)), some (eI (v12)), none, none, none]) (s2 := [eI (a2)]) rfl rfl rfl ?_
        refine w_t (np := 64) (l2 := [some (eR a0), some (eI (a1)), some (eI (a2)), some (eI (v1)), some (eI (1)), some (eI (v12)), none, none, none]) (s2 := [eI (1), eI (a2)]) rfl rfl rfl ?_
        obtain ⟨v15, e16⟩ : ∃ zz : Int, zz = (a2) - (1) := ⟨_, rfl⟩
        have b17 : -61 ≤ v15 ∧ v15 ≤ 9 := by omega
        refine w_t (np := 65) (l2 := [some (eR a0), some (eI (a1)), some (eI (a2)), some (eI (v1)), some (eI (1)), some (eI (v12)), none, none, none]) (s2 := [eI (v15)]) rfl (b_isub (by rw [← e16]; exact ev_w_in (by omega) (by omega))) rfl ?_
        refine w_t (np := 67) (l2 := [some (eR a0), some (eI (a1)), some (eI (a2)), some (eI (v1)), some (eI (1)), some (eI (v12)), some (eI (v15)), none, none]) (s2 := []) rfl rfl rfl ?_
        have hL67 : ∀ (n18 : Nat) (i20 : Int) (i22 : Int) (i24 : Int) (o26 : Option eV) (o27 : Option eV), (-10 ≤ i20 ∧ i20 ≤ 2) → (-2147483648 ≤ i22 ∧ i22 ≤ 2147483647) → (-61 ≤ i24 ∧ i24 ≤ 9) → n18 = (i24 - (-61)).toNat → ex_q (dt_fg L ρ) rc (d + 1, (34, 67, [some (eR a0), some (eI (a1)), some (eI (a2)), some (eI (v1)), some (eI (i20)), some (eI (i22)), some (eI (i24)), o26, o27], []), f :: F, μ) := by
          intro n18
          induction n18 using Nat.strongRecOn with
          | _ n18 ih19 =>
          intro i20 i22 i24 o26 o27 b21 b23 b25 hn28
          refine w_t (np := 69) (l2 := [some (eR a0), some (eI (a1)), some (eI (a2)), some (eI (v1)), some (eI (i20)), some (eI (i22)), some (eI (i24)), o26, o27]) (s2 := [eI (i24)]) rfl rfl rfl ?_
          refine b_ilt (t1 := 141) (t2 := 72) rfl rfl rfl (ev_w_in (by omega) (by omega)) (fun g29 => ?_) (fun g29 => ?_)
          · have b30 : -61 ≤ i24 ∧ i24 ≤ -1 := by omega
            refine w_t (np := 143) (l2 := [some (eR a0), some (eI (a1)), some (eI (a2)), some (eI (v1)), some (eI (i20)), some (eI (i22)), some (eI (i24)), o26, o27]) (s2 := [eI (i22)]) rfl rfl rfl ?_
            exact b_ri rfl rfl (K (i22) (by omega))
          · have b30 : 0 ≤ i24 ∧ i24 ≤ 9 := by omega
            refine w_t (np := 73) (l2 := [some (eR a0), some (eI (a1)), some (eI (a2)), some (eI (v1)), some (eI (i20)), some (eI (i22)), some (eI (i24)), o26, o27]) (s2 := [eI (a1)]) rfl rfl rfl ?_
            refine w_t (np := 75) (l2 := [some (eR a0), some (eI (a1)), some (eI (a2)), some (eI (v1)), some (eI (i20)), some (eI (i22)), some (eI (i24)), o26, o27]) (s2 := [eI (i24), eI (a1)]) rfl rfl rfl ?_
            refine w_cu (np := 78) (as := [eI (a1), eI (i24)]) (l2 := [some (eI (a1)), some (eI (i24)), none, none]) (rest := []) rfl rfl rfl (Nat.ble_eq.mp rfl) rfl rfl rfl rfl ?_
            refine s_35 (a0 := a1) (a1 := i24) hI (by omega) (by omega) ?_
            intro v30 b31
            show ex_q (dt_fg L ρ) rc (d + 1, (34, 78, [some (eR a0), some (eI (a1)), some (eI (a2)), some (eI (v1)), some (eI (i20)), some (eI (i22)), some (eI (i24)), o26, o27], [eI (v30)]), f :: F, μ)
            refine w_t (np := 79) (l2 := [some (eR a0), some (eI (a1)), some (eI (a2)), some (eI (v1)), some (eI (i20)), some (eI (i22)), some (eI (i24)), o26, o27]) (s2 := [eI (3), eI (v30)]) rfl rfl rfl ?_
            obtain ⟨v32, e33, b34⟩ := h_irem (a := v30) (k := 3) (by decide) (by decide) b31
            have b35 : -2 ≤ v32 ∧ v32 ≤ 2 := by omega
            refine w_t (np := 80) (l2 := [some (eR a0), some (eI (a1)), some (eI (a2)), some (eI (v1)), some (eI (i20)), some (eI (i22)), some (eI (i24)), o26, o27]) (s2 := [eI (v32)]) rfl (e33 _ _) rfl ?_
            refine w_t (np := 82) (l2 := [some (eR a0), some (eI (a1)), some (eI (a2)), some (eI (v1)), some (eI (i20)), some (eI (i22)), some (eI (i24)), some (eI (v32)), o27]) (s2 := []) rfl rfl rfl ?_
            refine w_t (np := 84) (l2 := [some (eR a0), some (eI (a1)), some (eI (a2)), some (eI (v1)), some (eI (i20)), some (eI (i22)), some (eI (i24)), some (eI (v32)), o27]) (s2 := [eI (v32)]) rfl rfl rfl ?_
            refine w_t (np := 86) (l2 := [some (eR a0), some (eI (a1)), some (eI (a2)), some (eI (v1)), some (eI (i20)), some (eI (i22)), some (eI (i24)), some (eI (v32)), o27]) (s2 := [eI (i20), eI (v32)]) rfl rfl rfl ?_
            refine w_t (np := 87) (l2 := [some (eR a0), some (eI (a1)), some (eI (a2)), some (eI (v1)), some (eI (i20)), some (eI (i22)), some (eI (i24)), some (eI (v32)), o27]) (s2 := [eI (1), eI (i20), eI (v32)]) rfl rfl rfl ?_
            obtain ⟨v36, e37⟩ : ∃ zz : Int, zz = (i20) + (1) := ⟨_, rfl⟩
            have b38 : -9 ≤ v36 ∧ v36 ≤ 3 := by omega
            refine w_t (np := 88) (l2 := [some (eR a0), some (eI (a1)), some (eI (a2)), some (eI (v1)), some (eI (i20)), some (eI (i22)), some (eI (i24)), some (eI (v32)), o27]) (s2 := [eI (v36), eI (v32)]) rfl (b_iadd (by rw [← e37]; exact ev_w_in (by omega) (by omega))) rfl ?_
            refine b_cle (t1 := 93) (t2 := 91) rfl rfl rfl (ev_w_in (by omega) (by omega)) (ev_w_in (by omega) (by omega)) (fun g39 => ?_) (fun g39 => ?_)
            · have b40 : -2 ≤ v36 ∧ v36 ≤ 3 := by omega
              refine w_t (np := 94) (l2 := [some (eR a0), some (eI (a1)), some (eI (a2)), some (eI (v1)), some (eI (i20)), some (eI (i22)), some (eI (i24)), some (eI (v32)), o27]) (s2 := [eI (0)]) rfl rfl rfl ?_
              refine w_t (np := 96) (l2 := [some (eR a0), some (eI (a1)), some (eI (a2)), some (eI (v1)), some (eI (i20)), some (eI (i22)), some (eI (i24)), some (eI (v32)), some (eI (0))]) (s2 := []) rfl rfl rfl ?_
              have hL96 : ∀ (n40 : Nat) (i42 : Int) (i44 : Int), (-2147483648 ≤ i42 ∧ i42 ≤ 2147483647) → (0 ≤ i44 ∧ i44 ≤ 2) → n40 = (2 - i44).toNat → ex_q (dt_fg L ρ) rc (d + 1, (34, 96, [some (eR a0), some (eI (a1)), some (eI (a2)), some (eI (v1)), some (eI (i20)), some (eI (i42)), some (eI (i24)), some (eI (v32)), some (eI (i44))], []), f :: F, μ) := by
                intro n40
                induction n40 using Nat.strongRecOn with
                | _ n40 ih41 =>
                intro i42 i44 b43 b45 hn46
                refine w_t (np := 98) (l2 := [some (eR a0), some (eI (a1)), some (eI (a2)), some (eI (v1)), some (eI (i20)), some (eI (i42)), some (eI (i24)), some (eI (v32)), some (eI (i44))]) (s2 := [eI (i44)]) rfl rfl rfl ?_
                refine w_t (np := 100) (l2 := [some (eR a0), some (eI (a1)), some (eI (a2)), some (eI (v1)), some (eI (i20)), some (eI (i42)), some (eI (i24)), some (eI (v32)), some (eI (i44))]) (s2 := [eI (v32), eI (i44)]) rfl rfl rfl ?_
                refine b_cge (t1 := 126) (t2 := 103) rfl rfl rfl (ev_w_in (by omega) (by omega)) (ev_w_in (by omega) (by omega)) (fun g47 => ?_) (fun g47 => ?_)
                · refine w_t (np := 128) (l2 := [some (eR a0), some (eI (a1)), some (eI (a2)), some (eI (v1)), some (eI (i20)), some (eI (i42)), some (eI (i24)), some (eI (v32)), some (eI (i44))]) (s2 := [eI (i20)]) rfl rfl rfl ?_
                  refine w_t (np := 130) (l2 := [some (eR a0), some (eI (a1)), some (eI (a2)), some (eI (v1)), some (eI (i20)), some (eI (i42)), some (eI (i24)), some (eI (v32)), some (eI (i44))]) (s2 := [eI (v32), eI (i20)]) rfl rfl rfl ?_
                  refine w_cu (np := 133) (as := [eI (i20), eI (v32)]) (l2 := [some (eI (i20)), some (eI (v32))]) (rest := []) rfl rfl rfl (Nat.ble_eq.mp rfl) rfl rfl rfl rfl ?_
                  refine w_t (np := 1) (l2 := [some (eI (i20)), some (eI (v32))]) (s2 := [eI (i20)]) rfl rfl rfl ?_
                  refine b_ine (t1 := 8) (t2 := 4) rfl rfl rfl (ev_w_in (by omega) (by omega)) (fun g48 => ?_) (fun g48 => ?_)
                  · refine w_t (np := 9) (l2 := [some (eI (i20)), some (eI (v32))]) (s2 := [eI (v32)]) rfl rfl rfl ?_
                    refine w_t (np := 10) (l2 := [some (eI (i20)), some (eI (v32))]) (s2 := [eI (2), eI (v32)]) rfl rfl rfl ?_
                    refine b_cne (t1 := 17) (t2 := 13) rfl rfl rfl (ev_w_in (by omega) (by omega)) rfl (fun g49 => ?_) (fun g49 => ?_)
                    · have b50 : -2 ≤ v32 ∧ v32 ≤ 1 := by omega
                      refine w_t (np := 18) (l2 := [some (eI (i20)), some (eI (v32))]) (s2 := [eI (1)]) rfl rfl rfl ?_
                      refine b_ri rfl rfl ?_
                      show ex_q (dt_fg L ρ) rc (d + 1, (34, 133, [some (eR a0), some (eI (a1)), some (eI (a2)), some (eI (v1)), some (eI (i20)), some (eI (i42)), some (eI (i24)), some (eI (v32)), some (eI (i44))], [eI (1)]), f :: F, μ)
                      refine w_t (np := 135) (l2 := [some (eR a0), some (eI (a1)), some (eI (a2)), some (eI (v1)), some (eI (1)), some (eI (i42)), some (eI (i24)), some (eI (v32)), some (eI (i44))]) (s2 := []) rfl rfl rfl ?_
                      obtain ⟨v50, e51⟩ : ∃ zz : Int, zz = (i24) + (-1) := ⟨_, rfl⟩
                      have b52 : -1 ≤ v50 ∧ v50 ≤ 8 := by omega
                      refine w_t (np := 138) (l2 := [some (eR a0), some (eI (a1)), some (eI (a2)), some (eI (v1)), some (eI (1)), some (eI (i42)), some (eI (v50)), some (eI (v32)), some (eI (i44))]) (s2 := []) rfl (b_iinc rfl (by rw [← e51]; exact ev_w_in (by omega) (by omega)) rfl) rfl ?_
                      refine w_go (t1 := 67) rfl rfl ?_
                      exact ih19 ((v50) - (-61)).toNat (by omega) (1) (i42) (v50) (some (eI (v32))) (some (eI (i44))) (by decide) (by omega) (by omega)     rfl
                    · have b50 : 2 ≤ v32 ∧ v32 ≤ 2 := by omega
                      refine w_t (np := 14) (l2 := [some (eI (i20)), some (eI (v32))]) (s2 := [eI (0)]) rfl rfl rfl ?_
                      refine w_go (t1 := 18) rfl rfl ?_
                      refine b_ri rfl rfl ?_
                      show ex_q (dt_fg L ρ) rc (d + 1, (34, 133, [some (eR a0), some (eI (a1)), some (eI (a2)), some (eI (v1)), some (eI (i20)), some (eI (i42)), some (eI (i24)), some (eI (v32)), some (eI (i44))], [eI (0)]), f :: F, μ)
                      refine w_t (np := 135) (l2 := [some (eR a0), some (eI (a1)), some (eI (a2)), some (eI (v1)), some (eI (0)), some (eI (i42)), some (eI (i24)), some (eI (v32)), some (eI (i44))]) (s2 := []) rfl rfl rfl ?_
                      obtain ⟨v50, e51⟩ : ∃ zz : Int, zz = (i24) + (-1) := ⟨_, rfl⟩
                      have b52 : -1 ≤ v50 ∧ v50 ≤ 8 := by omega
                      refine w_t (np := 138) (l2 := [some (eR a0), some (eI (a1)), some (eI (a2)), some (eI (v1)), some (eI (0)), some (eI (i42)), some (eI (v50)), some (eI (v32)), some (eI (i44))]) (s2 := []) rfl (b_iinc rfl (by rw [← e51]; exact ev_w_in (by omega) (by omega)) rfl) rfl ?_
                      refine w_go (t1 := 67) rfl rfl ?_
                      exact ih19 ((v50) - (-61)).toNat (by omega) (0) (i42) (v50) (some (eI (v32))) (some (eI (i44))) (by decide) (by omega) (by omega)     rfl
                  · have b49 : 0 ≤ i20 ∧ i20 ≤ 0 := by omega
                    refine w_t (np := 5) (l2 := [some (eI (i20)), some (eI (v32))]) (s2 := [eI (v32)]) rfl rfl rfl ?_
                    refine w_go (t1 := 18) rfl rfl ?_
                    refine b_ri rfl rfl ?_
                    show ex_q (dt_fg L ρ) rc (d + 1, (34, 133, [some (eR a0), some (eI (a1)), some (eI (a2)), some (eI (v1)), some (eI (i20)), some (eI (i42)), some (eI (i24)), some (eI (v32)), some (eI (i44))], [eI (v32)]), f :: F, μ)
                    refine w_t (np := 135) (l2 := [some (eR a0), some (eI (a1)), some (eI (a2)), some (eI (v1)), some (eI (v32)), some (eI (i42)), some (eI (i24)), some (eI (v32)), some (eI (i44))]) (s2 := []) rfl rfl rfl ?_
                    obtain ⟨v49, e50⟩ : ∃ zz : Int, zz = (i24) + (-1) := ⟨_, rfl⟩
                    have b51 : -1 ≤ v49 ∧ v49 ≤ 8 := by omega
                    refine w_t (np := 138) (l2 := [some (eR a0), some (eI (a1)), some (eI (a2)), some (eI (v1)), some (eI (v32)), some (eI (i42)), some (eI (v49)), some (eI (v32)), some (eI (i44))]) (s2 := []) rfl (b_iinc rfl (by rw [← e50]; exact ev_w_in (by omega) (by omega)) rfl) rfl ?_
                    refine w_go (t1 := 67) rfl rfl ?_
                    exact ih19 ((v49) - (-61)).toNat (by omega) (v32) (i42) (v49) (some (eI (v32))) (some (eI (i44))) (by omega) (by omega) (by omega)     rfl
                · have b48 : 0 ≤ i44 ∧ i44 ≤ 1 := by omega
                  have b49 : 1 ≤ v32 ∧ v32 ≤ 2 := by omega
                  refine w_t (np := 105) (l2 := [some (eR a0), some (eI (a1)), some (eI (a2)), some (eI (v1)), some (eI (i20)), some (eI (i42)), some (eI (i24)), some (eI (v32)), some (eI (i44))]) (s2 := [eI (i42)]) rfl rfl rfl ?_
                  refine w_t (np := 107) (l2 := [some (eR a0), some (eI (a1)), some (eI (a2)), some (eI (v1)), some (eI (i20)), some (eI (i42)), some (eI (i24)), some (eI (v32)), some (eI (i44))]) (s2 := [eI (i20), eI (i42)]) rfl rfl rfl ?_
                  refine w_t (np := 109) (l2 := [some (eR a0), some (eI (a1)), some (eI (a2)), some (eI (v1)), some (eI (i20)), some (eI (i42)), some (eI (i24)), some (eI (v32)), some (eI (i44))]) (s2 := [eI (i44), eI (i20), eI (i42)]) rfl rfl rfl ?_
                  refine w_cu (np := 112) (as := [eI (i20), eI (i44)]) (l2 := [some (eI (i20)), some (eI (i44))]) (rest := [eI (i42)]) rfl rfl rfl (Nat.ble_eq.mp rfl) rfl rfl rfl rfl ?_
                  refine w_t (np := 1) (l2 := [some (eI (i20)), some (eI (i44))]) (s2 := [eI (i20)]) rfl rfl rfl ?_
                  refine b_ine (t1 := 8) (t2 := 4) rfl rfl rfl (ev_w_in (by omega) (by omega)) (fun g48 => ?_) (fun g48 => ?_)
                  · refine w_t (np := 9) (l2 := [some (eI (i20)), some (eI (i44))]) (s2 := [eI (i44)]) rfl rfl rfl ?_
                    refine w_t (np := 10) (l2 := [some (eI (i20)), some (eI (i44))]) (s2 := [eI (2), eI (i44)]) rfl rfl rfl ?_
                    refine b_cne (t1 := 17) (t2 := 13) rfl rfl rfl (ev_w_in (by omega) (by omega)) rfl (fun g49 => ?_) (fun g49 => False.elim (by omega))
                    refine w_t (np := 18) (l2 := [some (eI (i20)), some (eI (i44))]) (s2 := [eI (1)]) rfl rfl rfl ?_
                    refine b_ri rfl rfl ?_
                    show ex_q (dt_fg L ρ) rc (d + 1, (34, 112, [some (eR a0), some (eI (a1)), some (eI (a2)), some (eI (v1)), some (eI (i20)), some (eI (i42)), some (eI (i24)), some (eI (v32)), some (eI (i44))], [eI (1), eI (i42)]), f :: F, μ)
                    refine w_t (np := 114) (l2 := [some (eR a0), some (eI (a1)), some (eI (a2)), some (eI (v1)), some (eI (i20)), some (eI (i42)), some (eI (i24)), some (eI (v32)), some (eI (i44))]) (s2 := [eI (i24), eI (1), eI (i42)]) rfl rfl rfl ?_
                    refine w_cu (np := 117) (as := [eI (1), eI (i24)]) (l2 := [some (eI (1)), some (eI (i24))]) (rest := [eI (i42)]) rfl rfl rfl (Nat.ble_eq.mp rfl) rfl rfl rfl rfl ?_
                    refine s_37 (a0 := 1) (a1 := i24) hI (by decide) (by omega) ?_
                    intro v50 b51
                    show ex_q (dt_fg L ρ) rc (d + 1, (34, 117, [some (eR a0), some (eI (a1)), some (eI (a2)), some (eI (v1)), some (eI (i20)), some (eI (i42)), some (eI (i24)), some (eI (v32)), some (eI (i44))], [eI (v50), eI (i42)]), f :: F, μ)
                    obtain ⟨v52, e53, b54⟩ : ∃ zz : Int, ev_w ((i42) + (v50)) = zz ∧ (-2147483648 ≤ zz ∧ zz ≤ 2147483647) := ⟨_, rfl, hw_bd _⟩
                    refine w_t (np := 118) (l2 := [some (eR a0), some (eI (a1)), some (eI (a2)), some (eI (v1)), some (eI (i20)), some (eI (i42)), some (eI (i24)), some (eI (v32)), some (eI (i44))]) (s2 := [eI (v52)]) rfl (b_iadd e53) rfl ?_
                    refine w_t (np := 120) (l2 := [some (eR a0), some (eI (a1)), some (eI (a2)), some (eI (v1)), some (eI (i20)), some (eI (v52)), some (eI (i24)), some (eI (v32)), some (eI (i44))]) (s2 := []) rfl rfl rfl ?_
                    obtain ⟨v55, e56⟩ : ∃ zz : Int, zz = (i44) + (1) := ⟨_, rfl⟩
                    have b57 : 1 ≤ v55 ∧ v55 ≤ 2 := by omega
                    refine w_t (np := 123) (l2 := [some (eR a0), some (eI (a1)), some (eI (a2)), some (eI (v1)), some (eI (i20)), some (eI (v52)), some (eI (i24)), some (eI (v32)), some (eI (v55))]) (s2 := []) rfl (b_iinc rfl (by rw [← e56]; exact ev_w_in (by omega) (by omega)) rfl) rfl ?_
                    refine w_go (t1 := 96) rfl rfl ?_
                    exact ih41 (2 - (v55)).toNat (by omega) (v52) (v55) (by omega) (by omega)     rfl
                  · have b49 : 0 ≤ i20 ∧ i20 ≤ 0 := by omega
                    refine w_t (np := 5) (l2 := [some (eI (i20)), some (eI (i44))]) (s2 := [eI (i44)]) rfl rfl rfl ?_
                    refine w_go (t1 := 18) rfl rfl ?_
                    refine b_ri rfl rfl ?_
                    show ex_q (dt_fg L ρ) rc (d + 1, (34, 112, [some (eR a0), some (eI (a1)), some (eI (a2)), some (eI (v1)), some (eI (i20)), some (eI (i42)), some (eI (i24)), some (eI (v32)), some (eI (i44))], [eI (i44), eI (i42)]), f :: F, μ)
                    refine w_t (np := 114) (l2 := [some (eR a0), some (eI (a1)), some (eI (a2)), some (eI (v1)), some (eI (i20)), some (eI (i42)), some (eI (i24)), some (eI (v32)), some (eI (i44))]) (s2 := [eI (i24), eI (i44), eI (i42)]) rfl rfl rfl ?_
                    refine w_cu (np := 117) (as := [eI (i44), eI (i24)]) (l2 := [some (eI (i44)), some (eI (i24))]) (rest := [eI (i42)]) rfl rfl rfl (Nat.ble_eq.mp rfl) rfl rfl rfl rfl ?_
                    refine s_37 (a0 := i44) (a1 := i24) hI (by omega) (by omega) ?_
                    intro v49 b50
                    show ex_q (dt_fg L ρ) rc (d + 1, (34, 117, [some (eR a0), some (eI (a1)), some (eI (a2)), some (eI (v1)), some (eI (i20)), some (eI (i42)), some (eI (i24)), some (eI (v32)), some (eI (i44))], [eI (v49), eI (i42)]), f :: F, μ)
                    obtain ⟨v51, e52, b53⟩ : ∃ zz : Int, ev_w ((i42) + (v49)) = zz ∧ (-2147483648 ≤ zz ∧ zz ≤ 2147483647) := ⟨_, rfl, hw_bd _⟩
                    refine w_t (np := 118) (l2 := [some (eR a0), some (eI (a1)), some (eI (a2)), some (eI (v1)), some (eI (i20)), some (eI (i42)), some (eI (i24)), some (eI (v32)), some (eI (i44))]) (s2 := [eI (v51)]) rfl (b_iadd e52) rfl ?_
                    refine w_t (np := 120) (l2 := [some (eR a0), some (eI (a1)), some (eI (a2)), some (eI (v1)), some (eI (i20)), some (eI (v51)), some (eI (i24)), some (eI (v32)), some (eI (i44))]) (s2 := []) rfl rfl rfl ?_
                    obtain ⟨v54, e55⟩ : ∃ zz : Int, zz = (i44) + (1) := ⟨_, rfl⟩
                    have b56 : 1 ≤ v54 ∧ v54 ≤ 2 := by omega
                    refine w_t (np := 123) (l2 := [some (eR a0), some (eI (a1)), some (eI (a2)), some (eI (v1)), some (eI (i20)), some (eI (v51)), some (eI (i24)), some (eI (v32)), some (eI (v54))]) (s2 := []) rfl (b_iinc rfl (by rw [← e55]; exact ev_w_in (by omega) (by omega)) rfl) rfl ?_
                    refine w_go (t1 := 96) rfl rfl ?_
                    exact ih41 (2 - (v54)).toNat (by omega) (v51) (v54) (by omega) (by omega)     rfl
              exact hL96 _ (i22) (0) (by omega) (by decide)     rfl
            · have b40 : -9 ≤ v36 ∧ v36 ≤ 1 := by omega
              refine w_t (np := 92) (l2 := [some (eR a0), some (eI (a1)), some (eI (a2)), some (eI (v1)), some (eI (i20)), some (eI (i22)), some (eI (i24)), some (eI (v32)), o27]) (s2 := [eI (-1)]) rfl rfl rfl ?_
              exact b_ri rfl rfl (K (-1) (by decide))
        exact hL67 _ (1) (v12) (v15) (none) (none) (by decide) (by omega) (by omega)     rfl
      · have b10 : 1 ≤ v1 ∧ v1 ≤ 2147483647 := by omega
        refine w_t (np := 51) (l2 := [some (eR a0), some (eI (a1)), some (eI (a2)), some (eI (v1)), some (eI (1)), none, none, none, none]) (s2 := [eI (-1)]) rfl rfl rfl ?_
        exact b_ri rfl rfl (K (-1) (by decide))
    · have b9 : 3 ≤ v3 ∧ v3 ≤ 3 := by omega
      refine w_t (np := 43) (l2 := [some (eR a0), some (eI (a1)), some (eI (a2)), some (eI (v1)), some (eI (1)), none, none, none, none]) (s2 := [eI (2), eI (v1)]) rfl rfl rfl ?_
      refine w_go (t1 := 47) rfl rfl ?_
      refine b_clt (t1 := 52) (t2 := 50) rfl rfl rfl (ev_w_in (by omega) (by omega)) rfl (fun g9 => ?_) (fun g9 => ?_)
      · have b10 : -2147483648 ≤ v1 ∧ v1 ≤ 1 := by omega
        refine w_t (np := 53) (l2 := [some (eR a0), some (eI (a1)), some (eI (a2)), some (eI (v1)), some (eI (1)), none, none, none, none]) (s2 := [eI (v1)]) rfl rfl rfl ?_
        refine w_t (np := 55) (l2 := [some (eR a0), some (eI (a1)), some (eI (a2)), some (eI (v1)), some (eI (1)), none, none, none, none]) (s2 := [eI (1), eI (v1)]) rfl rfl rfl ?_
        refine w_t (np := 56) (l2 := [some (eR a0), some (eI (a1)), some (eI (a2)), some (eI (v1)), some (eI (1)), none, none, none, none]) (s2 := [eI (a2), eI (1), eI (v1)]) rfl rfl rfl ?_
        refine w_cu (np := 59) (as := [eI (1), eI (a2)]) (l2 := [some (eI (1)), some (eI (a2))]) (rest := [eI (v1)]) rfl rfl rfl (Nat.ble_eq.mp rfl) rfl rfl rfl rfl ?_
        refine s_37 (a0 := 1) (a1 := a2) hI (by decide) (by omega) ?_
        intro v10 b11
        show ex_q (dt_fg L ρ) rc (d + 1, (34, 59, [some (eR a0), some (eI (a1)), some (eI (a2)), some (eI (v1)), some (eI (1)), none, none, none, none], [eI (v10), eI (v1)]), f :: F, μ)
        obtain ⟨v12, e13, b14⟩ : ∃ zz : Int, ev_w ((v1) * (v10)) = zz ∧ (-2147483648 ≤ zz ∧ zz ≤ 2147483647) := ⟨_, rfl, hw_bd _⟩
        refine w_t (np := 60) (l2 := [some (eR a0), some (eI (a1)), some (eI (a2)), some (eI (v1)), some (eI (1)), none, none, none, none]) (s2 := [eI (v12)]) rfl (b_imul e13) rfl ?_
        refine w_t (np := 62) (l2 := [some (eR a0), some (eI (a1)), some (eI (a2)), some (eI (v1)), some (eI (1)), some (eI (v12)), none, none, none]) (s2 := []) rfl rfl rfl ?_
        refine w_t (np := 63) (l2 := [some (eR a0), some (eI (a1)), some (eI (a2)), some (eI (v1)), some (eI (1)), some (eI (v12)), none, none, none]) (s2 := [eI (a2)]) rfl rfl rfl ?_
        refine w_t (np := 64) (l2 := [some (eR a0), some (eI (a1)), some (eI (a2)), some (eI (v1)), some (eI (1)), some (eI (v12)), none, none, none]) (s2 := [eI (1), eI (a2)]) rfl rfl rfl ?_
        obtain ⟨v15, e16⟩ : ∃ zz : Int, zz = (a2) - (1) := ⟨_, rfl⟩
        have b17 : -61 ≤ v15 ∧ v15 ≤ 9 := by omega
        refine w_t (np := 65) (l2 := [some (eR a0), some (eI (a1)), some (eI (a2)), some (eI (v1)), some (eI (1)), some (eI (v12)), none, none, none]) (s2 := [eI (v15)]) rfl (b_isub (by rw [← e16]; exact ev_w_in (by omega) (by omega))) rfl ?_
        refine w_t (np := 67) (l2 := [some (eR a0), some (eI (a1)), some (eI (a2)), some (eI (v1)), some (eI (1)), some (eI (v12)), some (eI (v15)), none, none]) (s2 := []) rfl rfl rfl ?_
        have hL67 : ∀ (n18 : Nat) (i20 : Int) (i22 : Int) (i24 : Int) (o26 : Option eV) (o27 : Option eV), (-10 ≤ i20 ∧ i20 ≤ 2) → (-2147483648 ≤ i22 ∧ i22 ≤ 2147483647) → (-61 ≤ i24 ∧ i24 ≤ 9) → n18 = (i24 - (-61)).toNat → ex_q (dt_fg L ρ) rc (d + 1, (34, 67, [some (eR a0), some (eI (a1)), some (eI (a2)), some (eI (v1)), some (eI (i20)), some (eI (i22)), some (eI (i24)), o26, o27], []), f :: F, μ) := by
          intro n18
          induction n18 using Nat.strongRecOn with
          | _ n18 ih19 =>
          intro i20 i22 i24 o26 o27 b21 b23 b25 hn28
          refine w_t (np := 69) (l2 := [some (eR a0), some (eI (a1)), some (eI (a2)), some (eI (v1)), some (eI (i20)), some (eI (i22)), some (eI (i24)), o26, o27]) (s2 := [eI (i24)]) rfl rfl rfl ?_
          refine b_ilt (t1 := 141) (t2 := 72) rfl rfl rfl (ev_w_in (by omega) (by omega)) (fun g29 => ?_) (fun g29 => ?_)
          · have b30 : -61 ≤ i24 ∧ i24 ≤ -1 := by omega
            refine w_t (np := 143) (l2 := [some (eR a0), some (eI (a1)), some (eI (a2)), some (eI (v1)), some (eI (i20)), some (eI (i22)), some (eI (i24)), o26, o27]) (s2 := [eI (i22)]) rfl rfl rfl ?_
            exact b_ri rfl rfl (K (i22) (by omega))
          · have b30 : 0 ≤ i24 ∧ i24 ≤ 9 := by omega
            refine w_t (np := 73) (l2 := [some (eR a0), some (eI (a1)), some (eI (a2)), some (eI (v1)), some (eI (i20)), some (eI (i22)), some (eI (i24)), o26, o27]) (s2 := [eI (a1)]) rfl rfl rfl ?_
            refine w_t (np := 75) (l2 := [some (eR a0), some (eI (a1)), some (eI (a2)), some (eI (v1)), some (eI (i20)), some (eI (i22)), some (eI (i24)), o26, o27]) (s2 := [eI (i24), eI (a1)]) rfl rfl rfl ?_
            refine w_cu (np := 78) (as := [eI (a1), eI (i24)]) (l2 := [some (eI (a1)), some (eI (i24)), none, none]) (rest := []) rfl rfl rfl (Nat.ble_eq.mp rfl) rfl rfl rfl rfl ?_
            refine s_35 (a0 := a1) (a1 := i24) hI (by omega) (by omega) ?_
            intro v30 b31
            show ex_q (dt_fg L ρ) rc (d + 1, (34, 78, [some (eR a0), some (eI (a1)), some (eI (a2)), some (eI (v1)), some (eI (i20)), some (eI (i22)), some (eI (i24)), o26, o27], [eI (v30)]), f :: F, μ)
            refine w_t (np := 79) (l2 := [some (eR a0), some (eI (a1)), some (eI (a2)), some (eI (v1)), some (eI (i20)), some (eI (i22)), some (eI (i24)), o26, o27]) (s2 := [eI (3), eI (v30)]) rfl rfl rfl ?_
            obtain ⟨v32, e33, b34⟩ := h_irem (a := v30) (k := 3) (by decide) (by decide) b31
            have b35 : -2 ≤ v32 ∧ v32 ≤ 2 := by omega
            refine w_t (np := 80) (l2 := [some (eR a0), some (eI (a1)), some (eI (a2)), some (eI (v1)), some (eI (i20)), some (eI (i22)), some (eI (i24)), o26, o27]) (s2 := [eI (v32)]) rfl (e33 _ _) rfl ?_
            refine w_t (np := 82) (l2 := [some (eR a0), some (eI (a1)), some (eI (a2)), some (eI (v1)), some (eI (i20)), some (eI (i22)), some (eI (i24)), some (eI (v32)), o27]) (s2 := []) rfl rfl rfl ?_
            refine w_t (np := 84) (l2 := [some (eR a0), some (eI (a1)), some (eI (a2)), some (eI (v1)), some (eI (i20)), some (eI (i22)), some (eI (i24)), some (eI (v32)), o27]) (s2 := [eI (v32)]) rfl rfl rfl ?_
            refine w_t (np := 86) (l2 := [some (eR a0), some (eI (a1)), some (eI (a2)), some (eI (v1)), some (eI (i20)), some (eI (i22)), some (eI (i24)), some (eI (v32)), o27]) (s2 := [eI (i20), eI (v32)]) rfl rfl rfl ?_
            refine w_t (np := 87) (l2 := [some (eR a0), some (eI (a1)), some (eI (a2)), some (eI (v1)), some (eI (i20)), some (eI (i22)), some (eI (i24)), some (eI (v32)), o27]) (s2 := [eI (1), eI (i20), eI (v32)]) rfl rfl rfl ?_
            obtain ⟨v36, e37⟩ : ∃ zz : Int, zz = (i20) + (1) := ⟨_, rfl⟩
            have b38 : -9 ≤ v36 ∧ v36 ≤ 3 := by omega
            refine w_t (np := 88) (l2 := [some (eR a0), some (eI (a1)), some (eI (a2)), some (eI (v1)), some (eI (i20)), some (eI (i22)), some (eI (i24)), some (eI (v32)), o27]) (s2 := [eI (v36), eI (v32)]) rfl (b_iadd (by rw [← e37]; exact ev_w_in (by omega) (by omega))) rfl ?_
            refine b_cle (t1 := 93) (t2 := 91) rfl rfl rfl (ev_w_in (by omega) (by omega)) (ev_w_in (by omega) (by omega)) (fun g39 => ?_) (fun g39 => ?_)
            · have b40 : -2 ≤ v36 ∧ v36 ≤ 3 := by omega
              refine w_t (np := 94) (l2 := [some (eR a0), some (eI (a1)), some (eI (a2)), some (eI (v1)), some (eI (i20)), some (eI (i22)), some (eI (i24)), some (eI (v32)), o27]) (s2 := [eI (0)]) rfl rfl rfl ?_
              refine w_t (np := 96) (l2 := [some (eR a0), some (eI (a1)), some (eI (a2)), some (eI (v1)), some (eI (i20)), some (eI (i22)), some (eI (i24)), some (eI (v32)), some (eI (0))]) (s2 := []) rfl rfl rfl ?_
              have hL96 : ∀ (n40 : Nat) (i42 : Int) (i44 : Int), (-2147483648 ≤ i42 ∧ i42 ≤ 2147483647) → (0 ≤ i44 ∧ i44 ≤ 2) → n40 = (2 - i44).toNat → ex_q (dt_fg L ρ) rc (d + 1, (34, 96, [some (eR a0), some (eI (a1)), some (eI (a2)), some (eI (v1)), some (eI (i20)), some (eI (i42)), some (eI (i24)), some (eI (v32)), some (eI (i44))], []), f :: F, μ) := by
                intro n40
                induction n40 using Nat.strongRecOn with
                | _ n40 ih41 =>
                intro i42 i44 b43 b45 hn46
                refine w_t (np := 98) (l2 := [some (eR a0), some (eI (a1)), some (eI (a2)), some (eI (v1)), some (eI (i20)), some (eI (i42)), some (eI (i24)), some (eI (v32)), some (eI (i44))]) (s2 := [eI (i44)]) rfl rfl rfl ?_
                refine w_t (np := 100) (l2 := [some (eR a0), some (eI (a1)), some (eI (a2)), some (eI (v1)), some (eI (i20)), some (eI (i42)), some (eI (i24)), some (eI (v32)), some (eI (i44))]) (s2 := [eI (v32), eI (i44)]) rfl rfl rfl ?_
                refine b_cge (t1 := 126) (t2 := 103) rfl rfl rfl (ev_w_in (by omega) (by omega)) (ev_w_in (by omega) (by omega)) (fun g47 => ?_) (fun g47 => ?_)
                · refine w_t (np := 128) (l2 := [some (eR a0), some (eI (a1)), some (eI (a2)), some (eI (v1)), some (eI (i20)), some (eI (i42)), some (eI (i24)), some (eI (v32)), some (eI (i44))]) (s2 := [eI (i20)]) rfl rfl rfl ?_
                  refine w_t (np := 130) (l2 := [some (eR a0), some (eI (a1)), some (eI (a2)), some (eI (v1)), some (eI (i20)), some (eI (i42)), some (eI (i24)), some (eI (v32)), some (eI (i44))]) (s2 := [eI (v32), eI (i20)]) rfl rfl rfl ?_
                  refine w_cu (np := 133) (as := [eI (i20), eI (v32)]) (l2 := [some (eI (i20)), some (eI (v32))]) (rest := []) rfl rfl rfl (Nat.ble_eq.mp rfl) rfl rfl rfl rfl ?_
                  refine w_t (np := 1) (l2 := [some (eI (i20)), some (eI (v32))]) (s2 := [eI (i20)]) rfl rfl rfl ?_
                  refine b_ine (t1 := 8) (t2 := 4) rfl rfl rfl (ev_w_in (by omega) (by omega)) (fun g48 => ?_) (fun g48 => ?_)
                  · refine w_t (np := 9) (l2 := [some (eI (i20)), some (eI (v32))]) (s2 := [eI (v32)]) rfl rfl rfl ?_
                    refine w_t (np := 10) (l2 := [some (eI (i20)), some (eI (v32))]) (s2 := [eI (2), eI (v32)]) rfl rfl rfl ?_
                    refine b_cne (t1 := 17) (t2 := 13) rfl rfl rfl (ev_w_in (by omega) (by omega)) rfl (fun g49 => ?_) (fun g49 => ?_)
                    · have b50 : -2 ≤ v32 ∧ v32 ≤ 1 := by omega
                      refine w_t (np := 18) (l2 := [some (eI (i20)), some (eI (v32))]) (s2 := [eI (1)]) rfl rfl rfl ?_
                      refine b_ri rfl rfl ?_
                      show ex_q (dt_fg L ρ) rc (d + 1, (34, 133, [some (eR a0), some (eI (a1)), some (eI (a2)), some (eI (v1)), some (eI (i20)), some (eI (i42)), some (eI (i24)), some (eI (v32)), some (eI (i44))], [eI (1)]), f :: F, μ)
                      refine w_t (np := 135) (l2 := [some (eR a0), some (eI (a1)), some (eI (a2)), some (eI (v1)), some (eI (1)), some (eI (i42)), some (eI (i24)), some (eI (v32)), some (eI (i44))]) (s2 := []) rfl rfl rfl ?_
                      obtain ⟨v50, e51⟩ : ∃ zz : Int, zz = (i24) + (-1) := ⟨_, rfl⟩
                      have b52 : -1 ≤ v50 ∧ v50 ≤ 8 := by omega
                      refine w_t (np := 138) (l2 := [some (eR a0), some (eI (a1)), some (eI (a2)), some (eI (v1)), some (eI (1)), some (eI (i42)), some (eI (v50)), some (eI (v32)), some (eI (i44))]) (s2 := []) rfl (b_iinc rfl (by rw [← e51]; exact ev_w_in (by omega) (by omega)) rfl) rfl ?_
                      refine w_go (t1 := 67) rfl rfl ?_
                      exact ih19 ((v50) - (-61)).toNat (by omega) (1) (i42) (v50) (some (eI (v32))) (some (eI (i44))) (by decide) (by omega) (by omega)     rfl
                    · have b50 : 2 ≤ v32 ∧ v32 ≤ 2 := by omega
                      refine w_t (np := 14) (l2 := [some (eI (i20)), some (eI (v32))]) (s2 := [eI (0)]) rfl rfl rfl ?_
                      refine w_go (t1 := 18) rfl rfl ?_
                      refine b_ri rfl rfl ?_
                      show ex_q (dt_fg L ρ) rc (d + 1, (34, 133, [some (eR a0), some (eI (a1)), some (eI (a2)), some (eI (v1)), some (eI (i20)), some (eI (i42)), some (eI (i24)), some (eI (v32)), some (eI (i44))], [eI (0)]), f :: F, μ)
                      refine w_t (np := 135) (l2 := [some (eR a0), some (eI (a1)), some (eI (a2)), some (eI (v1)), some (eI (0)), some (eI (i42)), some (eI (i24)), some (eI (v32)), some (eI (i44))]) (s2 := []) rfl rfl rfl ?_
                      obtain ⟨v50, e51⟩ : ∃ zz : Int, zz = (i24) + (-1) := ⟨_, rfl⟩
                      have b52 : -1 ≤ v50 ∧ v50 ≤ 8 := by omega
                      refine w_t (np := 138) (l2 := [some (eR a0), some (eI (a1)), some (eI (a2)), some (eI (v1)), some (eI (0)), some (eI (i42)), some (eI (v50)), some (eI (v32)), some (eI (i44))]) (s2 := []) rfl (b_iinc rfl (by rw [← e51]; exact ev_w_in (by omega) (by omega)) rfl) rfl ?_
                      refine w_go (t1 := 67) rfl rfl ?_
                      exact ih19 ((v50) - (-61)).toNat (by omega) (0) (i42) (v50) (some (eI (v32))) (some (eI (i44))) (by decide) (by omega) (by omega)     rfl
                  · have b49 : 0 ≤ i20 ∧ i20 ≤ 0 := by omega
                    refine w_t (np := 5) (l2 := [some (eI (i20)), some (eI (v32))]) (s2 := [eI (v32)]) rfl rfl rfl ?_
                    refine w_go (t1 := 18) rfl rfl ?_
                    refine b_ri rfl rfl ?_
                    show ex_q (dt_fg L ρ) rc (d + 1, (34, 133, [some (eR a0), some (eI (a1)), some (eI (a2)), some (eI (v1)), some (eI (i20)), some (eI (i42)), some (eI (i24)), some (eI (v32)), some (eI (i44))], [eI (v32)]), f :: F, μ)
                    refine w_t (np := 135) (l2 := [some (eR a0), some (eI (a1)), some (eI (a2)), some (eI (v1)), some (eI (v32)), some (eI (i42)), some (eI (i24)), some (eI (v32)), some (eI (i44))]) (s2 := []) rfl rfl rfl ?_
                    obtain ⟨v49, e50⟩ : ∃ zz : Int, zz = (i24) + (-1) := ⟨_, rfl⟩
                    have b51 : -1 ≤ v49 ∧ v49 ≤ 8 := by omega
                    refine w_t (np := 138) (l2 := [some (eR a0), some (eI (a1)), some (eI (a2)), some (eI (v1)), some (eI (v32)), some (eI (i42)), some (eI (v49)), some (eI (v32)), some (eI (i44))]) (s2 := []) rfl (b_iinc rfl (by rw [← e50]; exact ev_w_in (by omega) (by omega)) rfl) rfl ?_
                    refine w_go (t1 := 67) rfl rfl ?_
                    exact ih19 ((v49) - (-61)).toNat (by omega) (v32) (i42) (v49) (some (eI (v32))) (some (eI (i44))) (by omega) (by omega) (by omega)     rfl
                · have b48 : 0 ≤ i44 ∧ i44 ≤ 1 := by omega
                  have b49 : 1 ≤ v32 ∧ v32 ≤ 2 := by omega
                  refine w_t (np := 105) (l2 := [some (eR a0), some (eI (a1)), some (eI (a2)), some (eI (v1)), some (eI (i20)), some (eI (i42)), some (eI (i24)), some (eI (v32)), some (eI (i44))]) (s2 := [eI (i42)]) rfl rfl rfl ?_
                  refine w_t (np := 107) (l2 := [some (eR a0), some (eI (a1)), some (eI (a2)), some (eI (v1)), some (eI (i20)), some (eI (i42)), some (eI (i24)), some (eI (v32)), some (eI (i44))]) (s2 := [eI (i20), eI (i42)]) rfl rfl rfl ?_
                  refine w_t (np := 109) (l2 := [some (eR a0), some (eI (a1)), some (eI (a2)), some (eI (v1)), some (eI (i20)), some (eI (i42)), some (eI (i24)), some (eI (v32)), some (eI (i44))]) (s2 := [eI (i44), eI (i20), eI (i42)]) rfl rfl rfl ?_
                  refine w_cu (np := 112) (as := [eI (i20), eI (i44)]) (l2 := [some (eI (i20)), some (eI (i44))]) (rest := [eI (i42)]) rfl rfl rfl (Nat.ble_eq.mp rfl) rfl rfl rfl rfl ?_
                  refine w_t (np := 1) (l2 := [some (eI (i20)), some (eI (i44))]) (s2 := [eI (i20)]) rfl rfl rfl ?_
                  refine b_ine (t1 := 8) (t2 := 4) rfl rfl rfl (ev_w_in (by omega) (by omega)) (fun g48 => ?_) (fun g48 => ?_)
                  · refine w_t (np := 9) (l2 := [some (eI (i20)), some (eI (i44))]) (s2 := [eI (i44)]) rfl rfl rfl ?_
                    refine w_t (np := 10) (l2 := [some (eI (i20)), some (eI (i44))]) (s2 := [eI (2), eI (i44)]) rfl rfl rfl ?_
                    refine b_cne (t1 := 17) (t2 := 13) rfl rfl rfl (ev_w_in (by omega) (by omega)) rfl (fun g49 => ?_) (fun g49 => False.elim (by omega))
                    refine w_t (np := 18) (l2 := [some (eI (i20)), some (eI (i44))]) (s2 := [eI (1)]) rfl rfl rfl ?_
                    refine b_ri rfl rfl ?_
                    show ex_q (dt_fg L ρ) rc (d + 1, (34, 112, [some (eR a0), some (eI (a1)), some (eI (a2)), some (eI (v1)), some (eI (i20)), some (eI (i42)), some (eI (i24)), some (eI (v32)), some (eI (i44))], [eI (1), eI (i42)]), f :: F, μ)
                    refine w_t (np := 114) (l2 := [some (eR a0), some (eI (a1)), some (eI (a2)), some (eI (v1)), some (eI (i20)), some (eI (i42)), some (eI (i24)), some (eI (v32)), some (eI (i44))]) (s2 := [eI (i24), eI (1), eI (i42)]) rfl rfl rfl ?_
                    refine w_cu (np := 117) (as := [eI (1), eI (i24)]) (l2 := [some (eI (1)), some (eI (i24))]) (rest := [eI (i42)]) rfl rfl rfl (Nat.ble_eq.mp rfl) rfl rfl rfl rfl ?_
                    refine s_37 (a0 := 1) (a1 := i24) hI (by decide) (by omega) ?_
                    intro v50 b51
                    show ex_q (dt_fg L ρ) rc (d + 1, (34, 117, [some (eR a0), some (eI (a1)), some (eI (a2)), some (eI (v1)), some (eI (i20)), some (eI (i42)), some (eI (i24)), some (eI (v32)), some (eI (i44))], [eI (v50), eI (i42)]), f :: F, μ)
                    obtain ⟨v52, e53, b54⟩ : ∃ zz : Int, ev_w ((i42) + (v50)) = zz ∧ (-2147483648 ≤ zz ∧ zz ≤ 2147483647) := ⟨_, rfl, hw_bd _⟩
                    refine w_t (np := 118) (l2 := [some (eR a0), some (eI (a1)), some (eI (a2)), some (eI (v1)), some (eI (i20)), some (eI (i42)), some (eI (i24)), some (eI (v32)), some (eI (i44))]) (s2 := [eI (v52)]) rfl (b_iadd e53) rfl ?_
                    refine w_t (np := 120) (l2 := [some (eR a0), some (eI (a1)), some (eI (a2)), some (eI (v1)), some (eI (i20)), some (eI (v52)), some (eI (i24)), some (eI (v32)), some (eI (i44))]) (s2 := []) rfl rfl rfl ?_
                    obtain ⟨v55, e56⟩ : ∃ zz : Int, zz = (i44) + (1) := ⟨_, rfl⟩
                    have b57 : 1 ≤ v55 ∧ v55 ≤ 2 := by omega
                    refine w_t (np := 123) (l2 := [some (eR a0), some (eI (a1)), some (eI (a2)), some (eI (v1)), some (eI (i20)), some (eI (v52)), some (eI (i24)), some (eI (v32)), some (eI (v55))]) (s2 := []) rfl (b_iinc rfl (by rw [← e56]; exact ev_w_in (by omega) (by omega)) rfl) rfl ?_
                    refine w_go (t1 := 96) rfl rfl ?_
                    exact ih41 (2 - (v55)).toNat (by omega) (v52) (v55) (by omega) (by omega)     rfl
                  · have b49 : 0 ≤ i20 ∧ i20 ≤ 0 := by omega
                    refine w_t (np := 5) (l2 := [some (eI (i20)), some (eI (i44))]) (s2 := [eI (i44)]) rfl rfl rfl ?_
                    refine w_go (t1 := 18) rfl rfl ?_
                    refine b_ri rfl rfl ?_
                    show ex_q (dt_fg L ρ) rc (d + 1, (34, 112, [some (eR a0), some (eI (a1)), some (eI (a2)), some (eI (v1)), some (eI (i20)), some (eI (i42)), some (eI (i24)), some (eI (v32)), some (eI (i44))], [eI (i44), eI (i42)]), f :: F, μ)
                    refine w_t (np := 114) (l2 := [some (eR a0), some (eI (a1)), some (eI (a2)), some (eI (v1)), some (eI (i20)), some (eI (i42)), some (eI (i24)), some (eI (v32)), some (eI (i44))]) (s2 := [eI (i24), eI (i44), eI (i42)]) rfl rfl rfl ?_
                    refine w_cu (np := 117) (as := [eI (i44), eI (i24)]) (l2 := [some (eI (i44)), some (eI (i24))]) (rest := [eI (i42)]) rfl rfl rfl (Nat.ble_eq.mp rfl) rfl rfl rfl rfl ?_
                    refine s_37 (a0 := i44) (a1 := i24) hI (by omega) (by omega) ?_
                    intro v49 b50
                    show ex_q (dt_fg L ρ) rc (d + 1, (34, 117, [some (eR a0), some (eI (a1)), some (eI (a2)), some (eI (v1)), some (eI (i20)), some (eI (i42)), some (eI (i24)), some (eI (v32)), some (eI (i44))], [eI (v49), eI (i42)]), f :: F, μ)
                    obtain ⟨v51, e52, b53⟩ : ∃ zz : Int, ev_w ((i42) + (v49)) = zz ∧ (-2147483648 ≤ zz ∧ zz ≤ 2147483647) := ⟨_, rfl, hw_bd _⟩
                    refine w_t (np := 118) (l2 := [some (eR a0), some (eI (a1)), some (eI (a2)), some (eI (v1)), some (eI (i20)), some (eI (i42)), some (eI (i24)), some (eI (v32)), some (eI (i44))]) (s2 := [eI (v51)]) rfl (b_iadd e52) rfl ?_
                    refine w_t (np := 120) (l2 := [some (eR a0), some (eI (a1)), some (eI (a2)), some (eI (v1)), some (eI (i20)), some (eI (v51)), some (eI (i24)), some (eI (v32)), some (eI (i44))]) (s2 := []) rfl rfl rfl ?_
                    obtain ⟨v54, e55⟩ : ∃ zz : Int, zz = (i44) + (1) := ⟨_, rfl⟩
                    have b56 : 1 ≤ v54 ∧ v54 ≤ 2 := by omega
                    refine w_t (np := 123) (l2 := [some (eR a0), some (eI (a1)), some (eI (a2)), some (eI (v1)), some (eI (i20)), some (eI (v51)), some (eI (i24)), some (eI (v32)), some (eI (v54))]) (s2 := []) rfl (b_iinc rfl (by rw [← e55]; exact ev_w_in (by omega) (by omega)) rfl) rfl ?_
                    refine w_go (t1 := 96) rfl rfl ?_
                    exact ih41 (2 - (v54)).toNat (by omega) (v51) (v54) (by omega) (by omega)     rfl
              exact hL96 _ (i22) (0) (by omega) (by decide)     rfl
            · have b40 : -9 ≤ v36 ∧ v36 ≤ 1 := by omega
              refine w_t (np := 92) (l2 := [some (eR a0), some (eI (a1)), some (eI (a2)), some (eI (v1)), some (eI (i20)), some (eI (i22)), some (eI (i24)), some (eI (v32)), o27]) (s2 := [eI (-1)]) rfl rfl rfl ?_
              exact b_ri rfl rfl (K (-1) (by decide))
        exact hL67 _ (1) (v12) (v15) (none) (none) (by decide) (by omega) (by omega)     rfl
      · have b10 : 2 ≤ v1 ∧ v1 ≤ 2147483647 := by omega
        refine w_t (np := 51) (l2 := [some (eR a0), some (eI (a1)), some (eI (a2)), some (eI (v1)), some (eI (1)), none, none, none, none]) (s2 := [eI (-1)]) rfl rfl rfl ?_
        exact b_ri rfl rfl (K (-1) (by decide))
  · have b7 : 0 ≤ v3 ∧ v3 ≤ 1 := by omega
    refine w_t (np := 15) (l2 := [some (eR a0), some (eI (a1)), some (eI (a2)), some (eI (v1)), none, none, none, none, none]) (s2 := [eI (0)]) rfl rfl rfl ?_
    refine w_go (t1 := 19) rfl rfl ?_
    refine w_t (np := 21) (l2 := [some (eR a0), some (eI (a1)), some (eI (a2)), some (eI (v1)), some (eI (0)), none, none, none, none]) (s2 := []) rfl rfl rfl ?_
    refine w_t (np := 22) (l2 := [some (eR a0), some (eI (a1)), some (eI (a2)), some (eI (v1)), some (eI (0)), none, none, none, none]) (s2 := [eI (v1)]) rfl rfl rfl ?_
    refine w_t (np := 23) (l2 := [some (eR a0), some (eI (a1)), some (eI (a2)), some (eI (v1)), some (eI (0)), none, none, none, none]) (s2 := [eR a0, eI (v1)]) rfl (s_an rfl (pos_g hI gA0 (by decide))) rfl ?_
    refine w_gf (np := 26) (v := eI (v3)) rfl rfl (hI.kd gA0 (by decide) (n := 8) rfl) (by rw [e4]; rfl) ?_
    refine b_ine (t1 := 34) (t2 := 29) rfl rfl rfl (ev_w_in (by omega) (by omega)) (fun g7 => ?_) (fun g7 => ?_)
    · have b8 : 1 ≤ v3 ∧ v3 ≤ 1 := by omega
      refine w_t (np := 35) (l2 := [some (eR a0), some (eI (a1)), some (eI (a2)), some (eI (v1)), some (eI (0)), none, none, none, none]) (s2 := [eR a0, eI (v1)]) rfl (s_an rfl (pos_g hI gA0 (by decide))) rfl ?_
      refine w_gf (np := 38) (v := eI (v3)) rfl rfl (hI.kd gA0 (by decide) (n := 8) rfl) (by rw [e4]; rfl) ?_
      refine w_t (np := 39) (l2 := [some (eR a0), some (eI (a1)), some (eI (a2)), some (eI (v1)), some (eI (0)), none, none, none, none]) (s2 := [eI (3), eI (v3), eI (v1)]) rfl rfl rfl ?_
      refine b_cne (t1 := 46) (t2 := 42) rfl rfl rfl (ev_w_in (by omega) (by omega)) rfl (fun g8 => ?_) (fun g8 => False.elim (by omega))
      refine w_t (np := 47) (l2 := [some (eR a0), some (eI (a1)), some (eI (a2)), some (eI (v1)), some (eI (0)), none, none, none, none]) (s2 := [eI (1), eI (v1)]) rfl rfl rfl ?_
      refine b_clt (t1 := 52) (t2 := 50) rfl rfl rfl (ev_w_in (by omega) (by omega)) rfl (fun g9 => ?_) (fun g9 => ?_)
      · have b10 : -2147483648 ≤ v1 ∧ v1 ≤ 0 := by omega
        refine w_t (np := 53) (l2 := [some (eR a0), some (eI (a1)), some (eI (a2)), some (eI (v1)), some (eI (0)), none, none, none, none]) (s2 := [eI (v1)]) rfl rfl rfl ?_
        refine w_t (np := 55) (l2 := [some (eR a0), some (eI (a1)), some (eI (a2)), some (eI (v1)), some (eI (0)), none, none, none, none]) (s2 := [eI (0), eI (v1)]) rfl rfl rfl ?_
        refine w_t (np := 56) (l2 := [some (eR a0), some (eI (a1)), some (eI (a2)), some (eI (v1)), some (eI (0)), none, none, none, none]) (s2 := [eI (a2), eI (0), eI (v1)]) rfl rfl rfl ?_
        refine w_cu (np := 59) (as := [eI (0), eI (a2)]) (l2 := [some (eI (0)), some (eI (a2))]) (rest := [eI (v1)]) rfl rfl rfl (Nat.ble_eq.mp rfl) rfl rfl rfl rfl ?_
        refine s_37 (a0 := 0) (a1 := a2) hI (by decide) (by omega) ?_
        intro v10 b11
        show ex_q (dt_fg L ρ) rc (d + 1, (34, 59, [some (eR a0), some (eI (a1)), some (eI (a2)), some (eI (v1)), some (eI (0)), none, none, none, none], [eI (v10), eI (v1)]), f :: F, μ)
        obtain ⟨v12, e13, b14⟩ : ∃ zz : Int, ev_w ((v1) * (v10)) = zz ∧ (-2147483648 ≤ zz ∧ zz ≤ 2147483647) := ⟨_, rfl, hw_bd _⟩
        refine w_t (np := 60) (l2 := [some (eR a0), some (eI (a1)), some (eI (a2)), some (eI (v1)), some (eI (0)), none, none, none, none]) (s2 := [eI (v12)]) rfl (b_imul e13) rfl ?_
        refine w_t (np := 62) (l2 := [some (eR a0), some (eI (a1)), some (eI (a2)), some (eI (v1)), some (eI (0)), some (eI (v12)), none, none, none]) (s2 := []) rfl rfl rfl ?_
        refine w_t (np := 63) (l2 := [some (eR a0), some (eI (a1)), some (eI (a2)), some (eI (v1)), some (eI (0)), some (eI (v12)), none, none, none]) (s2 := [eI (a2)]) rfl rfl rfl ?_
        refine w_t (np := 64) (l2 := [some (eR a0), some (eI (a1)), some (eI (a2)), some (eI (v1)), some (eI (0)), some (eI (v12)), none, none, none]) (s2 := [eI (1), eI (a2)]) rfl rfl rfl ?_
        obtain ⟨v15, e16⟩ : ∃ zz : Int, zz = (a2) - (1) := ⟨_, rfl⟩
        have b17 : -61 ≤ v15 ∧ v15 ≤ 9 := by omega
        refine w_t (np := 65) (l2 := [some (eR a0), some (eI (a1)), some (eI (a2)), some (eI (v1)), some (eI (0)), some (eI (v12)), none, none, none]) (s2 := [eI (v15)]) rfl (b_isub (by rw [← e16]; exact ev_w_in (by omega) (by omega))) rfl ?_
        refine w_t (np := 67) (l2 := [some (eR a0), some (eI (a1)), some (eI (a2)), some (eI (v1)), some (eI (0)), some (eI (v12)), some (eI (v15)), none, none]) (s2 := []) rfl rfl rfl ?_
        have hL67 : ∀ (n18 : Nat) (i20 : Int) (i22 : Int) (i24 : Int) (o26 : Option eV) (o27 : Option eV), (-10 ≤ i20 ∧ i20 ≤ 2) → (-2147483648 ≤ i22 ∧ i22 ≤ 2147483647) → (-61 ≤ i24 ∧ i24 ≤ 9) → n18 = (i24 - (-61)).toNat → ex_q (dt_fg L ρ) rc (d + 1, (34, 67, [some (eR a0), some (eI (a1)), some (eI (a2)), some (eI (v1)), some (eI (i20)), some (eI (i22)), some (eI (i24)), o26, o27], []), f :: F, μ) := by
          intro n18
          induction n18 using Nat.strongRecOn with
          | _ n18 ih19 =>
          intro i20 i22 i24 o26 o27 b21 b23 b25 hn28
          refine w_t (np := 69) (l2 := [some (eR a0), some (eI (a1)), some (eI (a2)), some (eI (v1)), some (eI (i20)), some (eI (i22)), some (eI (i24)), o26, o27]) (s2 := [eI (i24)]) rfl rfl rfl ?_
          refine b_ilt (t1 := 141) (t2 := 72) rfl rfl rfl (ev_w_in (by omega) (by omega)) (fun g29 => ?_) (fun g29 => ?_)
          · have b30 : -61 ≤ i24 ∧ i24 ≤ -1 := by omega
            refine w_t (np := 143) (l2 := [some (eR a0), some (eI (a1)), some (eI (a2)), some (eI (v1)), some (eI (i20)), some (eI (i22)), some (eI (i24)), o26, o27]) (s2 := [eI (i22)]) rfl rfl rfl ?_
            exact b_ri rfl rfl (K (i22) (by omega))
          · have b30 : 0 ≤ i24 ∧ i24 ≤ 9 := by omega
            refine w_t (np := 73) (l2 := [some (eR a0), some (eI (a1)), some (eI (a2)), some (eI (v1)), some (eI (i20)), some (eI (i22)), some (eI (i24)), o26, o27]) (s2 := [eI (a1)]) rfl rfl rfl ?_
            refine w_t (np := 75) (l2 := [some (eR a0), some (eI (a1)), some (eI (a2)), some (eI (v1)), some (eI (i20)), some (eI (i22)), some (eI (i24)), o26, o27]) (s2 := [eI (i24), eI (a1)]) rfl rfl rfl ?_
            refine w_cu (np := 78) (as := [eI (a1), eI (i24)]) (l2 := [some (eI (a1)), some (eI (i24)), none, none]) (rest := []) rfl rfl rfl (Nat.ble_eq.mp rfl) rfl rfl rfl rfl ?_
            refine s_35 (a0 := a1) (a1 := i24) hI (by omega) (by omega) ?_
            intro v30 b31
            show ex_q (dt_fg L ρ) rc (d + 1, (34, 78, [some (eR a0), some (eI (a1)), some (eI (a2)), some (eI (v1)), some (eI (i20)), some (eI (i22)), some (eI (i24)), o26, o27], [eI (v30)]), f :: F, μ)
            refine w_t (np := 79) (l2 := [some (eR a0), some (eI (a1)), some (eI (a2)), some (eI (v1)), some (eI (i20)), some (eI (i22)), some (eI (i24)), o26, o27]) (s2 := [eI (3), eI (v30)]) rfl rfl rfl ?_
            obtain ⟨v32, e33, b34⟩ := h_irem (a := v30) (k := 3) (by decide) (by decide) b31
            have b35 : -2 ≤ v32 ∧ v32 ≤ 2 := by omega
            refine w_t (np := 80) (l2 := [some (eR a0), some (eI (a1)), some (eI (a2)), some (eI (v1)), some (eI (i20)), some (eI (i22)), some (eI (i24)), o26, o27]) (s2 := [eI (v32)]) rfl (e33 _ _) rfl ?_
            refine w_t (np := 82) (l2 := [some (eR a0), some (eI (a1)), some (eI (a2)), some (eI (v1)), some (eI (i20)), some (eI (i22)), some (eI (i24)), some (eI (v32)), o27]) (s2 := []) rfl rfl rfl ?_
            refine w_t (np := 84) (l2 := [some (eR a0), some (eI (a1)), some (eI (a2)), some (eI (v1)), some (eI (i20)), some (eI (i22)), some (eI (i24)), some (eI (v32)), o27]) (s2 := [eI (v32)]) rfl rfl rfl ?_
            refine w_t (np := 86) (l2 := [some (eR a0), some (eI (a1)), some (eI (a2)), some (eI (v1)), some (eI (i20)), some (eI (i22)), some (eI (i24)), some (eI (v32)), o27]) (s2 := [eI (i20), eI (v32)]) rfl rfl rfl ?_
            refine w_t (np := 87) (l2 := [some (eR a0), some (eI (a1)), some (eI (a2)), some (eI (v1)), some (eI (i20)), some (eI (i22)), some (eI (i24)), some (eI (v32)), o27]) (s2 := [eI (1), eI (i20), eI (v32)]) rfl rfl rfl ?_
            obtain ⟨v36, e37⟩ : ∃ zz : Int, zz = (i20) + (1) := ⟨_, rfl⟩
            have b38 : -9 ≤ v36 ∧ v36 ≤ 3 := by omega
            refine w_t (np := 88) (l2 := [some (eR a0), some (eI (a1)), some (eI (a2)), some (eI (v1)), some (eI (i20)), some (eI (i22)), some (eI (i24)), some (eI (v32)), o27]) (s2 := [eI (v36), eI (v32)]) rfl (b_iadd (by rw [← e37]; exact ev_w_in (by omega) (by omega))) rfl ?_
            refine b_cle (t1 := 93) (t2 := 91) rfl rfl rfl (ev_w_in (by omega) (by omega)) (ev_w_in (by omega) (by omega)) (fun g39 => ?_) (fun g39 => ?_)
            · have b40 : -2 ≤ v36 ∧ v36 ≤ 3 := by omega
              refine w_t (np := 94) (l2 := [some (eR a0), some (eI (a1)), some (eI (a2)), some (eI (v1)), some (eI (i20)), some (eI (i22)), some (eI (i24)), some (eI (v32)), o27]) (s2 := [eI (0)]) rfl rfl rfl ?_
              refine w_t (np := 96) (l2 := [some (eR a0), some (eI (a1)), some (eI (a2)), some (eI (v1)), some (eI (i20)), some (eI (i22)), some (eI (i24)), some (eI (v32)), some (eI (0))]) (s2 := []) rfl rfl rfl ?_
              have hL96 : ∀ (n40 : Nat) (i42 : Int) (i44 : Int), (-2147483648 ≤ i42 ∧ i42 ≤ 2147483647) → (0 ≤ i44 ∧ i44 ≤ 2) → n40 = (2 - i44).toNat → ex_q (dt_fg L ρ) rc (d + 1, (34, 96, [some (eR a0), some (eI (a1)), some (eI (a2)), some (eI (v1)), some (eI (i20)), some (eI (i42)), some (eI (i24)), some (eI (v32)), some (eI (i44))], []), f :: F, μ) := by
                intro n40
                induction n40 using Nat.strongRecOn with
                | _ n40 ih41 =>
                intro i42 i44 b43 b45 hn46
                refine w_t (np := 98) (l2 := [some (eR a0), some (eI (a1)), some (eI (a2)), some (eI (v1)), some (eI (i20)), some (eI (i42)), some (eI (i24)), some (eI (v32)), some (eI (i44))]) (s2 := [eI (i44)]) rfl rfl rfl ?_
                refine w_t (np := 100) (l2 := [some (eR a0), some (eI (a1)), some (eI (a2)), some (eI (v1)), some (eI (i20)), some (eI (i42)), some (eI (i24)), some (eI (v32)), some (eI (i44))]) (s2 := [eI (v32), eI (i44)]) rfl rfl rfl ?_
                refine b_cge (t1 := 126) (t2 := 103) rfl rfl rfl (ev_w_in (by omega) (by omega)) (ev_w_in (by omega) (by omega)) (fun g47 => ?_) (fun g47 => ?_)
                · refine w_t (np := 128) (l2 := [some (eR a0), some (eI (a1)), some (eI (a2)), some (eI (v1)), some (eI (i20)), some (eI (i42)), some (eI (i24)), some (eI (v32)), some (eI (i44))]) (s2 := [eI (i20)]) rfl rfl rfl ?_
                  refine w_t (np := 130) (l2 := [some (eR a0), some (eI (a1)), some (eI (a2)), some (eI (v1)), some (eI (i20)), some (eI (i42)), some (eI (i24)), some (eI (v32)), some (eI (i44))]) (s2 := [eI (v32), eI (i20)]) rfl rfl rfl ?_
                  refine w_cu (np := 133) (as := [eI (i20), eI (v32)]) (l2 := [some (eI (i20)), some (eI (v32))]) (rest := []) rfl rfl rfl (Nat.ble_eq.mp rfl) rfl rfl rfl rfl ?_
                  refine w_t (np := 1) (l2 := [some (eI (i20)), some (eI (v32))]) (s2 := [eI (i20)]) rfl rfl rfl ?_
                  refine b_ine (t1 := 8) (t2 := 4) rfl rfl rfl (ev_w_in (by omega) (by omega)) (fun g48 => ?_) (fun g48 => ?_)
                  · refine w_t (np := 9) (l2 := [some (eI (i20)), some (eI (v32))]) (s2 := [eI (v32)]) rfl rfl rfl ?_
                    refine w_t (np := 10) (l2 := [some (eI (i20)), some (eI (v32))]) (s2 := [eI (2), eI (v32)]) rfl rfl rfl ?_
                    refine b_cne (t1 := 17) (t2 := 13) rfl rfl rfl (ev_w_in (by omega) (by omega)) rfl (fun g49 => ?_) (fun g49 => ?_)
                    · have b50 : -2 ≤ v32 ∧ v32 ≤ 1 := by omega
                      refine w_t (np := 18) (l2 := [some (eI (i20)), some (eI (v32))]) (s2 := [eI (1)]) rfl rfl rfl ?_
                      refine b_ri rfl rfl ?_
                      show ex_q (dt_fg L ρ) rc (d + 1, (34, 133, [some (eR a0), some (eI (a1)), some (eI (a2)), some (eI (v1)), some (eI (i20)), some (eI (i42)), some (eI (i24)), some (eI (v32)), some (eI (i44))], [eI (1)]), f :: F, μ)
                      refine w_t (np := 135) (l2 := [some (eR a0), some (eI (a1)), some (eI (a2)), some (eI (v1)), some (eI (1)), some (eI (i42)), some (eI (i24)), some (eI (v32)), some (eI (i44))]) (s2 := []) rfl rfl rfl ?_
                      obtain ⟨v50, e51⟩ : ∃ zz : Int, zz = (i24) + (-1) := ⟨_, rfl⟩
                      have b52 : -1 ≤ v50 ∧ v50 ≤ 8 := by omega
                      refine w_t (np := 138) (l2 := [some (eR a0), some (eI (a1)), some (eI (a2)), some (eI (v1)), some (eI (1)), some (eI (i42)), some (eI (v50)), some (eI (v32)), some (eI (i44))]) (s2 := []) rfl (b_iinc rfl (by rw [← e51]; exact ev_w_in (by omega) (by omega)) rfl) rfl ?_
                      refine w_go (t1 := 67) rfl rfl ?_
                      exact ih19 ((v50) - (-61)).toNat (by omega) (1) (i42) (v50) (some (eI (v32))) (some (eI (i44))) (by decide) (by omega) (by omega)     rfl
                    · have b50 : 2 ≤ v32 ∧ v32 ≤ 2 := by omega
                      refine w_t (np := 14) (l2 := [some (eI (i20)), some (eI (v32))]) (s2 := [eI (0)]) rfl rfl rfl ?_
                      refine w_go (t1 := 18) rfl rfl ?_
                      refine b_ri rfl rfl ?_
                      show ex_q (dt_fg L ρ) rc (d + 1, (34, 133, [some (eR a0), some (eI (a1)), some (eI (a2)), some (eI (v1)), some (eI (i20)), some (eI (i42)), some (eI (i24)), some (eI (v32)), some (eI (i44))], [eI (0)]), f :: F, μ)
                      refine w_t (np := 135) (l2 := [some (eR a0), some (eI (a1)), some (eI (a2)), some (eI (v1)), some (eI (0)), some (eI (i42)), some (eI (i24)), some (eI (v32)), some (eI (i44))]) (s2 := []) rfl rfl rfl ?_
                      obtain ⟨v50, e51⟩ : ∃ zz : Int, zz = (i24) + (-1) := ⟨_, rfl⟩
                      have b52 : -1 ≤ v50 ∧ v50 ≤ 8 := by omega
                      refine w_t (np := 138) (l2 := [some (eR a0), some (eI (a1)), some (eI (a2)), some (eI (v1)), some (eI (0)), some (eI (i42)), some (eI (v50)), some (eI (v32)), some (eI (i44))]) (s2 := []) rfl (b_iinc rfl (by rw [← e51]; exact ev_w_in (by omega) (by omega)) rfl) rfl ?_
                      refine w_go (t1 := 67) rfl rfl ?_
                      exact ih19 ((v50) - (-61)).toNat (by omega) (0) (i42) (v50) (some (eI (v32))) (some (eI (i44))) (by decide) (by omega) (by omega)     rfl
                  · have b49 : 0 ≤ i20 ∧ i20 ≤ 0 := by omega
                    refine w_t (np := 5) (l2 := [some (eI (i20)), some (eI (v32))]) (s2 := [eI (v32)]) rfl rfl rfl ?_
                    refine w_go (t1 := 18) rfl rfl ?_
                    refine b_ri rfl rfl ?_
                    show ex_q (dt_fg L ρ) rc (d + 1, (34, 133, [some (eR a0), some (eI (a1)), some (eI (a2)), some (eI (v1)), some (eI (i20)), some (eI (i42)), some (eI (i24)), some (eI (v32)), some (eI (i44))], [eI (v32)]), f :: F, μ)
                    refine w_t (np := 135) (l2 := [some (eR a0), some (eI (a1)), some (eI (a2)), some (eI (v1)), some (eI (v32)), some (eI (i42)), some (eI (i24)), some (eI (v32)), some (eI (i44))]) (s2 := []) rfl rfl rfl ?_
                    obtain ⟨v49, e50⟩ : ∃ zz : Int, zz = (i24) + (-1) := ⟨_, rfl⟩
                    have b51 : -1 ≤ v49 ∧ v49 ≤ 8 := by omega
                    refine w_t (np := 138) (l2 := [some (eR a0), some (eI (a1)), some (eI (a2)), some (eI (v1)), some (eI (v32)), some (eI (i42)), some (eI (v49)), some (eI (v32)), some (eI (i44))]) (s2 := []) rfl (b_iinc rfl (by rw [← e50]; exact ev_w_in (by omega) (by omega)) rfl) rfl ?_
                    refine w_go (t1 := 67) rfl rfl ?_
                    exact ih19 ((v49) - (-61)).toNat (by omega) (v32) (i42) (v49) (some (eI (v32))) (some (eI (i44))) (by omega) (by omega) (by omega)     rfl
                · have b48 : 0 ≤ i44 ∧ i44 ≤ 1 := by omega
                  have b49 : 1 ≤ v32 ∧ v32 ≤ 2 := by omega
                  refine w_t (np := 105) (l2 := [some (eR a0), some (eI (a1)), some (eI (a2)), some (eI (v1)), some (eI (i20)), some (eI (i42)), some (eI (i24)), some (eI (v32)), some (eI (i44))]) (s2 := [eI (i42)]) rfl rfl rfl ?_
                  refine w_t (np := 107) (l2 := [some (eR a0), some (eI (a1)), some (eI (a2)), some (eI (v1)), some (eI (i20)), some (eI (i42)), some (eI (i24)), some (eI (v32)), some (eI (i44))]) (s2 := [eI (i20), eI (i42)]) rfl rfl rfl ?_
                  refine w_t (np := 109) (l2 := [some (eR a0), some (eI (a1)), some (eI (a2)), some (eI (v1)), some (eI (i20)), some (eI (i42)), some (eI (i24)), some (eI (v32)), some (eI (i44))]) (s2 := [eI (i44), eI (i20), eI (i42)]) rfl rfl rfl ?_
                  refine w_cu (np := 112) (as := [eI (i20), eI (i44)]) (l2 := [some (eI (i20)), some (eI (i44))]) (rest := [eI (i42)]) rfl rfl rfl (Nat.ble_eq.mp rfl) rfl rfl rfl rfl ?_
                  refine w_t (np := 1) (l2 := [some (eI (i20)), some (eI (i44))]) (s2 := [eI (i20)]) rfl rfl rfl ?_
                  refine b_ine (t1 := 8) (t2 := 4) rfl rfl rfl (ev_w_in (by omega) (by omega)) (fun g48 => ?_) (fun g48 => ?_)
                  · refine w_t (np := 9) (l2 := [some (eI (i20)), some (eI (i44))]) (s2 := [eI (i44)]) rfl rfl rfl ?_
                    refine w_t (np := 10) (l2 := [some (eI (i20)), some (eI (i44))]) (s2 := [eI (2), eI (i44)]) rfl rfl rfl ?_
                    refine b_cne (t1 := 17) (t2 := 13) rfl rfl rfl (ev_w_in (by omega) (by omega)) rfl (fun g49 => ?_) (fun g49 => False.elim (by omega))
                    refine w_t (np := 18) (l2 := [some (eI (i20)), some (eI (i44))]) (s2 := [eI (1)]) rfl rfl rfl ?_
                    refine b_ri rfl rfl ?_
                    show ex_q (dt_fg L ρ) rc (d + 1, (34, 112, [some (eR a0), some (eI (a1)), some (eI (a2)), some (eI (v1)), some (eI (i20)), some (eI (i42)), some (eI (i24)), some (eI (v32)), some (eI (i44))], [eI (1), eI (i42)]), f :: F, μ)
                    refine w_t (np := 114) (l2 := [some (eR a0), some (eI (a1)), some (eI (a2)), some (eI (v1)), some (eI (i20)), some (eI (i42)), some (eI (i24)), some (eI (v32)), some (eI (i44))]) (s2 := [eI (i24), eI (1), eI (i42)]) rfl rfl rfl ?_
                    refine w_cu (np := 117) (as := [eI (1), eI (i24)]) (l2 := [some (eI (1)), some (eI (i24))]) (rest := [eI (i42)]) rfl rfl rfl (Nat.ble_eq.mp rfl) rfl rfl rfl rfl ?_
                    refine s_37 (a0 := 1) (a1 := i24) hI (by decide) (by omega) ?_
                    intro v50 b51
                    show ex_q (dt_fg L ρ) rc (d + 1, (34, 117, [some (eR a0), some (eI (a1)), some (eI (a2)), some (eI (v1)), some (eI (i20)), some (eI (i42)), some (eI (i24)), some (eI (v32)), some (eI (i44))], [eI (v50), eI (i42)]), f :: F, μ)
                    obtain ⟨v52, e53, b54⟩ : ∃ zz : Int, ev_w ((i42) + (v50)) = zz ∧ (-2147483648 ≤ zz ∧ zz ≤ 2147483647) := ⟨_, rfl, hw_bd _⟩
                    refine w_t (np := 118) (l2 := [some (eR a0), some (eI (a1)), some (eI (a2)), some (eI (v1)), some (eI (i20)), some (eI (i42)), some (eI (i24)), some (eI (v32)), some (eI (i44))]) (s2 := [eI (v52)]) rfl (b_iadd e53) rfl ?_
                    refine w_t (np := 120) (l2 := [some (eR a0), some (eI (a1)), some (eI (a2)), some (eI (v1)), some (eI (i20)), some (eI (v52)), some (eI (i24)), some (eI (v32)), some (eI (i44))]) (s2 := []) rfl rfl rfl ?_
                    obtain ⟨v55, e56⟩ : ∃ zz : Int, zz = (i44) + (1) := ⟨_, rfl⟩
                    have b57 : 1 ≤ v55 ∧ v55 ≤ 2 := by omega
                    refine w_t (np := 123) (l2 := [some (eR a0), some (eI (a1)), some (eI (a2)), some (eI (v1)), some (eI (i20)), some (eI (v52)), some (eI (i24)), some (eI (v32)), some (eI (v55))]) (s2 := []) rfl (b_iinc rfl (by rw [← e56]; exact ev_w_in (by omega) (by omega)) rfl) rfl ?_
                    refine w_go (t1 := 96) rfl rfl ?_
                    exact ih41 (2 - (v55)).toNat (by omega) (v52) (v55) (by omega) (by omega)     rfl
                  · have b49 : 0 ≤ i20 ∧ i20 ≤ 0 := by omega
                    refine w_t (np := 5) (l2 := [some (eI (i20)), some (eI (i44))]) (s2 := [eI (i44)]) rfl rfl rfl ?_
                    refine w_go (t1 := 18) rfl rfl ?_
                    refine b_ri rfl rfl ?_
                    show ex_q (dt_fg L ρ) rc (d + 1, (34, 112, [some (eR a0), some (eI (a1)), some (eI (a2)), some (eI (v1)), some (eI (i20)), some (eI (i42)), some (eI (i24)), some (eI (v32)), some (eI (i44))], [eI (i44), eI (i42)]), f :: F, μ)
                    refine w_t (np := 114) (l2 := [some (eR a0), some (eI (a1)), some (eI (a2)), some (eI (v1)), some (eI (i20)), some (eI (i42)), some (eI (i24)), some (eI (v32)), some (eI (i44))]) (s2 := [eI (i24), eI (i44), eI (i42)]) rfl rfl rfl ?_
                    refine w_cu (np := 117) (as := [eI (i44), eI (i24)]) (l2 := [some (eI (i44)), some (eI (i24))]) (rest := [eI (i42)]) rfl rfl rfl (Nat.ble_eq.mp rfl) rfl rfl rfl rfl ?_
                    refine s_37 (a0 := i44) (a1 := i24) hI (by omega) (by omega) ?_
                    intro v49 b50
                    show ex_q (dt_fg L ρ) rc (d + 1, (34, 117, [some (eR a0), some (eI (a1)), some (eI (a2)), some (eI (v1)), some (eI (i20)), some (eI (i42)), some (eI (i24)), some (eI (v32)), some (eI (i44))], [eI (v49), eI (i42)]), f :: F, μ)
                    obtain ⟨v51, e52, b53⟩ : ∃ zz : Int, ev_w ((i42) + (v49)) = zz ∧ (-2147483648 ≤ zz ∧ zz ≤ 2147483647) := ⟨_, rfl, hw_bd _⟩
                    refine w_t (np := 118) (l2 := [some (eR a0), some (eI (a1)), some (eI (a2)), some (eI (v1)), some (eI (i20)), some (eI (i42)), some (eI (i24)), some (eI (v32)), some (eI (i44))]) (s2 := [eI (v51)]) rfl (b_iadd e52) rfl ?_
                    refine w_t (np := 120) (l2 := [some (eR a0), some (eI (a1)), some (eI (a2)), some (eI (v1)), some (eI (i20)), some (eI (v51)), some (eI (i24)), some (eI (v32)), some (eI (i44))]) (s2 := []) rfl rfl rfl ?_
                    obtain ⟨v54, e55⟩ : ∃ zz : Int, zz = (i44) + (1) := ⟨_, rfl⟩
                    have b56 : 1 ≤ v54 ∧ v54 ≤ 2 := by omega
                    refine w_t (np := 123) (l2 := [some (eR a0), some (eI (a1)), some (eI (a2)), some (eI (v1)), some (eI (i20)), some (eI (v51)), some (eI (i24)), some (eI (v32)), some (eI (v54))]) (s2 := []) rfl (b_iinc rfl (by rw [← e55]; exact ev_w_in (by omega) (by omega)) rfl) rfl ?_
                    refine w_go (t1 := 96) rfl rfl ?_
                    exact ih41 (2 - (v54)).toNat (by omega) (v51) (v54) (by omega) (by omega)     rfl
              exact hL96 _ (i22) (0) (by omega) (by decide)     rfl
            · have b40 : -9 ≤ v36 ∧ v36 ≤ 1 := by omega
              refine w_t (np := 92) (l2 := [some (eR a0), some (eI (a1)), some (eI (a2)), some (eI (v1)), some (eI (i20)), some (eI (i22)), some (eI (i24)), some (eI (v32)), o27]) (s2 := [eI (-1)]) rfl rfl rfl ?_
              exact b_ri rfl rfl (K (-1) (by decide))
        exact hL67 _ (0) (v12) (v15) (none) (none) (by decide) (by omega) (by omega)     rfl
      · have b10 : 1 ≤ v1 ∧ v1 ≤ 2147483647 := by omega
        refine w_t (np := 51) (l2 := [some (eR a0), some (eI (a1)), some (eI (a2)), some (eI (v1)), some (eI (0)), none, none, none, none]) (s2 := [eI (-1)]) rfl rfl rfl ?_
        exact b_ri rfl rfl (K (-1) (by decide))
    · have b8 : 0 ≤ v3 ∧ v3 ≤ 0 := by omega
      refine w_t (np := 31) (l2 := [some (eR a0), some (eI (a1)), some (eI (a2)), some (eI (v1)), some (eI (0)), none, none, none, none]) (s2 := [eI (10), eI (v1)]) rfl rfl rfl ?_
      refine w_go (t1 := 47) rfl rfl ?_
      refine b_clt (t1 := 52) (t2 := 50) rfl rfl rfl (ev_w_in (by omega) (by omega)) rfl (fun g8 => ?_) (fun g8 => ?_)
      · have b9 : -2147483648 ≤ v1 ∧ v1 ≤ 9 := by omega
        refine w_t (np := 53) (l2 := [some (eR a0), some (eI (a1)), some (eI (a2)), some (eI (v1)), some (eI (0)), none, none, none, none]) (s2 := [eI (v1)]) rfl rfl rfl ?_
        refine w_t (np := 55) (l2 := [some (eR a0), some (eI (a1)), some (eI (a2)), some (eI (v1)), some (eI (0)), none, none, none, none]) (s2 := [eI (0), eI (v1)]) rfl rfl rfl ?_
        refine w_t (np := 56) (l2 := [some (eR a0), some (eI (a1)), some (eI (a2)), some (eI (v1)), some (eI (0)), none, none, none, none]) (s2 := [eI (a2), eI (0), eI (v1)]) rfl rfl rfl ?_
        refine w_cu (np := 59) (as := [eI (0), eI (a2)]) (l2 := [some (eI (0)), some (eI (a2))]) (rest := [eI (v1)]) rfl rfl rfl (Nat.ble_eq.mp rfl) rfl rfl rfl rfl ?_
        refine s_37 (a0 := 0) (a1 := a2) hI (by decide) (by omega) ?_
        intro v9 b10
        show ex_q (dt_fg L ρ) rc (d + 1, (34, 59, [some (eR a0), some (eI (a1)), some (eI (a2)), some (eI (v1)), some (eI (0)), none, none, none, none], [eI (v9), eI (v1)]), f :: F, μ)
        obtain ⟨v11, e12, b13⟩ : ∃ zz : Int, ev_w ((v1) * (v9)) = zz ∧ (-2147483648 ≤ zz ∧ zz ≤ 2147483647) := ⟨_, rfl, hw_bd _⟩
        refine w_t (np := 60) (l2 := [some (eR a0), some (eI (a1)), some (eI (a2)), some (eI (v1)), some (eI (0)), none, none, none, none]) (s2 := [eI (v11)]) rfl (b_imul e12) rfl ?_
        refine w_t (np := 62) (l2 := [some (eR a0), some (eI (a1)), some (eI (a2)), some (eI (v1)), some (eI (0)), some (eI (v11)), none, none, none]) (s2 := []) rfl rfl rfl ?_
        refine w_t (np := 63) (l2 := [some (eR a0), some (eI (a1)), some (eI (a2)), some (eI (v1)), some (eI (0)), some (eI (v11)), none, none, none]) (s2 := [eI (a2)]) rfl rfl rfl ?_
        refine w_t (np := 64) (l2 := [some (eR a0), some (eI (a1)), some (eI (a2)), some (eI (v1)), some (eI (0)), some (eI (v11)), none, none, none]) (s2 := [eI (1), eI (a2)]) rfl rfl rfl ?_
        obtain ⟨v14, e15⟩ : ∃ zz : Int, zz = (a2) - (1) := ⟨_, rfl⟩
        have b16 : -61 ≤ v14 ∧ v14 ≤ 9 := by omega
        refine w_t (np := 65) (l2 := [some (eR a0), some (eI (a1)), some (eI (a2)), some (eI (v1)), some (eI (0)), some (eI (v11)), none, none, none]) (s2 := [eI (v14)]) rfl (b_isub (by rw [← e15]; exact ev_w_in (by omega) (by omega))) rfl ?_
        refine w_t (np := 67) (l2 := [some (eR a0), some (eI (a1)), some (eI (a2)), some (eI (v1)), some (eI (0)), some (eI (v11)), some (eI (v14)), none, none]) (s2 := []) rfl rfl rfl ?_
        have hL67 : ∀ (n17 : Nat) (i19 : Int) (i21 : Int) (i23 : Int) (o25 : Option eV) (o26 : Option eV), (-10 ≤ i19 ∧ i19 ≤ 2) → (-2147483648 ≤ i21 ∧ i21 ≤ 2147483647) → (-61 ≤ i23 ∧ i23 ≤ 9) → n17 = (i23 - (-61)).toNat → ex_q (dt_fg L ρ) rc (d + 1, (34, 67, [some (eR a0), some (eI (a1)), some (eI (a2)), some (eI (v1)), some (eI (i19)), some (eI (i21)), some (eI (i23)), o25, o26], []), f :: F, μ) := by
          intro n17
          induction n17 using Nat.strongRecOn with
          | _ n17 ih18 =>
          intro i19 i21 i23 o25 o26 b20 b22 b24 hn27
          refine w_t (np := 69) (l2 := [some (eR a0), some (eI (a1)), some (eI (a2)), some (eI (v1)), some (eI (i19)), some (eI (i21)), some (eI (i23)), o25, o26]) (s2 := [eI (i23)]) rfl rfl rfl ?_
          refine b_ilt (t1 := 141) (t2 := 72) rfl rfl rfl (ev_w_in (by omega) (by omega)) (fun g28 => ?_) (fun g28 => ?_)
          · have b29 : -61 ≤ i23 ∧ i23 ≤ -1 := by omega
            refine w_t (np := 143) (l2 := [some (eR a0), some (eI (a1)), some (eI (a2)), some (eI (v1)), some (eI (i19)), some (eI (i21)), some (eI (i23)), o25, o26]) (s2 := [eI (i21)]) rfl rfl rfl ?_
            exact b_ri rfl rfl (K (i21) (by omega))
          · have b29 : 0 ≤ i23 ∧ i23 ≤ 9 := by omega
            refine w_t (np := 73) (l2 := [some (eR a0), some (eI (a1)), some (eI (a2)), some (eI (v1)), some (eI (i19)), some (eI (i21)), some (eI (i23)), o25, o26]) (s2 := [eI (a1)]) rfl rfl rfl ?_
            refine w_t (np := 75) (l2 := [some (eR a0), some (eI (a1)), some (eI (a2)), some (eI (v1)), some (eI (i19)), some (eI (i21)), some (eI (i23)), o25, o26]) (s2 := [eI (i23), eI (a1)]) rfl rfl rfl ?_
            refine w_cu (np := 78) (as := [eI (a1), eI (i23)]) (l2 := [some (eI (a1)), some (eI (i23)), none, none]) (rest := []) rfl rfl rfl (Nat.ble_eq.mp rfl) rfl rfl rfl rfl ?_
            refine s_35 (a0 := a1) (a1 := i23) hI (by omega) (by omega) ?_
            intro v29 b30
            show ex_q (dt_fg L ρ) rc (d + 1, (34, 78, [some (eR a0), some (eI (a1)), some (eI (a2)), some (eI (v1)), some (eI (i19)), some (eI (i21)), some (eI (i23)), o25, o26], [eI (v29)]), f :: F, μ)
            refine w_t (np := 79) (l2 := [some (eR a0), some (eI (a1)), some (eI (a2)), some (eI (v1)), some (eI (i19)), some (eI (i21)), some (eI (i23)), o25, o26]) (s2 := [eI (3), eI (v29)]) rfl rfl rfl ?_
            obtain ⟨v31, e32, b33⟩ := h_irem (a := v29) (k := 3) (by decide) (by decide) b30
            have b34 : -2 ≤ v31 ∧ v31 ≤ 2 := by omega
            refine w_t (np := 80) (l2 := [some (eR a0), some (eI (a1)), some (eI (a2)), some (eI (v1)), some (eI (i19)), some (eI (i21)), some (eI (i23)), o25, o26]) (s2 := [eI (v31)]) rfl (e32 _ _) rfl ?_
            refine w_t (np := 82) (l2 := [some (eR a0), some (eI (a1)), some (eI (a2)), some (eI (v1)), some (eI (i19)), some (eI (i21)), some (eI (i23)), some (eI (v31)), o26]) (s2 := []) rfl rfl rfl ?_
            refine w_t (np := 84) (l2 := [some (eR a0), some (eI (a1)), some (eI (a2)), some (eI (v1)), some (eI (i19)), some (eI (i21)), some (eI (i23)), some (eI (v31)), o26]) (s2 := [eI (v31)]) rfl rfl rfl ?_
            refine w_t (np := 86) (l2 := [some (eR a0), some (eI (a1)), some (eI (a2)), some (eI (v1)), some (eI (i19)), some (eI (i21)), some (eI (i23)), some (eI (v31)), o26]) (s2 := [eI (i19), eI (v31)]) rfl rfl rfl ?_
            refine w_t (np := 87) (l2 := [some (eR a0), some (eI (a1)), some (eI (a2)), some (eI (v1)), some (eI (i19)), some (eI (i21)), some (eI (i23)), some (eI (v31)), o26]) (s2 := [eI (1), eI (i19), eI (v31)]) rfl rfl rfl ?_
            obtain ⟨v35, e36⟩ : ∃ zz : Int, zz = (i19) + (1) := ⟨_, rfl⟩
            have b37 : -9 ≤ v35 ∧ v35 ≤ 3 := by omega
            refine w_t (np := 88) (l2 := [some (eR a0), some (eI (a1)), some (eI (a2)), some (eI (v1)), some (eI (i19)), some (eI (i21)), some (eI (i23)), some (eI (v31)), o26]) (s2 := [eI (v35), eI (v31)]) rfl (b_iadd (by rw [← e36]; exact ev_w_in (by omega) (by omega))) rfl ?_
            refine b_cle (t1 := 93) (t2 := 91) rfl rfl rfl (ev_w_in (by omega) (by omega)) (ev_w_in (by omega) (by omega)) (fun g38 => ?_) (fun g38 => ?_)
            · have b39 : -2 ≤ v35 ∧ v35 ≤ 3 := by omega
              refine w_t (np := 94) (l2 := [some (eR a0), some (eI (a1)), some (eI (a2)), some (eI (v1)), some (eI (i19)), some (eI (i21)), some (eI (i23)), some (eI (v31)), o26]) (s2 := [eI (0)]) rfl rfl rfl ?_
              refine w_t (np := 96) (l2 := [some (eR a0), some (eI (a1)), some (eI (a2)), some (eI (v1)), some (eI (i19)), some (eI (i21)), some (eI (i23)), some (eI (v31)), some (eI (0))]) (s2 := []) rfl rfl rfl ?_
              have hL96 : ∀ (n39 : Nat) (i41 : Int) (i43 : Int), (-2147483648 ≤ i41 ∧ i41 ≤ 2147483647) → (0 ≤ i43 ∧ i43 ≤ 2) → n39 = (2 - i43).toNat → ex_q (dt_fg L ρ) rc (d + 1, (34, 96, [some (eR a0), some (eI (a1)), some (eI (a2)), some (eI (v1)), some (eI (i19)), some (eI (i41)), some (eI (i23)), some (eI (v31)), some (eI (i43))], []), f :: F, μ) := by
                intro n39
                induction n39 using Nat.strongRecOn with
                | _ n39 ih40 =>
                intro i41 i43 b42 b44 hn45
                refine w_t (np := 98) (l2 := [some (eR a0), some (eI (a1)), some (eI (a2)), some (eI (v1)), some (eI (i19)), some (eI (i41)), some (eI (i23)), some (eI (v31)), some (eI (i43))]) (s2 := [eI (i43)]) rfl rfl rfl ?_
                refine w_t (np := 100) (l2 := [some (eR a0), some (eI (a1)), some (eI (a2)), some (eI (v1)), some (eI (i19)), some (eI (i41)), some (eI (i23)), some (eI (v31)), some (eI (i43))]) (s2 := [eI (v31), eI (i43)]) rfl rfl rfl ?_
                refine b_cge (t1 := 126) (t2 := 103) rfl rfl rfl (ev_w_in (by omega) (by omega)) (ev_w_in (by omega) (by omega)) (fun g46 => ?_) (fun g46 => ?_)
                · refine w_t (np := 128) (l2 := [some (eR a0), some (eI (a1)), some (eI (a2)), some (eI (v1)), some (eI (i19)), some (eI (i41)), some (eI (i23)), some (eI (v31)), some (eI (i43))]) (s2 := [eI (i19)]) rfl rfl rfl ?_
                  refine w_t (np := 130) (l2 := [some (eR a0), some (eI (a1)), some (eI (a2)), some (eI (v1)), some (eI (i19)), some (eI (i41)), some (eI (i23)), some (eI (v31)), some (eI (i43))]) (s2 := [eI (v31), eI (i19)]) rfl rfl rfl ?_
                  refine w_cu (np := 133) (as := [eI (i19), eI (v31)]) (l2 := [some (eI (i19)), some (eI (v31))]) (rest := []) rfl rfl rfl (Nat.ble_eq.mp rfl) rfl rfl rfl rfl ?_
                  refine w_t (np := 1) (l2 := [some (eI (i19)), some (eI (v31))]) (s2 := [eI (i19)]) rfl rfl rfl ?_
                  refine b_ine (t1 := 8) (t2 := 4) rfl rfl rfl (ev_w_in (by omega) (by omega)) (fun g47 => ?_) (fun g47 => ?_)
                  · refine w_t (np := 9) (l2 := [some (eI (i19)), some (eI (v31))]) (s2 := [eI (v31)]) rfl rfl rfl ?_
                    refine w_t (np := 10) (l2 := [some (eI (i19)), some (eI (v31))]) (s2 := [eI (2), eI (v31)]) rfl rfl rfl ?_
                    refine b_cne (t1 := 17) (t2 := 13) rfl rfl rfl (ev_w_in (by omega) (by omega)) rfl (fun g48 => ?_) (fun g48 => ?_)
                    · have b49 : -2 ≤ v31 ∧ v31 ≤ 1 := by omega
                      refine w_t (np := 18) (l2 := [some (eI (i19)), some (eI (v31))]) (s2 := [eI (1)]) rfl rfl rfl ?_
                      refine b_ri rfl rfl ?_
                      show ex_q (dt_fg L ρ) rc (d + 1, (34, 133, [some (eR a0), some (eI (a1)), some (eI (a2)), some (eI (v1)), some (eI (i19)), some (eI (i41)), some (eI (i23)), some (eI (v31)), some (eI (i43))], [eI (1)]), f :: F, μ)
                      refine w_t (np := 135) (l2 := [some (eR a0), some (eI (a1)), some (eI (a2)), some (eI (v1)), some (eI (1)), some (eI (i41)), some (eI (i23)), some (eI (v31)), some (eI (i43))]) (s2 := []) rfl rfl rfl ?_
                      obtain ⟨v49, e50⟩ : ∃ zz : Int, zz = (i23) + (-1) := ⟨_, rfl⟩
                      have b51 : -1 ≤ v49 ∧ v49 ≤ 8 := by omega
                      refine w_t (np := 138) (l2 := [some (eR a0), some (eI (a1)), some (eI (a2)), some (eI (v1)), some (eI (1)), some (eI (i41)), some (eI (v49)), some (eI (v31)), some (eI (i43))]) (s2 := []) rfl (b_iinc rfl (by rw [← e50]; exact ev_w_in (by omega) (by omega)) rfl) rfl ?_
                      refine w_go (t1 := 67) rfl rfl ?_
                      exact ih18 ((v49) - (-61)).toNat (by omega) (1) (i41) (v49) (some (eI (v31))) (some (eI (i43))) (by decide) (by omega) (by omega)     rfl
                    · have b49 : 2 ≤ v31 ∧ v31 ≤ 2 := by omega
                      refine w_t (np := 14) (l2 := [some (eI (i19)), some (eI (v31))]) (s2 := [eI (0)]) rfl rfl rfl ?_
                      refine w_go (t1 := 18) rfl rfl ?_
                      refine b_ri rfl rfl ?_
                      show ex_q (dt_fg L ρ) rc (d + 1, (34, 133, [some (eR a0), some (eI (a1)), some (eI (a2)), some (eI (v1)), some (eI (i19)), some (eI (i41)), some (eI (i23)), some (eI (v31)), some (eI (i43))], [eI (0)]), f :: F, μ)
                      refine w_t (np := 135) (l2 := [some (eR a0), some (eI (a1)), some (eI (a2)), some (eI (v1)), some (eI (0)), some (eI (i41)), some (eI (i23)), some (eI (v31)), some (eI (i43))]) (s2 := []) rfl rfl rfl ?_
                      obtain ⟨v49, e50⟩ : ∃ zz : Int, zz = (i23) + (-1) := ⟨_, rfl⟩
                      have b51 : -1 ≤ v49 ∧ v49 ≤ 8 := by omega
                      refine w_t (np := 138) (l2 := [some (eR a0), some (eI (a1)), some (eI (a2)), some (eI (v1)), some (eI (0)), some (eI (i41)), some (eI (v49)), some (eI (v31)), some (eI (i43))]) (s2 := []) rfl (b_iinc rfl (by rw [← e50]; exact ev_w_in (by omega) (by omega)) rfl) rfl ?_
                      refine w_go (t1 := 67) rfl rfl ?_
                      exact ih18 ((v49) - (-61)).toNat (by omega) (0) (i41) (v49) (some (eI (v31))) (some (eI (i43))) (by decide) (by omega) (by omega)     rfl
                  · have b48 : 0 ≤ i19 ∧ i19 ≤ 0 := by omega
                    refine w_t (np := 5) (l2 := [some (eI (i19)), some (eI (v31))]) (s2 := [eI (v31)]) rfl rfl rfl ?_
                    refine w_go (t1 := 18) rfl rfl ?_
                    refine b_ri rfl rfl ?_
                    show ex_q (dt_fg L ρ) rc (d + 1, (34, 133, [some (eR a0), some (eI (a1)), some (eI (a2)), some (eI (v1)), some (eI (i19)), some (eI (i41)), some (eI (i23)), some (eI (v31)), some (eI (i43))], [eI (v31)]), f :: F, μ)
                    refine w_t (np := 135) (l2 := [some (eR a0), some (eI (a1)), some (eI (a2)), some (eI (v1)), some (eI (v31)), some (eI (i41)), some (eI (i23)), some (eI (v31)), some (eI (i43))]) (s2 := []) rfl rfl rfl ?_
                    obtain ⟨v48, e49⟩ : ∃ zz : Int, zz = (i23) + (-1) := ⟨_, rfl⟩
                    have b50 : -1 ≤ v48 ∧ v48 ≤ 8 := by omega
                    refine w_t (np := 138) (l2 := [some (eR a0), some (eI (a1)), some (eI (a2)), some (eI (v1)), some (eI (v31)), some (eI (i41)), some (eI (v48)), some (eI (v31)), some (eI (i43))]) (s2 := []) rfl (b_iinc rfl (by rw [← e49]; exact ev_w_in (by omega) (by omega)) rfl) rfl ?_
                    refine w_go (t1 := 67) rfl rfl ?_
                    exact ih18 ((v48) - (-61)).toNat (by omega) (v31) (i41) (v48) (some (eI (v31))) (some (eI (i43))) (by omega) (by omega) (by omega)     rfl
                · have b47 : 0 ≤ i43 ∧ i43 ≤ 1 := by omega
                  have b48 : 1 ≤ v31 ∧ v31 ≤ 2 := by omega
                  refine w_t (np := 105) (l2 := [some (eR a0), some (eI (a1)), some (eI (a2)), some (eI (v1)), some (eI (i19)), some (eI (i41)), some (eI (i23)), some (eI (v31)), some (eI (i43))]) (s2 := [eI (i41)]) rfl rfl rfl ?_
                  refine w_t (np := 107) (l2 := [some (eR a0), some (eI (a1)), some (eI (a2)), some (eI (v1)), some (eI (i19)), some (eI (i41)), some (eI (i23)), some (eI (v31)), some (eI (i43))]) (s2 := [eI (i19), eI (i41)]) rfl rfl rfl ?_
                  refine w_t (np := 109) (l2 := [some (eR a0), some (eI (a1)), some (eI (a2)), some (eI (v1)), some (eI (i19)), some (eI (i41)), some (eI (i23)), some (eI (v31)), some (eI (i43))]) (s2 := [eI (i43), eI (i19), eI (i41)]) rfl rfl rfl ?_
                  refine w_cu (np := 112) (as := [eI (i19), eI (i43)]) (l2 := [some (eI (i19)), some (eI (i43))]) (rest := [eI (i41)]) rfl rfl rfl (Nat.ble_eq.mp rfl) rfl rfl rfl rfl ?_
                  refine w_t (np := 1) (l2 := [some (eI (i19)), some (eI (i43))]) (s2 := [eI (i19)]) rfl rfl rfl ?_
                  refine b_ine (t1 := 8) (t2 := 4) rfl rfl rfl (ev_w_in (by omega) (by omega)) (fun g47 => ?_) (fun g47 => ?_)
                  · refine w_t (np := 9) (l2 := [some (eI (i19)), some (eI (i43))]) (s2 := [eI (i43)]) rfl rfl rfl ?_
                    refine w_t (np := 10) (l2 := [some (eI (i19)), some (eI (i43))]) (s2 := [eI (2), eI (i43)]) rfl rfl rfl ?_
                    refine b_cne (t1 := 17) (t2 := 13) rfl rfl rfl (ev_w_in (by omega) (by omega)) rfl (fun g48 => ?_) (fun g48 => False.elim (by omega))
                    refine w_t (np := 18) (l2 := [some (eI (i19)), some (eI (i43))]) (s2 := [eI (1)]) rfl rfl rfl ?_
                    refine b_ri rfl rfl ?_
                    show ex_q (dt_fg L ρ) rc (d + 1, (34, 112, [some (eR a0), some (eI (a1)), some (eI (a2)), some (eI (v1)), some (eI (i19)), some (eI (i41)), some (eI (i23)), some (eI (v31)), some (eI (i43))], [eI (1), eI (i41)]), f :: F, μ)
                    refine w_t (np := 114) (l2 := [some (eR a0), some (eI (a1)), some (eI (a2)), some (eI (v1)), some (eI (i19)), some (eI (i41)), some (eI (i23)), some (eI (v31)), some (eI (i43))]) (s2 := [eI (i23), eI (1), eI (i41)]) rfl rfl rfl ?_
                    refine w_cu (np := 117) (as := [eI (1), eI (i23)]) (l2 := [some (eI (1)), some (eI (i23))]) (rest := [eI (i41)]) rfl rfl rfl (Nat.ble_eq.mp rfl) rfl rfl rfl rfl ?_
                    refine s_37 (a0 := 1) (a1 := i23) hI (by decide) (by omega) ?_
                    intro v49 b50
                    show ex_q (dt_fg L ρ) rc (d + 1, (34, 117, [some (eR a0), some (eI (a1)), some (eI (a2)), some (eI (v1)), some (eI (i19)), some (eI (i41)), some (eI (i23)), some (eI (v31)), some (eI (i43))], [eI (v49), eI (i41)]), f :: F, μ)
                    obtain ⟨v51, e52, b53⟩ : ∃ zz : Int, ev_w ((i41) + (v49)) = zz ∧ (-2147483648 ≤ zz ∧ zz ≤ 2147483647) := ⟨_, rfl, hw_bd _⟩
                    refine w_t (np := 118) (l2 := [some (eR a0), some (eI (a1)), some (eI (a2)), some (eI (v1)), some (eI (i19)), some (eI (i41)), some (eI (i23)), some (eI (v31)), some (eI (i43))]) (s2 := [eI (v51)]) rfl (b_iadd e52) rfl ?_
                    refine w_t (np := 120) (l2 := [some (eR a0), some (eI (a1)), some (eI (a2)), some (eI (v1)), some (eI (i19)), some (eI (v51)), some (eI (i23)), some (eI (v31)), some (eI (i43))]) (s2 := []) rfl rfl rfl ?_
                    obtain ⟨v54, e55⟩ : ∃ zz : Int, zz = (i43) + (1) := ⟨_, rfl⟩
                    have b56 : 1 ≤ v54 ∧ v54 ≤ 2 := by omega
                    refine w_t (np := 123) (l2 := [some (eR a0), some (eI (a1)), some (eI (a2)), some (eI (v1)), some (eI (i19)), some (eI (v51)), some (eI (i23)), some (eI (v31)), some (eI (v54))]) (s2 := []) rfl (b_iinc rfl (by rw [← e55]; exact ev_w_in (by omega) (by omega)) rfl) rfl ?_
                    refine w_go (t1 := 96) rfl rfl ?_
                    exact ih40 (2 - (v54)).toNat (by omega) (v51) (v54) (by omega) (by omega)     rfl
                  · have b48 : 0 ≤ i19 ∧ i19 ≤ 0 := by omega
                    refine w_t (np := 5) (l2 := [some (eI (i19)), some (eI (i43))]) (s2 := [eI (i43)]) rfl rfl rfl ?_
                    refine w_go (t1 := 18) rfl rfl ?_
                    refine b_ri rfl rfl ?_
                    show ex_q (dt_fg L ρ) rc (d + 1, (34, 112, [some (eR a0), some (eI (a1)), some (eI (a2)), some (eI (v1)), some (eI (i19)), some (eI (i41)), some (eI (i23)), some (eI (v31)), some (eI (i43))], [eI (i43), eI (i41)]), f :: F, μ)
                    refine w_t (np := 114) (l2 := [some (eR a0), some (eI (a1)), some (eI (a2)), some (eI (v1)), some (eI (i19)), some (eI (i41)), some (eI (i23)), some (eI (v31)), some (eI (i43))]) (s2 := [eI (i23), eI (i43), eI (i41)]) rfl rfl rfl ?_
                    refine w_cu (np := 117) (as := [eI (i43), eI (i23)]) (l2 := [some (eI (i43)), some (eI (i23))]) (rest := [eI (i41)]) rfl rfl rfl (Nat.ble_eq.mp rfl) rfl rfl rfl rfl ?_
                    refine s_37 (a0 := i43) (a1 := i23) hI (by omega) (by omega) ?_
                    intro v48 b49
                    show ex_q (dt_fg L ρ) rc (d + 1, (34, 117, [some (eR a0), some (eI (a1)), some (eI (a2)), some (eI (v1)), some (eI (i19)), some (eI (i41)), some (eI (i23)), some (eI (v31)), some (eI (i43))], [eI (v48), eI (i41)]), f :: F, μ)
                    obtain ⟨v50, e51, b52⟩ : ∃ zz : Int, ev_w ((i41) + (v48)) = zz ∧ (-2147483648 ≤ zz ∧ zz ≤ 2147483647) := ⟨_, rfl, hw_bd _⟩
                    refine w_t (np := 118) (l2 := [some (eR a0), some (eI (a1)), some (eI (a2)), some (eI (v1)), some (eI (i19)), some (eI (i41)), some (eI (i23)), some (eI (v31)), some (eI (i43))]) (s2 := [eI (v50)]) rfl (b_iadd e51) rfl ?_
                    refine w_t (np := 120) (l2 := [some (eR a0), some (eI (a1)), some (eI (a2)), some (eI (v1)), some (eI (i19)), some (eI (v50)), some (eI (i23)), some (eI (v31)), some (eI (i43))]) (s2 := []) rfl rfl rfl ?_
                    obtain ⟨v53, e54⟩ : ∃ zz : Int, zz = (i43) + (1) := ⟨_, rfl⟩
                    have b55 : 1 ≤ v53 ∧ v53 ≤ 2 := by omega
                    refine w_t (np := 123) (l2 := [some (eR a0), some (eI (a1)), some (eI (a2)), some (eI (v1)), some (eI (i19)), some (eI (v50)), some (eI (i23)), some (eI (v31)), some (eI (v53))]) (s2 := []) rfl (b_iinc rfl (by rw [← e54]; exact ev_w_in (by omega) (by omega)) rfl) rfl ?_
                    refine w_go (t1 := 96) rfl rfl ?_
                    exact ih40 (2 - (v53)).toNat (by omega) (v50) (v53) (by omega) (by omega)     rfl
              exact hL96 _ (i21) (0) (by omega) (by decide)     rfl
            · have b39 : -9 ≤ v35 ∧ v35 ≤ 1 := by omega
              refine w_t (np := 92) (l2 := [some (eR a0), some (eI (a1)), some (eI (a2)), some (eI (v1)), some (eI (i19)), some (eI (i21)), some (eI (i23)), some (eI (v31)), o26]) (s2 := [eI (-1)]) rfl rfl rfl ?_
              exact b_ri rfl rfl (K (-1) (by decide))
        exact hL67 _ (0) (v11) (v14) (none) (none) (by decide) (by omega) (by omega)     rfl
      · have b9 : 10 ≤ v1 ∧ v1 ≤ 2147483647 := by omega
        refine w_t (np := 51) (l2 := [some (eR a0), some (eI (a1)), some (eI (a2)), some (eI (v1)), some (eI (0)), none, none, none, none]) (s2 := [eI (-1)]) rfl rfl rfl ?_
        exact b_ri rfl rfl (K (-1) (by decide))
theorem s_38 {L : Nat} {ρ : Nat → Int} {rc : eQ} {d : Nat} {f : eFr} {F : List eFr} {μ : eM} {g : Nat → Nat} {a0 : Nat} {a1 : Int} {a2 : Int} (hI : SI g μ) (gA0 : g a0 = 2) (bA1 : -2147483648 ≤ a1 ∧ a1 ≤ 2147483647) (bA2 : 0 ≤ a2 ∧ a2 ≤ 5) (K : ∀ (v : Int), (-2147483648 ≤ v ∧ v ≤ 2147483647) → ex_q (dt_fg L ρ) rc (d + 3, (f.1, f.2.1, f.2.2.1, eI v :: f.2.2.2), F, μ)) : ex_q (dt_fg L ρ) rc (d + 2, (38, 0, [some (eR a0), some (eI (a1)), some (eI (a2))], []), f :: F, μ) := by
  refine w_t (np := 1) (l2 := [some (eR a0), some (eI (a1)), some (eI (a2))]) (s2 := [eR a0]) rfl (s_an rfl (pos_g hI gA0 (by decide))) rfl ?_
  refine w_t (np := 2) (l2 := [some (eR a0), some (eI (a1)), some (eI (a2))]) (s2 := [eR a0, eR a0]) rfl (s_an rfl (pos_g hI gA0 (by decide))) rfl ?_
  refine w_t (np := 3) (l2 := [some (eR a0), some (eI (a1)), some (eI (a2))]) (s2 := [eI (a1), eR a0, eR a0]) rfl rfl rfl ?_
  refine w_cw (np := 6) (as := [eI (a1)]) (l2 := [some (eR a0), some (eI (a1))]) (rest := [eR a0]) rfl rfl rfl (Nat.ble_eq.mp rfl) rfl rfl rfl (hI.kd gA0 (by decide) (n := 8) rfl) rfl ?_
  refine s_20 (a1 := a1) hI gA0 (by omega) ?_
  intro v1 b2
  show ex_q (dt_fg L ρ) rc (d + 2, (38, 6, [some (eR a0), some (eI (a1)), some (eI (a2))], [eI (v1), eR a0]), f :: F, μ)
  refine w_t (np := 7) (l2 := [some (eR a0), some (eI (a1)), some (eI (a2))]) (s2 := [eI (a2), eI (v1), eR a0]) rfl rfl rfl ?_
  refine w_cu (np := 10) (as := [eI (v1), eI (a2)]) (l2 := [some (eI (v1)), some (eI (a2)), none, none]) (rest := [eR a0]) rfl rfl rfl (Nat.ble_eq.mp rfl) rfl rfl rfl rfl ?_
  refine s_35 (a0 := v1) (a1 := a2) hI (by omega) (by omega) ?_
  intro v3 b4
  show ex_q (dt_fg L ρ) rc (d + 2, (38, 10, [some (eR a0), some (eI (a1)), some (eI (a2))], [eI (v3), eR a0]), f :: F, μ)
  refine w_t (np := 11) (l2 := [some (eR a0), some (eI (a1)), some (eI (a2))]) (s2 := [eR a0, eI (v3), eR a0]) rfl (s_an rfl (pos_g hI gA0 (by decide))) rfl ?_
  refine j_gi (np := 14) rfl rfl rfl hI gA0 (by decide) (n := 8) rfl rfl (lo := 0) (hi := 5) rfl ?_
  intro v5 e6 b7
  refine w_t (np := 15) (l2 := [some (eR a0), some (eI (a1)), some (eI (a2))]) (s2 := [eI (a2), eI (v5), eI (v3), eR a0]) rfl rfl rfl ?_
  obtain ⟨v8, e9⟩ : ∃ zz : Int, zz = (v5) - (a2) := ⟨_, rfl⟩
  have b10 : -5 ≤ v8 ∧ v8 ≤ 5 := by omega
  refine w_t (np := 16) (l2 := [some (eR a0), some (eI (a1)), some (eI (a2))]) (s2 := [eI (v8), eI (v3), eR a0]) rfl (b_isub (by rw [← e9]; exact ev_w_in (by omega) (by omega))) rfl ?_
  refine w_cw (np := 19) (as := [eI (v3), eI (v8)]) (l2 := [some (eR a0), some (eI (v3)), some (eI (v8)), none, none, none, none, none, none]) (rest := []) rfl rfl rfl (Nat.ble_eq.mp rfl) rfl rfl rfl (hI.kd gA0 (by decide) (n := 8) rfl) rfl ?_
  refine s_34 (a1 := v3) (a2 := v8) hI gA0 (by omega) (by omega) ?_
  intro v11 b12
  show ex_q (dt_fg L ρ) rc (d + 2, (38, 19, [some (eR a0), some (eI (a1)), some (eI (a2))], [eI (v11)]), f :: F, μ)
  exact b_ri rfl rfl (K (v11) (by omega))
theorem s_38_2 {L : Nat} {ρ : Nat → Int} {rc : eQ} {d : Nat} {f : eFr} {F : List eFr} {μ : eM} {g : Nat → Nat} {a0 : Nat} {a1 : Int} {a2 : Int} (hI : SI g μ) (gA0 : g a0 = 7) (bA1 : -2147483648 ≤ a1 ∧ a1 ≤ 2147483647) (bA2 : 0 ≤ a2 ∧ a2 ≤ 5) (K : ∀ (v : Int), (-2147483648 ≤ v ∧ v ≤ 2147483647) → ex_q (dt_fg L ρ) rc (d + 3, (f.1, f.2.1, f.2.2.1, eI v :: f.2.2.2), F, μ)) : ex_q (dt_fg L ρ) rc (d + 2, (38, 0, [some (eR a0), some (eI (a1)), some (eI (a2))], []), f :: F, μ) := by
  refine w_t (np := 1) (l2 := [some (eR a0), some (eI (a1)), some (eI (a2))]) (s2 := [eR a0]) rfl (s_an rfl (pos_g hI gA0 (by decide))) rfl ?_
  refine w_t (np := 2) (l2 := [some (eR a0), some (eI (a1)), some (eI (a2))]) (s2 := [eR a0, eR a0]) rfl (s_an rfl (pos_g hI gA0 (by decide))) rfl ?_
  refine w_t (np := 3) (l2 := [some (eR a0), some (eI (a1)), some (eI (a2))]) (s2 := [eI (a1), eR a0, eR a0]) rfl rfl rfl ?_
  refine w_cw (np := 6) (as := [eI (a1)]) (l2 := [some (eR a0), some (eI (a1))]) (rest := [eR a0]) rfl rfl rfl (Nat.ble_eq.mp rfl) rfl rfl rfl (hI.kd gA0 (by decide) (n := 8) rfl) rfl ?_
  refine s_20_2 (a1 := a1) hI gA0 (by omega) ?_
  intro v1 b2
  show ex_q (dt_fg L ρ) rc (d + 2, (38, 6, [some (eR a0), some (eI (a1)), some (eI (a2))], [eI (v1), eR a0]), f :: F, μ)
  refine w_t (np := 7) (l2 := [some (eR a0), some (eI (a1)), some (eI (a2))]) (s2 := [eI (a2), eI (v1), eR a0]) rfl rfl rfl ?_
  refine w_cu (np := 10) (as := [eI (v1), eI (a2)]) (l2 := [some (eI (v1)), some (eI (a2)), none, none]) (rest := [eR a0]) rfl rfl rfl (Nat.ble_eq.mp rfl) rfl rfl rfl rfl ?_
  refine s_35 (a0 := v1) (a1 := a2) hI (by omega) (by omega) ?_
  intro v3 b4
  show ex_q (dt_fg L ρ) rc (d + 2, (38, 10, [some (eR a0), some (eI (a1)), some (eI (a2))], [eI (v3), eR a0]), f :: F, μ)
  refine w_t (np := 11) (l2 := [some (eR a0), some (eI (a1)), some (eI (a2))]) (s2 := [eR a0, eI (v3), eR a0]) rfl (s_an rfl (pos_g hI gA0 (by decide))) rfl ?_
  refine j_gi (np := 14) rfl rfl rfl hI gA0 (by decide) (n := 8) rfl rfl (lo := 0) (hi := 5) rfl ?_
  intro v5 e6 b7
  refine w_t (np := 15) (l2 := [some (eR a0), some (eI (a1)), some (eI (a2))]) (s2 := [eI (a2), eI (v5), eI (v3), eR a0]) rfl rfl rfl ?_
  obtain ⟨v8, e9⟩ : ∃ zz : Int, zz = (v5) - (a2) := ⟨_, rfl⟩
  have b10 : -5 ≤ v8 ∧ v8 ≤ 5 := by omega
  refine w_t (np := 16) (l2 := [some (eR a0), some (eI (a1)), some (eI (a2))]) (s2 := [eI (v8), eI (v3), eR a0]) rfl (b_isub (by rw [← e9]; exact ev_w_in (by omega) (by omega))) rfl ?_
  refine w_cw (np := 19) (as := [eI (v3), eI (v8)]) (l2 := [some (eR a0), some (eI (v3)), some (eI (v8)), none, none, none, none, none, none]) (rest := []) rfl rfl rfl (Nat.ble_eq.mp rfl) rfl rfl rfl (hI.kd gA0 (by decide) (n := 8) rfl) rfl ?_
  refine s_34_2 (a1 := v3) (a2 := v8) hI gA0 (by omega) (by omega) ?_
  intro v11 b12
  show ex_q (dt_fg L ρ) rc (d + 2, (38, 19, [some (eR a0), some (eI (a1)), some (eI (a2))], [eI (v11)]), f :: F, μ)
  exact b_ri rfl rfl (K (v11) (by omega))
def l_43 : List Nat := [3584, 3075]
theorem s_43 {L : Nat} {ρ : Nat → Int} {rc : eQ} {d : Nat} {f : eFr} {F : List eFr} {μ : eM} {g : Nat → Nat} {a0 : Nat} (hI : SI g μ) (gA0 : g a0 = 12) (K : ∀ (μ2 : eM), SI g μ2 → Fr l_43 0 0 g μ μ2 → ex_q (dt_fg L ρ) rc (d + 2, (f.1, f.2.1, f.2.2.1, f.2.2.2), F, μ2)) : ex_q (dt_fg L ρ) rc (d + 1, (43, 0, [some (eR a0)], []), f :: F, μ) := by
  have F0 : Fr l_43 0 0 g μ μ := Fr.r
  refine w_t (np := 1) (l2 := [some (eR a0)]) (s2 := [eR a0]) rfl (s_an rfl (pos_g hI gA0 (by decide))) rfl ?_
  refine w_t (np := 2) (l2 := [some (eR a0)]) (s2 := [eI (0), eR a0]) rfl rfl rfl ?_
  refine j_pf (np := 5) (w := 0) rfl rfl hI gA0 (by decide) (n := 3) rfl rfl (hO_i (lo := 0) (hi := 64) rfl (by decide)) ?_
  intro m1 I2 W3
  have F4 : Fr l_43 0 0 g μ m1 := F0.w W3 gA0 rfl
  refine w_t (np := 6) (l2 := [some (eR a0)]) (s2 := [eR a0]) rfl (s_an rfl (pos_g I2 gA0 (by decide))) rfl ?_
  refine j_gr (np := 9) rfl rfl I2 gA0 (by decide) (n := 3) rfl rfl rfl ?_
  intro v5 e6 b7 z8
  have b7 : g v5 = 14 := Nat.eq_of_beq_eq_true b7
  refine w_t (np := 10) (l2 := [some (eR a0)]) (s2 := [eI (0), eR v5]) rfl rfl rfl ?_
  refine w_cu (np := 13) (as := [eR v5, eI (0)]) (l2 := [some (eR v5), some (eI (0)), none, none]) (rest := []) rfl rfl rfl (Nat.ble_eq.mp rfl) rfl rfl rfl rfl ?_
  refine s_365 (a1 := 0) I2 b7 (by decide) ?_
  intro m9 I10 F11
  have F12 : Fr l_43 0 0 g μ m9 := F4.t F11 rfl
  show ex_q (dt_fg L ρ) rc (d + 1, (43, 13, [some (eR a0)], []), f :: F, m9)
  exact v_rv rfl rfl (K m9 I10 F12)
def l_43_2 : List Nat := [4352, 3843]
theorem s_43_2 {L : Nat} {ρ : Nat → Int} {rc : eQ} {d : Nat} {f : eFr} {F : List eFr} {μ : eM} {g : Nat → Nat} {a0 : Nat} (hI : SI g μ) (gA0 : g a0 = 15) (K : ∀ (μ2 : eM), SI g μ2 → Fr l_43_2 0 0 g μ μ2 → ex_q (dt_fg L ρ) rc (d + 2, (f.1, f.2.1, f.2.2.1, f.2.2.2), F, μ2)) : ex_q (dt_fg L ρ) rc (d + 1, (43, 0, [some (eR a0)], []), f :: F, μ) := by
  have F0 : Fr l_43_2 0 0 g μ μ := Fr.r
  refine w_t (np := 1) (l2 := [some (eR a0)]) (s2 := [eR a0]) rfl (s_an rfl (pos_g hI gA0 (by decide))) rfl ?_
  refine w_t (np := 2) (l2 := [some (eR a0)]) (s2 := [eI (0), eR a0]) rfl rfl rfl ?_
  refine j_pf (np := 5) (w := 0) rfl rfl hI gA0 (by decide) (n := 3) rfl rfl (hO_i (lo := 0) (hi := 512) rfl (by decide)) ?_
  intro m1 I2 W3
  have F4 : Fr l_43_2 0 0 g μ m1 := F0.w W3 gA0 rfl
  refine w_t (np := 6) (l2 := [some (eR a0)]) (s2 := [eR a0]) rfl (s_an rfl (pos_g I2 gA0 (by decide))) rfl ?_
  refine j_gr (np := 9) rfl rfl I2 gA0 (by decide) (n := 3) rfl rfl rfl ?_
  intro v5 e6 b7 z8
  have b7 : g v5 = 17 := Nat.eq_of_beq_eq_true b7
  refine w_t (np := 10) (l2 := [some (eR a0)]) (s2 := [eI (0), eR v5]) rfl rfl rfl ?_
  refine w_cu (np := 13) (as := [eR v5, eI (0)]) (l2 := [some (eR v5), some (eI (0)), none, none]) (rest := []) rfl rfl rfl (Nat.ble_eq.mp rfl) rfl rfl rfl rfl ?_
  refine s_365_2 (a1 := 0) I2 b7 (by decide) ?_
  intro m9 I10 F11
  have F12 : Fr l_43_2 0 0 g μ m9 := F4.t F11 rfl
  show ex_q (dt_fg L ρ) rc (d + 1, (43, 13, [some (eR a0)], []), f :: F, m9)
  exact v_rv rfl rfl (K m9 I10 F12)
theorem s_45 {L : Nat} {ρ : Nat → Int} {rc : eQ} {d : Nat} {f : eFr} {F : List eFr} {μ : eM} {g : Nat → Nat} {a0 : Nat} {a1 : Int} (hI : SI g μ) (gA0 : g a0 = 12) (bA1 : -9223372036854775808 ≤ a1 ∧ a1 ≤ 9223372036854775807) (K : ∀ (v : Int), (-1 ≤ v ∧ v ≤ 63) → ex_q (dt_fg L ρ) rc (d + 2, (f.1, f.2.1, f.2.2.1, eI v :: f.2.2.2), F, μ)) : ex_q (dt_fg L ρ) rc (d + 1, (45, 0, [some (eR a0), some (eJ (a1)), none], []), f :: F, μ) := by
  refine w_t (np := 1) (l2 := [some (eR a0), some (eJ (a1)), none]) (s2 := [eR a0]) rfl (s_an rfl (pos_g hI gA0 (by decide))) rfl ?_
  refine j_gr (np := 4) rfl rfl hI gA0 (by decide) (n := 3) rfl rfl rfl ?_
  intro v1 e2 b3 z4
  have b3 : g v1 = 14 := Nat.eq_of_beq_eq_true b3
  refine w_t (np := 5) (l2 := [some (eR a0), some (eJ (a1)), none]) (s2 := [eR a0, eR v1]) rfl (s_an rfl (pos_g hI gA0 (by decide))) rfl ?_
  refine w_t (np := 6) (l2 := [some (eR a0), some (eJ (a1)), none]) (s2 := [eJ (a1), eR a0, eR v1]) rfl rfl rfl ?_
  refine w_cw (np := 9) (as := [eJ (a1)]) (l2 := [some (eR a0), some (eJ (a1)), none, none, none, none]) (rest := [eR v1]) rfl rfl rfl (Nat.ble_eq.mp rfl) rfl rfl rfl (hI.kd gA0 (by decide) (n := 3) rfl) rfl ?_
  refine s_48 hI gA0 bA1 ?_
  intro v5 b6
  show ex_q (dt_fg L ρ) rc (d + 1, (45, 9, [some (eR a0), some (eJ (a1)), none], [eI (v5), eR v1]), f :: F, μ)
  refine j_al (np := 10) rfl rfl hI b3 (by decide) (n := 128) rfl rfl (lo := 0) (hi := 64) (fun _ => rfl) (by omega) (by omega) ?_
  intro v7 e8 b9
  refine w_t (np := 11) (l2 := [some (eR a0), some (eJ (a1)), none]) (s2 := [eI (1), eI (v7)]) rfl rfl rfl ?_
  obtain ⟨v10, e11⟩ : ∃ zz : Int, zz = (v7) - (1) := ⟨_, rfl⟩
  have b12 : -1 ≤ v10 ∧ v10 ≤ 63 := by omega
  refine w_t (np := 12) (l2 := [some (eR a0), some (eJ (a1)), none]) (s2 := [eI (v10)]) rfl (b_isub (by rw [← e11]; exact ev_w_in (by omega) (by omega))) rfl ?_
  exact b_ri rfl rfl (K (v10) (by omega))
theorem s_45_2 {L : Nat} {ρ : Nat → Int} {rc : eQ} {d : Nat} {f : eFr} {F : List eFr} {μ : eM} {g : Nat → Nat} {a0 : Nat} {a1 : Int} (hI : SI g μ) (gA0 : g a0 = 15) (bA1 : -9223372036854775808 ≤ a1 ∧ a1 ≤ 9223372036854775807) (K : ∀ (v : Int), (-1 ≤ v ∧ v ≤ 511) → ex_q (dt_fg L ρ) rc (d + 2, (f.1, f.2.1, f.2.2.1, eI v :: f.2.2.2), F, μ)) : ex_q (dt_fg L ρ) rc (d + 1, (45, 0, [some (eR a0), some (eJ (a1)), none], []), f :: F, μ) := by
  refine w_t (np := 1) (l2 := [some (eR a0), some (eJ (a1)), none]) (s2 := [eR a0]) rfl (s_an rfl (pos_g hI gA0 (by decide))) rfl ?_
  refine j_gr (np := 4) rfl rfl hI gA0 (by decide) (n := 3) rfl rfl rfl ?_
  intro v1 e2 b3 z4
  have b3 : g v1 = 17 := Nat.eq_of_beq_eq_true b3
  refine w_t (np := 5) (l2 := [some (eR a0), some (eJ (a1)), none]) (s2 := [eR a0, eR v1]) rfl (s_an rfl (pos_g hI gA0 (by decide))) rfl ?_
  refine w_t (np := 6) (l2 := [some (eR a0), some (eJ (a1)), none]) (s2 := [eJ (a1), eR a0, eR v1]) rfl rfl rfl ?_
  refine w_cw (np := 9) (as := [eJ (a1)]) (l2 := [some (eR a0), some (eJ (a1)), none, none, none, none]) (rest := [eR v1]) rfl rfl rfl (Nat.ble_eq.mp rfl) rfl rfl rfl (hI.kd gA0 (by decide) (n := 3) rfl) rfl ?_
  refine s_48_2 hI gA0 bA1 ?_
  intro v5 b6
  show ex_q (dt_fg L ρ) rc (d + 1, (45, 9, [some (eR a0), some (eJ (a1)), none], [eI (v5), eR v1]), f :: F, μ)
  refine j_al (np := 10) rfl rfl hI b3 (by decide) (n := 1024) rfl rfl (lo := 0) (hi := 512) (fun _ => rfl) (by omega) (by omega) ?_
  intro v7 e8 b9
  refine w_t (np := 11) (l2 := [some (eR a0), some (eJ (a1)), none]) (s2 := [eI (1), eI (v7)]) rfl rfl rfl ?_
  obtain ⟨v10, e11⟩ : ∃ zz : Int, zz = (v7) - (1) := ⟨_, rfl⟩
  have b12 : -1 ≤ v10 ∧ v10 ≤ 511 := by omega
  refine w_t (np := 12) (l2 := [some (eR a0), some (eJ (a1)), none]) (s2 := [eI (v10)]) rfl (b_isub (by rw [← e11]; exact ev_w_in (by omega) (by omega))) rfl ?_
  exact b_ri rfl rfl (K (v10) (by omega))
def l_46 : List Nat := [3328, 3584, 3075]
theorem s_46 {L : Nat} {ρ : Nat → Int} {rc : eQ} {d : Nat} {f : eFr} {F : List eFr} {μ : eM} {g : Nat → Nat} {a0 : Nat} {a1 : Int} (hI : SI g μ) (gA0 : g a0 = 12) (bA1 : -9223372036854775808 ≤ a1 ∧ a1 ≤ 9223372036854775807) (K : ∀ (μ2 : eM) (v : Int), SI g μ2 → Fr l_46 0 0 g μ μ2 → (0 ≤ v ∧ v ≤ 511) → ex_q (dt_fg L ρ) rc (d + 2, (f.1, f.2.1, f.2.2.1, eI v :: f.2.2.2), F, μ2)) : ex_q (dt_fg L ρ) rc (d + 1, (46, 0, [some (eR a0), some (eJ (a1)), none, none], []), f :: F, μ) := by
  have F0 : Fr l_46 0 0 g μ μ := Fr.r
  refine w_t (np := 1) (l2 := [some (eR a0), some (eJ (a1)), none, none]) (s2 := [eR a0]) rfl (s_an rfl (pos_g hI gA0 (by decide))) rfl ?_
  refine w_t (np := 2) (l2 := [some (eR a0), some (eJ (a1)), none, none]) (s2 := [eJ (a1), eR a0]) rfl rfl rfl ?_
  refine w_cw (np := 5) (as := [eJ (a1)]) (l2 := [some (eR a0), some (eJ (a1)), none, none, none, none]) (rest := []) rfl rfl rfl (Nat.ble_eq.mp rfl) rfl rfl rfl (hI.kd gA0 (by decide) (n := 3) rfl) rfl ?_
  refine s_48 hI gA0 bA1 ?_
  intro v1 b2
  show ex_q (dt_fg L ρ) rc (d + 1, (46, 5, [some (eR a0), some (eJ (a1)), none, none], [eI (v1)]), f :: F, μ)
  refine w_t (np := 6) (l2 := [some (eR a0), some (eJ (a1)), none, some (eI (v1))]) (s2 := []) rfl rfl rfl ?_
  refine w_t (np := 7) (l2 := [some (eR a0), some (eJ (a1)), none, some (eI (v1))]) (s2 := [eR a0]) rfl (s_an rfl (pos_g hI gA0 (by decide))) rfl ?_
  refine j_gr (np := 10) rfl rfl hI gA0 (by decide) (n := 3) rfl rfl rfl ?_
  intro v3 e4 b5 z6
  have b5 : g v3 = 14 := Nat.eq_of_beq_eq_true b5
  refine w_t (np := 11) (l2 := [some (eR a0), some (eJ (a1)), none, some (eI (v1))]) (s2 := [eI (v1), eR v3]) rfl rfl rfl ?_
  refine j_al (np := 12) rfl rfl hI b5 (by decide) (n := 128) rfl rfl (lo := 0) (hi := 64) (fun _ => rfl) (by omega) (by omega) ?_
  intro v7 e8 b9
  refine b_ine (t1 := 57) (t2 := 15) rfl rfl rfl (ev_w_in (by omega) (by omega)) (fun g10 => ?_) (fun g10 => ?_)
  · have b11 : 1 ≤ v7 ∧ v7 ≤ 64 := by omega
    refine w_t (np := 58) (l2 := [some (eR a0), some (eJ (a1)), none, some (eI (v1))]) (s2 := [eR a0]) rfl (s_an rfl (pos_g hI gA0 (by decide))) rfl ?_
    refine w_gf (np := 61) (v := eR v3) rfl rfl (hI.kd gA0 (by decide) (n := 3) rfl) (by rw [e4]; rfl) ?_
    refine w_t (np := 62) (l2 := [some (eR a0), some (eJ (a1)), none, some (eI (v1))]) (s2 := [eI (v1), eR v3]) rfl rfl rfl ?_
    refine j_al (np := 63) rfl rfl hI b5 (by decide) (n := 128) rfl rfl (lo := 0) (hi := 64) (fun _ => rfl) (by omega) (by omega) ?_
    intro v11 e12 b13
    have e12 := e12.symm.trans e8
    rw [e12]
    refine w_t (np := 64) (l2 := [some (eR a0), some (eJ (a1)), none, some (eI (v1))]) (s2 := [eI (1), eI (v7)]) rfl rfl rfl ?_
    obtain ⟨v14, e15⟩ : ∃ zz : Int, zz = (v7) - (1) := ⟨_, rfl⟩
    have b16 : 0 ≤ v14 ∧ v14 ≤ 63 := by omega
    refine w_t (np := 65) (l2 := [some (eR a0), some (eJ (a1)), none, some (eI (v1))]) (s2 := [eI (v14)]) rfl (b_isub (by rw [← e15]; exact ev_w_in (by omega) (by omega))) rfl ?_
    refine w_t (np := 66) (l2 := [some (eR a0), some (eJ (a1)), none, some (eI (v1))]) (s2 := [eI (0), eI (v14)]) rfl rfl rfl ?_
    refine w_cu (np := 69) (as := [eI (v14), eI (0)]) (l2 := [some (eI (v14)), some (eI (0))]) (rest := []) rfl rfl rfl (Nat.ble_eq.mp rfl) rfl rfl rfl rfl ?_
    refine w_t (np := 1) (l2 := [some (eI (v14)), some (eI (0))]) (s2 := [eI (v14)]) rfl rfl rfl ?_
    refine w_t (np := 2) (l2 := [some (eI (v14)), some (eI (0))]) (s2 := [eI (0), eI (v14)]) rfl rfl rfl ?_
    refine b_clt (t1 := 9) (t2 := 5) rfl rfl rfl (ev_w_in (by omega) (by omega)) rfl (fun g17 => False.elim (by omega)) (fun g17 => ?_)
    refine w_t (np := 6) (l2 := [some (eI (v14)), some (eI (0))]) (s2 := [eI (v14)]) rfl rfl rfl ?_
    refine w_go (t1 := 10) rfl rfl ?_
    refine b_ri rfl rfl ?_
    show ex_q (dt_fg L ρ) rc (d + 1, (46, 69, [some (eR a0), some (eJ (a1)), none, some (eI (v1))], [eI (v14)]), f :: F, μ)
    exact b_ri rfl rfl (K μ (v14) hI F0 (by omega))
  · have b11 : 0 ≤ v7 ∧ v7 ≤ 0 := by omega
    refine w_t (np := 16) (l2 := [some (eR a0), some (eJ (a1)), none, some (eI (v1))]) (s2 := [eR a0]) rfl (s_an rfl (pos_g hI gA0 (by decide))) rfl ?_
    refine j_gi (np := 19) rfl rfl rfl hI gA0 (by decide) (n := 3) rfl rfl (lo := 0) (hi := 64) rfl ?_
    intro v11 e12 b13
    refine w_t (np := 20) (l2 := [some (eR a0), some (eJ (a1)), none, some (eI (v1))]) (s2 := [eR a0, eI (v11)]) rfl (s_an rfl (pos_g hI gA0 (by decide))) rfl ?_
    refine j_gr (np := 23) rfl rfl hI gA0 (by decide) (n := 3) rfl rfl rfl ?_
    intro v14 e15 b16 z17
    have b16 : g v14 = 13 := Nat.eq_of_beq_eq_true b16
    refine j_len (np := 24) rfl rfl hI b16 (by decide) (c := 101) (n := 64) rfl rfl rfl ?_
    rw [show ((64 : Nat) : Int) = 64 from rfl]
    refine b_cge (t1 := 57) (t2 := 27) rfl rfl rfl (ev_w_in (by omega) (by omega)) rfl (fun g18 => ?_) (fun g18 => ?_)
    · have b19 : 64 ≤ v11 ∧ v11 ≤ 64 := by omega
      refine w_t (np := 58) (l2 := [some (eR a0), some (eJ (a1)), none, some (eI (v1))]) (s2 := [eR a0]) rfl (s_an rfl (pos_g hI gA0 (by decide))) rfl ?_
      refine w_gf (np := 61) (v := eR v3) rfl rfl (hI.kd gA0 (by decide) (n := 3) rfl) (by rw [e4]; rfl) ?_
      refine w_t (np := 62) (l2 := [some (eR a0), some (eJ (a1)), none, some (eI (v1))]) (s2 := [eI (v1), eR v3]) rfl rfl rfl ?_
      refine j_al (np := 63) rfl rfl hI b5 (by decide) (n := 128) rfl rfl (lo := 0) (hi := 64) (fun _ => rfl) (by omega) (by omega) ?_
      intro v19 e20 b21
      have e20 := e20.symm.trans e8
      rw [e20]
      refine w_t (np := 64) (l2 := [some (eR a0), some (eJ (a1)), none, some (eI (v1))]) (s2 := [eI (1), eI (v7)]) rfl rfl rfl ?_
      obtain ⟨v22, e23⟩ : ∃ zz : Int, zz = (v7) - (1) := ⟨_, rfl⟩
      have b24 : -1 ≤ v22 ∧ v22 ≤ -1 := by omega
      refine w_t (np := 65) (l2 := [some (eR a0), some (eJ (a1)), none, some (eI (v1))]) (s2 := [eI (v22)]) rfl (b_isub (by rw [← e23]; exact ev_w_in (by omega) (by omega))) rfl ?_
      refine w_t (np := 66) (l2 := [some (eR a0), some (eJ (a1)), none, some (eI (v1))]) (s2 := [eI (0), eI (v22)]) rfl rfl rfl ?_
      refine w_cu (np := 69) (as := [eI (v22), eI (0)]) (l2 := [some (eI (v22)), some (eI (0))]) (rest := []) rfl rfl rfl (Nat.ble_eq.mp rfl) rfl rfl rfl rfl ?_
      refine w_t (np := 1) (l2 := [some (eI (v22)), some (eI (0))]) (s2 := [eI (v22)]) rfl rfl rfl ?_
      refine w_t (np := 2) (l2 := [some (eI (v22)), some (eI (0))]) (s2 := [eI (0), eI (v22)]) rfl rfl rfl ?_
      refine b_clt (t1 := 9) (t2 := 5) rfl rfl rfl (ev_w_in (by omega) (by omega)) rfl (fun g25 => ?_) (fun g25 => False.elim (by omega))
      refine w_t (np := 10) (l2 := [some (eI (v22)), some (eI (0))]) (s2 := [eI (0)]) rfl rfl rfl ?_
      refine b_ri rfl rfl ?_
      show ex_q (dt_fg L ρ) rc (d + 1, (46, 69, [some (eR a0), some (eJ (a1)), none, some (eI (v1))], [eI (0)]), f :: F, μ)
      exact b_ri rfl rfl (K μ (0) hI F0 (by decide))
    · have b19 : 0 ≤ v11 ∧ v11 ≤ 63 := by omega
      refine w_t (np := 28) (l2 := [some (eR a0), some (eJ (a1)), none, some (eI (v1))]) (s2 := [eR a0]) rfl (s_an rfl (pos_g hI gA0 (by decide))) rfl ?_
      refine w_gf (np := 31) (v := eR v14) rfl rfl (hI.kd gA0 (by decide) (n := 3) rfl) (by rw [e15]; rfl) ?_
      refine w_t (np := 32) (l2 := [some (eR a0), some (eJ (a1)), none, some (eI (v1))]) (s2 := [eR a0, eR v14]) rfl (s_an rfl (pos_g hI gA0 (by decide))) rfl ?_
      refine w_gf (np := 35) (v := eI (v11)) rfl rfl (hI.kd gA0 (by decide) (n := 3) rfl) (by rw [e12]; rfl) ?_
      refine w_t (np := 36) (l2 := [some (eR a0), some (eJ (a1)), none, some (eI (v1))]) (s2 := [eJ (a1), eI (v11), eR v14]) rfl rfl rfl ?_
      refine j_sl (np := 37) rfl rfl hI b16 (by decide) (n := 64) rfl rfl (lo := -9223372036854775808) (hi := 9223372036854775807) (fun _ => rfl) (by omega) (by omega) (by omega) ?_
      intro m19 I20 W21
      have F22 : Fr l_46 0 0 g μ m19 := F0.v W21 b16 rfl rfl
      refine w_t (np := 38) (l2 := [some (eR a0), some (eJ (a1)), none, some (eI (v1))]) (s2 := [eR a0]) rfl (s_an rfl (pos_g I20 gA0 (by decide))) rfl ?_
      refine w_t (np := 39) (l2 := [some (eR a0), some (eJ (a1)), none, some (eI (v1))]) (s2 := [eR a0, eR a0]) rfl rfl rfl ?_
      refine w_gf (np := 42) (v := eI (v11)) rfl rfl (I20.kd gA0 (by decide) (n := 3) rfl) (by rw [(W21.addr e12 b16 gA0 (by decide))]; rfl) ?_
      refine w_t (np := 43) (l2 := [some (eR a0), some (eJ (a1)), none, some (eI (v1))]) (s2 := [eI (1), eI (v11), eR a0]) rfl rfl rfl ?_
      obtain ⟨v23, e24⟩ : ∃ zz : Int, zz = (v11) + (1) := ⟨_, rfl⟩
      have b25 : 1 ≤ v23 ∧ v23 ≤ 64 := by omega
      refine w_t (np := 44) (l2 := [some (eR a0), some (eJ (a1)), none, some (eI (v1))]) (s2 := [eI (v23), eR a0]) rfl (b_iadd (by rw [← e24]; exact ev_w_in (by omega) (by omega))) rfl ?_
      refine j_pf (np := 47) (w := v23) rfl rfl I20 gA0 (by decide) (n := 3) rfl rfl (hO_i (lo := 0) (hi := 64) rfl (by omega)) ?_
      intro m26 I27 W28
      have F29 : Fr l_46 0 0 g μ m26 := F22.w W28 gA0 rfl
      refine w_t (np := 48) (l2 := [some (eR a0), some (eJ (a1)), none, some (eI (v1))]) (s2 := [eR a0]) rfl (s_an rfl (pos_g I27 gA0 (by decide))) rfl ?_
      refine w_gf (np := 51) (v := eR v3) rfl rfl (I27.kd gA0 (by decide) (n := 3) rfl) (by rw [(W28.slot (W21.addr e4 b16 gA0 (by decide)) (by decide))]; rfl) ?_
      refine w_t (np := 52) (l2 := [some (eR a0), some (eJ (a1)), none, some (eI (v1))]) (s2 := [eI (v1), eR v3]) rfl rfl rfl ?_
      refine w_t (np := 53) (l2 := [some (eR a0), some (eJ (a1)), none, some (eI (v1))]) (s2 := [eR a0, eI (v1), eR v3]) rfl (s_an rfl (pos_g I27 gA0 (by decide))) rfl ?_
      refine w_gf (np := 56) (v := eI (v23)) rfl rfl (I27.kd gA0 (by decide) (n := 3) rfl) (by rw [W28.at]; rfl) ?_
      refine j_as (np := 57) rfl rfl I27 b5 (by decide) (n := 128) rfl rfl (lo := 0) (hi := 64) (fun _ => rfl) (by omega) (by omega) (by omega) ?_
      intro m30 I31 W32
      have F33 : Fr l_46 0 0 g μ m30 := F29.v W32 b5 rfl rfl
      refine w_t (np := 58) (l2 := [some (eR a0), some (eJ (a1)), none, some (eI (v1))]) (s2 := [eR a0]) rfl (s_an rfl (pos_g I31 gA0 (by decide))) rfl ?_
      refine w_gf (np := 61) (v := eR v3) rfl rfl (I31.kd gA0 (by decide) (n := 3) rfl) (by rw [(W32.addr (W28.slot (W21.addr e4 b16 gA0 (by decide)) (by decide)) b5 gA0 (by decide))]; rfl) ?_
      refine w_t (np := 62) (l2 := [some (eR a0), some (eJ (a1)), none, some (eI (v1))]) (s2 := [eI (v1), eR v3]) rfl rfl rfl ?_
      refine j_al (np := 63) rfl rfl I31 b5 (by decide) (n := 128) rfl rfl (lo := 0) (hi := 64) (fun _ => rfl) (by omega) (by omega) ?_
      intro v34 e35 b36
      refine w_t (np := 64) (l2 := [some (eR a0), some (eJ (a1)), none, some (eI (v1))]) (s2 := [eI (1), eI (v34)]) rfl rfl rfl ?_
      obtain ⟨v37, e38⟩ : ∃ zz : Int, zz = (v34) - (1) := ⟨_, rfl⟩
      have b39 : -1 ≤ v37 ∧ v37 ≤ 63 := by omega
      refine w_t (np := 65) (l2 := [some (eR a0), some (eJ (a1)), none, some (eI (v1))]) (s2 := [eI (v37)]) rfl (b_isub (by rw [← e38]; exact ev_w_in (by omega) (by omega))) rfl ?_
      refine w_t (np := 66) (l2 := [some (eR a0), some (eJ (a1)), none, some (eI (v1))]) (s2 := [eI (0), eI (v37)]) rfl rfl rfl ?_
      refine w_cu (np := 69) (as := [eI (v37), eI (0)]) (l2 := [some (eI (v37)), some (eI (0))]) (rest := []) rfl rfl rfl (Nat.ble_eq.mp rfl) rfl rfl rfl rfl ?_
      refine w_t (np := 1) (l2 := [some (eI (v37)), some (eI (0))]) (s2 := [eI (v37)]) rfl rfl rfl ?_
      refine w_t (np := 2) (l2 := [some (eI (v37)), some (eI (0))]) (s2 := [eI (0), eI (v37)]) rfl rfl rfl ?_
      refine b_clt (t1 := 9) (t2 := 5) rfl rfl rfl (ev_w_in (by omega) (by omega)) rfl (fun g40 => ?_) (fun g40 => ?_)
      · have b41 : -1 ≤ v37 ∧ v37 ≤ -1 := by omega
        refine w_t (np := 10) (l2 := [some (eI (v37)), some (eI (0))]) (s2 := [eI (0)]) rfl rfl rfl ?_
        refine b_ri rfl rfl ?_
        show ex_q (dt_fg L ρ) rc (d + 1, (46, 69, [some (eR a0), some (eJ (a1)), none, some (eI (v1))], [eI (0)]), f :: F, m30)
        exact b_ri rfl rfl (K m30 (0) I31 F33 (by decide))
      · have b41 : 0 ≤ v37 ∧ v37 ≤ 63 := by omega
        refine w_t (np := 6) (l2 := [some (eI (v37)), some (eI (0))]) (s2 := [eI (v37)]) rfl rfl rfl ?_
        refine w_go (t1 := 10) rfl rfl ?_
        refine b_ri rfl rfl ?_
        show ex_q (dt_fg L ρ) rc (d + 1, (46, 69, [some (eR a0), some (eJ (a1)), none, some (eI (v1))], [eI (v37)]), f :: F, m30)
        exact b_ri rfl rfl (K m30 (v37) I31 F33 (by omega))
